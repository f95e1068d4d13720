set_option maxHeartbeats 4000000 in
set_option maxRecDepth 100000 in
/-- a coin comes to place j -/
theorem kX_insertAt (l : Launch) (dC : Nat → ClassId) (dI : Nat → Nat → Nat) (h0 q1 q2 q3 sz : Nat) (cL cI cJ : ClassId) (f : Nat → Int64) (g h : Nat → Int32) (n : Nat) (j : Nat) (id : Int64) (ix v : Int32) (hj : j ≤ n) (hn : n < 900) : Met l yX0_insertAt wsX0_insertAt ({ frames := 2, cells := 0, slots := 0, locals := 80 } : Room) (va_Pc [.ref h0, .int (nI j), .long id, .int ix, .int v] (nt_in dC dI 0 h0 q1 q2 q3 cL cI cJ f g h n sz)) (va_Qv (fun (u : nt_S) => u = nt_insS (f, g, h, n) j id ix v) (nt_out dC dI 0 h0 q1 q2 q3 cL cI cJ (va_A (nt_w 0 h0 q1 q2 q3 cL cI cJ f g h n) sz)) (va_A (nt_w 0 h0 q1 q2 q3 cL cI cJ f g h n) sz)) 0 0 (va_A (nt_w 0 h0 q1 q2 q3 cL cI cJ f g h n) sz) := by
  refine Met.ofW (cc := cX0_insertAt) (maxL := 6) (ret := none) (by decide) rfl ?_
  intro p e s m args below meth c s₁ B hml hv
  obtain ⟨rfl, hsz, hP, hK, hD0⟩ := hv
  have hx := B.exec
  have hb := B.bytes
  have hr := B.returns
  have hts := atoms_spec (ws := wsX0_insertAt) B.pre
  have hown : s.vm.findClass RX0 = some m.cls := findClass_of_methodNamed B.named
  have hlocks := B.notSynchronized
  subst hsz
  have hD := hD0.self (sz := s.heap.size)
  generalize hAe : va_A (nt_w 0 h0 q1 q2 q3 cL cI cJ f g h n) s.heap.size = A at hD ⊢
  have hA : ∀ q : Nat, s.heap.size ≤ q → A q := fun q h => by rw [← hAe]; exact Or.inr h
  have hS : va_S A s.heap s.heap [] := va_S.rf
  have hin : ∀ w ∈ u_ws RX0 TX0 4, w ∈ wsX0_insertAt := by decide +kernel
  have hf0 := hts (.fieldLink RX0 9 "NameTable" "ids" "[J") (by decide +kernel)
  have hf1 := hts (.fieldLink RX0 13 "NameTable" "indexes" "[I") (by decide +kernel)
  have hf2 := hts (.fieldLink RX0 17 "NameTable" "values" "[I") (by decide +kernel)
  have hf3 := hts (.fieldLink RX0 20 "NameTable" "count" "I") (by decide +kernel)
  have hl := lv_entry ([.ref h0, .int (nI j), .long id, .int ix, .int v]) (n := 6) (Nat.le_of_ble_eq_true rfl)
  rw [lg_entry_eq]
  generalize (lg_sl ([.ref h0, .int (nI j), .long id, .int ix, .int v]) ++ List.replicate (6 - (lg_sl ([.ref h0, .int (nI j), .long id, .int ix, .int v])).length) Slot.unset).toArray = ls at hl ⊢
  have hl : lv_has ls 6 [(0, .ref h0), (1, .int (nI j)), (2, .long id), (4, .int ix), (5, .int v)] := hl
  refine lv_aload_n hx hb dX0_insertAt_0 rfl (lv_at hl 0 rfl) ?_
  refine lv_iload_n hx hb dX0_insertAt_1 rfl (lv_at hl 1 rfl) ?_
  refine lv_iload_n hx hb dX0_insertAt_2 rfl (lv_at hl 1 rfl) ?_
  refine lv_iconst (v := 1) hx hb dX0_insertAt_3 (by decide) ?_
  refine lv_iadd hx hb dX0_insertAt_4 ?_
  refine nt_top (y := nI (j + 1)) (nI_1 _) ?_
  refine nt_callv (va_runV (As := [.int (nI j), .int (nI (j + 1))]) (rest := []) ⟨hx, hb, hml, hown, hts⟩ (kX_moveTail l dC dI h0 q1 q2 q3 _ cL cI cJ f g h n j (j + 1) hj (by omega) (by omega)) (cwV 2 hts gX0_insertAt_X0_moveTail rfl rfl rfl (by decide +kernel) ⟨Nat.le_of_ble_eq_true rfl, Nat.le_of_ble_eq_true rfl⟩) (nt_preV rfl hP hK hD [.int (nI j), .int (nI (j + 1))]) rfl rfl hl.1 rfl (lv_room (Nat.le_of_ble_eq_true rfl)) dX0_insertAt_5 ⟨Nat.zero_le _, Nat.zero_le _⟩) hP hD hS hA (fun u H locs hpost hP hD hS => ?_)
  subst hpost
  have hP : va_P (dC, dI) vwCl (nt_w 0 h0 q1 q2 q3 cL cI cJ (va_cpy f f j (j + 1) (n - j)) (va_cpy g g j (j + 1) (n - j)) (va_cpy h h j (j + 1) (n - j)) n) H := hP
  have hD : va_D A (nt_w 0 h0 q1 q2 q3 cL cI cJ (va_cpy f f j (j + 1) (n - j)) (va_cpy g g j (j + 1) (n - j)) (va_cpy h h j (j + 1) (n - j)) n) := hD
  refine lv_aload_n hx hb dX0_insertAt_8 rfl (lv_at hl 0 rfl) ?_
  refine va_get (D := (dC, dI)) (ci := 0) (v := .ref q1) (C := RX0) (T := TX0) (N := 4) hx hb hts hin hown hK hP 0 rfl rfl 0 (by decide) hf0 (fun _ h9 => h9) rfl dX0_insertAt_9 ?_
  refine lv_iload_n hx hb dX0_insertAt_12 rfl (lv_at hl 1 rfl) ?_
  refine lv_lload_n hx hb dX0_insertAt_13 rfl (lv_at hl 2 rfl) ?_
  refine nt_last hx hb hK hP hD hS 1 0 rfl rfl (by omega) dX0_insertAt_14 (fun H locs hP hD hS => ?_)
  have hP : va_P (dC, dI) vwCl (nt_w 0 h0 q1 q2 q3 cL cI cJ (nt_up (va_cpy f f j (j + 1) (n - j)) j id) (va_cpy g g j (j + 1) (n - j)) (va_cpy h h j (j + 1) (n - j)) n) H := hP
  have hD : va_D A (nt_w 0 h0 q1 q2 q3 cL cI cJ (nt_up (va_cpy f f j (j + 1) (n - j)) j id) (va_cpy g g j (j + 1) (n - j)) (va_cpy h h j (j + 1) (n - j)) n) := hD
  refine lv_aload_n hx hb dX0_insertAt_15 rfl (lv_at hl 0 rfl) ?_
  refine va_get (D := (dC, dI)) (ci := 0) (v := .ref q2) (C := RX0) (T := TX0) (N := 4) hx hb hts hin hown hK hP 0 rfl rfl 1 (by decide) hf1 (fun _ h9 => h9) rfl dX0_insertAt_16 ?_
  refine lv_iload_n hx hb dX0_insertAt_19 rfl (lv_at hl 1 rfl) ?_
  refine lv_iload hx hb dX0_insertAt_20 (lv_at hl 3 rfl) ?_
  refine nt_iast hx hb hK hP hD hS 2 1 rfl rfl (by omega) dX0_insertAt_22 (fun H locs hP hD hS => ?_)
  have hP : va_P (dC, dI) vwCl (nt_w 0 h0 q1 q2 q3 cL cI cJ (nt_up (va_cpy f f j (j + 1) (n - j)) j id) (nt_up (va_cpy g g j (j + 1) (n - j)) j ix) (va_cpy h h j (j + 1) (n - j)) n) H := hP
  have hD : va_D A (nt_w 0 h0 q1 q2 q3 cL cI cJ (nt_up (va_cpy f f j (j + 1) (n - j)) j id) (nt_up (va_cpy g g j (j + 1) (n - j)) j ix) (va_cpy h h j (j + 1) (n - j)) n) := hD
  refine lv_aload_n hx hb dX0_insertAt_23 rfl (lv_at hl 0 rfl) ?_
  refine va_get (D := (dC, dI)) (ci := 0) (v := .ref q3) (C := RX0) (T := TX0) (N := 4) hx hb hts hin hown hK hP 0 rfl rfl 2 (by decide) hf2 (fun _ h9 => h9) rfl dX0_insertAt_24 ?_
  refine lv_iload_n hx hb dX0_insertAt_27 rfl (lv_at hl 1 rfl) ?_
  refine lv_iload hx hb dX0_insertAt_28 (lv_at hl 4 rfl) ?_
  refine nt_iast hx hb hK hP hD hS 3 2 rfl rfl (by omega) dX0_insertAt_30 (fun H locs hP hD hS => ?_)
  have hP : va_P (dC, dI) vwCl (nt_w 0 h0 q1 q2 q3 cL cI cJ (nt_up (va_cpy f f j (j + 1) (n - j)) j id) (nt_up (va_cpy g g j (j + 1) (n - j)) j ix) (nt_up (va_cpy h h j (j + 1) (n - j)) j v) n) H := hP
  have hD : va_D A (nt_w 0 h0 q1 q2 q3 cL cI cJ (nt_up (va_cpy f f j (j + 1) (n - j)) j id) (nt_up (va_cpy g g j (j + 1) (n - j)) j ix) (nt_up (va_cpy h h j (j + 1) (n - j)) j v) n) := hD
  refine lv_aload_n hx hb dX0_insertAt_31 rfl (lv_at hl 0 rfl) ?_
  refine lv_dup hx hb dX0_insertAt_32 rfl ?_
  refine va_get (D := (dC, dI)) (ci := 0) (v := .int (nI n)) (C := RX0) (T := TX0) (N := 4) hx hb hts hin hown hK hP 0 rfl rfl 3 (by decide) hf3 (fun _ h9 => h9) rfl dX0_insertAt_33 ?_
  refine lv_iconst (v := 1) hx hb dX0_insertAt_36 (by decide) ?_
  refine lv_iadd hx hb dX0_insertAt_37 ?_
  refine nt_top (y := nI (n + 1)) (nI_1 _) ?_
  refine va_put (D := (dC, dI)) (ci := 0) (v := .int (nI (n + 1))) (ty := .int) (C := RX0) (T := TX0) (N := 4) hx hb hts hin tyX0 tyX0_ok nmX0 hown hK hP hD hS 0 rfl rfl 3 (by decide) hf3 (fun _ h9 => h9) rfl (by decide +kernel) rfl rfl (Nat.le_of_ble_eq_true rfl) dX0_insertAt_38 (fun H locs hP hD hS => ?_)
  have hP : va_P (dC, dI) vwCl (nt_w 0 h0 q1 q2 q3 cL cI cJ (nt_up (va_cpy f f j (j + 1) (n - j)) j id) (nt_up (va_cpy g g j (j + 1) (n - j)) j ix) (nt_up (va_cpy h h j (j + 1) (n - j)) j v) (n + 1)) H := hP
  have hD : va_D A (nt_w 0 h0 q1 q2 q3 cL cI cJ (nt_up (va_cpy f f j (j + 1) (n - j)) j id) (nt_up (va_cpy g g j (j + 1) (n - j)) j ix) (nt_up (va_cpy h h j (j + 1) (n - j)) j v) (n + 1)) := hD
  rw [nt_ins_cpy f hj, nt_ins_cpy g hj, nt_ins_cpy h hj] at hP hD
  exact W.vret hx hb hr (fun t ht hW => ⟨⟨nt_insS (f, g, h, n) j id ix v, rfl, rfl, by rw [ht]; exact hP, va_K.moved hW.alike hK, hD⟩, hS.F ht⟩) hS.2.2 dX0_insertAt_41
set_option maxHeartbeats 4000000 in
set_option maxRecDepth 100000 in
/-- the coin at place j goes -/
theorem kX_deleteAt (l : Launch) (dC : Nat → ClassId) (dI : Nat → Nat → Nat) (h0 q1 q2 q3 sz : Nat) (cL cI cJ : ClassId) (f : Nat → Int64) (g h : Nat → Int32) (n : Nat) (j : Nat) (hj : j < n) (hn : n ≤ 900) : Met l yX0_deleteAt wsX0_deleteAt ({ frames := 2, cells := 0, slots := 0, locals := 80 } : Room) (va_Pc [.ref h0, .int (nI j)] (nt_in dC dI 0 h0 q1 q2 q3 cL cI cJ f g h n sz)) (va_Qi (fun (r : Int32) (u : nt_S) => (r, u) = (h j, nt_delS (f, g, h, n) j)) (nt_out dC dI 0 h0 q1 q2 q3 cL cI cJ (va_A (nt_w 0 h0 q1 q2 q3 cL cI cJ f g h n) sz)) (va_A (nt_w 0 h0 q1 q2 q3 cL cI cJ f g h n) sz)) 0 0 (va_A (nt_w 0 h0 q1 q2 q3 cL cI cJ f g h n) sz) := by
  refine Met.ofW (cc := cX0_deleteAt) (maxL := 3) (ret := (some .int)) (by decide) rfl ?_
  intro p e s m args below meth c s₁ B hml hv
  obtain ⟨rfl, hsz, hP, hK, hD0⟩ := hv
  have hx := B.exec
  have hb := B.bytes
  have hr := B.returns
  have hts := atoms_spec (ws := wsX0_deleteAt) B.pre
  have hown : s.vm.findClass RX0 = some m.cls := findClass_of_methodNamed B.named
  have hlocks := B.notSynchronized
  subst hsz
  have hD := hD0.self (sz := s.heap.size)
  generalize hAe : va_A (nt_w 0 h0 q1 q2 q3 cL cI cJ f g h n) s.heap.size = A at hD ⊢
  have hA : ∀ q : Nat, s.heap.size ≤ q → A q := fun q h => by rw [← hAe]; exact Or.inr h
  have hS : va_S A s.heap s.heap [] := va_S.rf
  have hin : ∀ w ∈ u_ws RX0 TX0 4, w ∈ wsX0_deleteAt := by decide +kernel
  have hf2 := hts (.fieldLink RX0 17 "NameTable" "values" "[I") (by decide +kernel)
  have hf3 := hts (.fieldLink RX0 20 "NameTable" "count" "I") (by decide +kernel)
  have hl := lv_entry ([.ref h0, .int (nI j)]) (n := 3) (Nat.le_of_ble_eq_true rfl)
  rw [lg_entry_eq]
  generalize (lg_sl ([.ref h0, .int (nI j)]) ++ List.replicate (3 - (lg_sl ([.ref h0, .int (nI j)])).length) Slot.unset).toArray = ls at hl ⊢
  have hl : lv_has ls 3 [(0, .ref h0), (1, .int (nI j))] := hl
  refine lv_aload_n hx hb dX0_deleteAt_0 rfl (lv_at hl 0 rfl) ?_
  refine va_get (D := (dC, dI)) (ci := 0) (v := .ref q3) (C := RX0) (T := TX0) (N := 4) hx hb hts hin hown hK hP 0 rfl rfl 2 (by decide) hf2 (fun _ h9 => h9) rfl dX0_deleteAt_1 ?_
  refine lv_iload_n hx hb dX0_deleteAt_4 rfl (lv_at hl 1 rfl) ?_
  refine nt_iald hx hb hK hP 3 2 rfl rfl (by omega) dX0_deleteAt_5 ?_
  refine lv_istore_n (lv' := [(2, .int (h j)), (0, .ref h0), (1, .int (nI j))]) hx hb dX0_deleteAt_6 rfl hl (by decide) rfl (fun ls hl => ?_)
  refine lv_aload_n hx hb dX0_deleteAt_7 rfl (lv_at hl 1 rfl) ?_
  refine lv_iload_n hx hb dX0_deleteAt_8 rfl (lv_at hl 2 rfl) ?_
  refine lv_iconst (v := 1) hx hb dX0_deleteAt_9 (by decide) ?_
  refine lv_iadd hx hb dX0_deleteAt_10 ?_
  refine nt_top (y := nI (j + 1)) (nI_1 _) ?_
  refine lv_iload_n hx hb dX0_deleteAt_11 rfl (lv_at hl 2 rfl) ?_
  refine nt_callv (va_runV (As := [.int (nI (j + 1)), .int (nI j)]) (rest := []) ⟨hx, hb, hml, hown, hts⟩ (kX_moveTail l dC dI h0 q1 q2 q3 _ cL cI cJ f g h n (j + 1) j (by omega) (by omega) (by omega)) (cwV 2 hts gX0_deleteAt_X0_moveTail rfl rfl rfl (by decide +kernel) ⟨Nat.le_of_ble_eq_true rfl, Nat.le_of_ble_eq_true rfl⟩) (nt_preV rfl hP hK hD [.int (nI (j + 1)), .int (nI j)]) rfl rfl hl.1 rfl (lv_room (Nat.le_of_ble_eq_true rfl)) dX0_deleteAt_12 ⟨Nat.zero_le _, Nat.zero_le _⟩) hP hD hS hA (fun u H locs hpost hP hD hS => ?_)
  subst hpost
  have hP : va_P (dC, dI) vwCl (nt_w 0 h0 q1 q2 q3 cL cI cJ (va_cpy f f (j + 1) j (n - (j + 1))) (va_cpy g g (j + 1) j (n - (j + 1))) (va_cpy h h (j + 1) j (n - (j + 1))) n) H := hP
  have hD : va_D A (nt_w 0 h0 q1 q2 q3 cL cI cJ (va_cpy f f (j + 1) j (n - (j + 1))) (va_cpy g g (j + 1) j (n - (j + 1))) (va_cpy h h (j + 1) j (n - (j + 1))) n) := hD
  refine lv_aload_n hx hb dX0_deleteAt_15 rfl (lv_at hl 1 rfl) ?_
  refine lv_dup hx hb dX0_deleteAt_16 rfl ?_
  refine va_get (D := (dC, dI)) (ci := 0) (v := .int (nI n)) (C := RX0) (T := TX0) (N := 4) hx hb hts hin hown hK hP 0 rfl rfl 3 (by decide) hf3 (fun _ h9 => h9) rfl dX0_deleteAt_17 ?_
  refine lv_iconst (v := 1) hx hb dX0_deleteAt_20 (by decide) ?_
  refine lv_isub hx hb dX0_deleteAt_21 ?_
  refine nt_top (y := nI (n - 1)) (pk_sub (a := n) (b := 1) (by omega)) ?_
  refine va_put (D := (dC, dI)) (ci := 0) (v := .int (nI (n - 1))) (ty := .int) (C := RX0) (T := TX0) (N := 4) hx hb hts hin tyX0 tyX0_ok nmX0 hown hK hP hD hS 0 rfl rfl 3 (by decide) hf3 (fun _ h9 => h9) rfl (by decide +kernel) rfl rfl (Nat.le_of_ble_eq_true rfl) dX0_deleteAt_22 (fun H locs hP hD hS => ?_)
  have hP : va_P (dC, dI) vwCl (nt_w 0 h0 q1 q2 q3 cL cI cJ (va_cpy f f (j + 1) j (n - (j + 1))) (va_cpy g g (j + 1) j (n - (j + 1))) (va_cpy h h (j + 1) j (n - (j + 1))) (n - 1)) H := hP
  have hD : va_D A (nt_w 0 h0 q1 q2 q3 cL cI cJ (va_cpy f f (j + 1) j (n - (j + 1))) (va_cpy g g (j + 1) j (n - (j + 1))) (va_cpy h h (j + 1) j (n - (j + 1))) (n - 1)) := hD
  refine lv_iload_n hx hb dX0_deleteAt_25 rfl (lv_at hl 0 rfl) ?_
  rw [nt_del_cpy f hj, nt_del_cpy g hj, nt_del_cpy h hj] at hP hD
  exact W.iret (v := h j) hx hb hr (fun t ht hW => ⟨⟨h j, nt_delS (f, g, h, n) j, rfl, rfl, by rw [ht]; exact hP, va_K.moved hW.alike hK, hD⟩, hS.F ht⟩) hS.2.2 dX0_deleteAt_26
