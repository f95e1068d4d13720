set_option maxHeartbeats 4000000 in
set_option maxRecDepth 100000 in
theorem kX_isIndex (l : Launch) (sz : Nat) (ix : Int32) : Met l yX0_isIndex wsX0_isIndex ({ frames := 0, cells := 0, slots := 0, locals := 0 } : Room) (va_Pc [.int ix] (fun U => U.heap.size = sz)) (va_Qi (fun (r : Int32) (_ : Unit) => nt_b r (¬ (ix < 0 ∨ 7 < ix))) (fun _ _ => True) (va_A [] sz)) 0 0 (va_A [] sz) := by
  refine Met.ofW (cc := cX0_isIndex) (maxL := 1) (ret := (some .boolean)) (by decide) rfl ?_
  intro p e s m args below meth c s₁ B hml hv
  obtain ⟨rfl, hsz⟩ := hv
  have hx := B.exec
  have hb := B.bytes
  have hr := B.returns
  have hlocks := B.notSynchronized
  subst hsz
  have hS : va_S (va_A [] s.heap.size) s.heap s.heap [] := va_S.rf
  have hl := lv_entry ([.int ix]) (n := 1) (Nat.le_of_ble_eq_true rfl)
  rw [lg_entry_eq]
  generalize (lg_sl ([.int ix]) ++ List.replicate (1 - (lg_sl ([.int ix])).length) Slot.unset).toArray = ls at hl ⊢
  have hl : lv_has ls 1 [(0, .int ix)] := hl
  refine lv_iload_n hx hb dX0_isIndex_0 rfl (lv_at hl 0 rfl) ?_
  refine lv_if_lt (tgt := 14) hx hb dX0_isIndex_1 (by decide) (fun h1 => ?_) (fun h1 => ?_)
  · refine lv_iconst (v := 0) hx hb dX0_isIndex_14 (by decide) ?_
    exact W.zret (v := 0) hx hb hr narrow_b0 (fun t ht hW => ⟨⟨0, (), rfl, Or.inr ⟨rfl, fun h9 => h9 (Or.inl h1)⟩, trivial⟩, hS.F ht⟩) hS.2.2 dX0_isIndex_15
  · refine lv_iload_n hx hb dX0_isIndex_4 rfl (lv_at hl 0 rfl) ?_
    refine lv_bipush (v := 8) hx hb dX0_isIndex_5 (by decide) ?_
    refine lv_icmp_ge (tgt := 14) hx hb dX0_isIndex_7 (by decide) (fun h2 => ?_) (fun h2 => ?_)
    · refine lv_iconst (v := 0) hx hb dX0_isIndex_14 (by decide) ?_
      exact W.zret (v := 0) hx hb hr narrow_b0 (fun t ht hW => ⟨⟨0, (), rfl, Or.inr ⟨rfl, fun h9 => h9 (Or.inr ((nt_ix8 ix).mp h2))⟩, trivial⟩, hS.F ht⟩) hS.2.2 dX0_isIndex_15
    · refine lv_iconst (v := 1) hx hb dX0_isIndex_10 (by decide) ?_
      refine lv_goto (tgt := 15) hx hb dX0_isIndex_11 (by decide) ?_
      exact W.zret (v := 1) hx hb hr narrow_b1 (fun t ht hW => ⟨⟨1, (), rfl, Or.inl ⟨rfl, fun h9 => h9.elim h1 (fun h8 => h2 ((nt_ix8 ix).mpr h8))⟩, trivial⟩, hS.F ht⟩) hS.2.2 dX0_isIndex_15
set_option maxHeartbeats 4000000 in
set_option maxRecDepth 100000 in
/-- is k a place -/
theorem kX_isPlace (l : Launch) (dC : Nat → ClassId) (dI : Nat → Nat → Nat) (h0 q1 q2 q3 sz : Nat) (cL cI cJ : ClassId) (f : Nat → Int64) (g h : Nat → Int32) (n : Nat) (k : Int32) (hn : n ≤ 900) : Met l yX0_isPlace wsX0_isPlace ({ frames := 0, cells := 0, slots := 0, locals := 0 } : Room) (va_Pc [.ref h0, .int k] (nt_in dC dI 0 h0 q1 q2 q3 cL cI cJ f g h n sz)) (va_Qi (fun (r : Int32) (u : nt_S) => nt_b r (¬ (k < 0 ∨ nI n ≤ k)) ∧ u = (f, g, h, n)) (nt_out dC dI 0 h0 q1 q2 q3 cL cI cJ (va_A (nt_w 0 h0 q1 q2 q3 cL cI cJ f g h n) sz)) (va_A (nt_w 0 h0 q1 q2 q3 cL cI cJ f g h n) sz)) 0 0 (va_A (nt_w 0 h0 q1 q2 q3 cL cI cJ f g h n) sz) := by
  refine Met.ofW (cc := cX0_isPlace) (maxL := 2) (ret := (some .boolean)) (by decide) rfl ?_
  intro p e s m args below meth c s₁ B hml hv
  obtain ⟨rfl, hsz, hP, hK, hD0⟩ := hv
  have hx := B.exec
  have hb := B.bytes
  have hr := B.returns
  have hts := atoms_spec (ws := wsX0_isPlace) B.pre
  have hown : s.vm.findClass RX0 = some m.cls := findClass_of_methodNamed B.named
  have hlocks := B.notSynchronized
  subst hsz
  have hD := hD0.self (sz := s.heap.size)
  generalize hAe : va_A (nt_w 0 h0 q1 q2 q3 cL cI cJ f g h n) s.heap.size = A at hD ⊢
  have hA : ∀ q : Nat, s.heap.size ≤ q → A q := fun q h => by rw [← hAe]; exact Or.inr h
  have hS : va_S A s.heap s.heap [] := va_S.rf
  have hin : ∀ w ∈ u_ws RX0 TX0 4, w ∈ wsX0_isPlace := by decide +kernel
  have hf3 := hts (.fieldLink RX0 20 "NameTable" "count" "I") (by decide +kernel)
  have hl := lv_entry ([.ref h0, .int k]) (n := 2) (Nat.le_of_ble_eq_true rfl)
  rw [lg_entry_eq]
  generalize (lg_sl ([.ref h0, .int k]) ++ List.replicate (2 - (lg_sl ([.ref h0, .int k])).length) Slot.unset).toArray = ls at hl ⊢
  have hl : lv_has ls 2 [(0, .ref h0), (1, .int k)] := hl
  refine lv_iload_n hx hb dX0_isPlace_0 rfl (lv_at hl 1 rfl) ?_
  refine lv_if_lt (tgt := 16) hx hb dX0_isPlace_1 (by decide) (fun h1 => ?_) (fun h1 => ?_)
  · refine lv_iconst (v := 0) hx hb dX0_isPlace_16 (by decide) ?_
    exact W.zret (v := 0) hx hb hr narrow_b0 (fun t ht hW => ⟨⟨0, (f, g, h, n), rfl, ⟨Or.inr ⟨rfl, fun h9 => h9 (Or.inl h1)⟩, rfl⟩, by rw [ht]; exact hP, va_K.moved hW.alike hK, hD⟩, hS.F ht⟩) hS.2.2 dX0_isPlace_17
  · refine lv_iload_n hx hb dX0_isPlace_4 rfl (lv_at hl 1 rfl) ?_
    refine lv_aload_n hx hb dX0_isPlace_5 rfl (lv_at hl 0 rfl) ?_
    refine va_get (D := (dC, dI)) (ci := 0) (v := .int (nI n)) (C := RX0) (T := TX0) (N := 4) hx hb hts hin hown hK hP 0 rfl rfl 3 (by decide) hf3 (fun _ h9 => h9) rfl dX0_isPlace_6 ?_
    refine lv_icmp_ge (tgt := 16) hx hb dX0_isPlace_9 (by decide) (fun h2 => ?_) (fun h2 => ?_)
    · refine lv_iconst (v := 0) hx hb dX0_isPlace_16 (by decide) ?_
      exact W.zret (v := 0) hx hb hr narrow_b0 (fun t ht hW => ⟨⟨0, (f, g, h, n), rfl, ⟨Or.inr ⟨rfl, fun h9 => h9 (Or.inr h2)⟩, rfl⟩, by rw [ht]; exact hP, va_K.moved hW.alike hK, hD⟩, hS.F ht⟩) hS.2.2 dX0_isPlace_17
    · refine lv_iconst (v := 1) hx hb dX0_isPlace_12 (by decide) ?_
      refine lv_goto (tgt := 17) hx hb dX0_isPlace_13 (by decide) ?_
      exact W.zret (v := 1) hx hb hr narrow_b1 (fun t ht hW => ⟨⟨1, (f, g, h, n), rfl, ⟨Or.inl ⟨rfl, fun h9 => h9.elim h1 h2⟩, rfl⟩, by rw [ht]; exact hP, va_K.moved hW.alike hK, hD⟩, hS.F ht⟩) hS.2.2 dX0_isPlace_17
set_option maxHeartbeats 4000000 in
set_option maxRecDepth 100000 in
/-- has the coin at j this name -/
theorem kX_isNamed (l : Launch) (dC : Nat → ClassId) (dI : Nat → Nat → Nat) (h0 q1 q2 q3 sz : Nat) (cL cI cJ : ClassId) (f : Nat → Int64) (g h : Nat → Int32) (n : Nat) (j : Nat) (id : Int64) (ix : Int32) (hj : j ≤ 900) (hn : n ≤ 900) : Met l yX0_isNamed wsX0_isNamed ({ frames := 1, cells := 0, slots := 0, locals := 40 } : Room) (va_Pc [.ref h0, .int (nI j), .long id, .int ix] (nt_in dC dI 0 h0 q1 q2 q3 cL cI cJ f g h n sz)) (va_Qi (fun (r : Int32) (u : nt_S) => nt_b r (nt_is (f, g, h, n) id ix j) ∧ u = (f, g, h, n)) (nt_out dC dI 0 h0 q1 q2 q3 cL cI cJ (va_A (nt_w 0 h0 q1 q2 q3 cL cI cJ f g h n) sz)) (va_A (nt_w 0 h0 q1 q2 q3 cL cI cJ f g h n) sz)) 0 0 (va_A (nt_w 0 h0 q1 q2 q3 cL cI cJ f g h n) sz) := by
  refine Met.ofW (cc := cX0_isNamed) (maxL := 5) (ret := (some .boolean)) (by decide) rfl ?_
  intro p e s m args below meth c s₁ B hml hv
  obtain ⟨rfl, hsz, hP, hK, hD0⟩ := hv
  have hx := B.exec
  have hb := B.bytes
  have hr := B.returns
  have hts := atoms_spec (ws := wsX0_isNamed) B.pre
  have hown : s.vm.findClass RX0 = some m.cls := findClass_of_methodNamed B.named
  have hlocks := B.notSynchronized
  subst hsz
  have hD := hD0.self (sz := s.heap.size)
  generalize hAe : va_A (nt_w 0 h0 q1 q2 q3 cL cI cJ f g h n) s.heap.size = A at hD ⊢
  have hA : ∀ q : Nat, s.heap.size ≤ q → A q := fun q h => by rw [← hAe]; exact Or.inr h
  have hS : va_S A s.heap s.heap [] := va_S.rf
  have hin : ∀ w ∈ u_ws RX0 TX0 4, w ∈ wsX0_isNamed := by decide +kernel
  have hf0 := hts (.fieldLink RX0 9 "NameTable" "ids" "[J") (by decide +kernel)
  have hf1 := hts (.fieldLink RX0 13 "NameTable" "indexes" "[I") (by decide +kernel)
  have hl := lv_entry ([.ref h0, .int (nI j), .long id, .int ix]) (n := 5) (Nat.le_of_ble_eq_true rfl)
  rw [lg_entry_eq]
  generalize (lg_sl ([.ref h0, .int (nI j), .long id, .int ix]) ++ List.replicate (5 - (lg_sl ([.ref h0, .int (nI j), .long id, .int ix])).length) Slot.unset).toArray = ls at hl ⊢
  have hl : lv_has ls 5 [(0, .ref h0), (1, .int (nI j)), (2, .long id), (4, .int ix)] := hl
  refine lv_aload_n hx hb dX0_isNamed_0 rfl (lv_at hl 0 rfl) ?_
  refine lv_iload_n hx hb dX0_isNamed_1 rfl (lv_at hl 1 rfl) ?_
  refine nt_calli (va_runV (As := [.int (nI j)]) (rest := []) ⟨hx, hb, hml, hown, hts⟩ (kX_isPlace l dC dI h0 q1 q2 q3 _ cL cI cJ f g h n (nI j) hn) (cwV 1 hts gX0_isNamed_X0_isPlace rfl rfl rfl (by decide +kernel) ⟨Nat.le_of_ble_eq_true rfl, Nat.le_of_ble_eq_true rfl⟩) (nt_preV rfl hP hK hD [.int (nI j)]) rfl rfl hl.1 rfl (lv_room (Nat.le_of_ble_eq_true rfl)) dX0_isNamed_2 ⟨Nat.zero_le _, Nat.zero_le _⟩) hP hD hS hA (fun r u H locs hpost hP hD hS => ?_)
  obtain ⟨hpost, rfl⟩ := hpost
  have hP : va_P (dC, dI) vwCl (nt_w 0 h0 q1 q2 q3 cL cI cJ f g h n) H := hP
  have hD : va_D A (nt_w 0 h0 q1 q2 q3 cL cI cJ f g h n) := hD
  rcases hpost with ⟨rfl, hc⟩ | ⟨rfl, hc⟩
  · refine lv_if_eq (tgt := 34) hx hb dX0_isNamed_5 (by decide) (fun h9 => absurd h9 (by decide)) (fun _ => ?_)
    have hjn : j < n := Nat.lt_of_not_le (fun h9 => hc (Or.inr (nI_le h9 (by omega))))
    refine lv_aload_n hx hb dX0_isNamed_8 rfl (lv_at hl 0 rfl) ?_
    refine va_get (D := (dC, dI)) (ci := 0) (v := .ref q1) (C := RX0) (T := TX0) (N := 4) hx hb hts hin hown hK hP 0 rfl rfl 0 (by decide) hf0 (fun _ h9 => h9) rfl dX0_isNamed_9 ?_
    refine lv_iload_n hx hb dX0_isNamed_12 rfl (lv_at hl 1 rfl) ?_
    refine nt_lald hx hb hK hP 1 0 rfl rfl (by omega) dX0_isNamed_13 ?_
    refine lv_lload_n hx hb dX0_isNamed_14 rfl (lv_at hl 2 rfl) ?_
    refine W.lcmp hx hb dX0_isNamed_15 ?_
    refine lv_if_ne (tgt := 34) hx hb dX0_isNamed_16 (by decide) (fun h1 => ?_) (fun h1 => ?_)
    · refine lv_iconst (v := 0) hx hb dX0_isNamed_34 (by decide) ?_
      exact W.zret (v := 0) hx hb hr narrow_b0 (fun t ht hW => ⟨⟨0, (f, g, h, n), rfl, ⟨Or.inr ⟨rfl, fun h9 => h1 ((lg_cmp_eq _ _).mpr h9.2.1)⟩, rfl⟩, by rw [ht]; exact hP, va_K.moved hW.alike hK, hD⟩, hS.F ht⟩) hS.2.2 dX0_isNamed_35
    · have h1 : f j = id := (lg_cmp_eq _ _).mp h1
      refine lv_aload_n hx hb dX0_isNamed_19 rfl (lv_at hl 0 rfl) ?_
      refine va_get (D := (dC, dI)) (ci := 0) (v := .ref q2) (C := RX0) (T := TX0) (N := 4) hx hb hts hin hown hK hP 0 rfl rfl 1 (by decide) hf1 (fun _ h9 => h9) rfl dX0_isNamed_20 ?_
      refine lv_iload_n hx hb dX0_isNamed_23 rfl (lv_at hl 1 rfl) ?_
      refine nt_iald hx hb hK hP 2 1 rfl rfl (by omega) dX0_isNamed_24 ?_
      refine lv_iload hx hb dX0_isNamed_25 (lv_at hl 3 rfl) ?_
      refine lv_icmp_ne (tgt := 34) hx hb dX0_isNamed_27 (by decide) (fun h2 => ?_) (fun h2 => ?_)
      · refine lv_iconst (v := 0) hx hb dX0_isNamed_34 (by decide) ?_
        exact W.zret (v := 0) hx hb hr narrow_b0 (fun t ht hW => ⟨⟨0, (f, g, h, n), rfl, ⟨Or.inr ⟨rfl, fun h9 => h2 h9.2.2⟩, rfl⟩, by rw [ht]; exact hP, va_K.moved hW.alike hK, hD⟩, hS.F ht⟩) hS.2.2 dX0_isNamed_35
      · refine lv_iconst (v := 1) hx hb dX0_isNamed_30 (by decide) ?_
        refine lv_goto (tgt := 35) hx hb dX0_isNamed_31 (by decide) ?_
        exact W.zret (v := 1) hx hb hr narrow_b1 (fun t ht hW => ⟨⟨1, (f, g, h, n), rfl, ⟨Or.inl ⟨rfl, hjn, h1, h2⟩, rfl⟩, by rw [ht]; exact hP, va_K.moved hW.alike hK, hD⟩, hS.F ht⟩) hS.2.2 dX0_isNamed_35
  · refine lv_if_eq (tgt := 34) hx hb dX0_isNamed_5 (by decide) (fun _ => ?_) (fun h9 => absurd h9 (by decide))
    refine lv_iconst (v := 0) hx hb dX0_isNamed_34 (by decide) ?_
    exact W.zret (v := 0) hx hb hr narrow_b0 (fun t ht hW => ⟨⟨0, (f, g, h, n), rfl, ⟨Or.inr ⟨rfl, fun h9 => hc (nt_out_of hn h9.1 rfl)⟩, rfl⟩, by rw [ht]; exact hP, va_K.moved hW.alike hK, hD⟩, hS.F ht⟩) hS.2.2 dX0_isNamed_35
set_option maxHeartbeats 4000000 in
set_option maxRecDepth 100000 in
/-- is the name of the coin at j before this one -/
theorem kX_isBefore (l : Launch) (dC : Nat → ClassId) (dI : Nat → Nat → Nat) (h0 q1 q2 q3 sz : Nat) (cL cI cJ : ClassId) (f : Nat → Int64) (g h : Nat → Int32) (n : Nat) (j : Nat) (id : Int64) (ix : Int32) (hj : j < 900) : Met l yX0_isBefore wsX0_isBefore ({ frames := 0, cells := 0, slots := 0, locals := 0 } : Room) (va_Pc [.ref h0, .int (nI j), .long id, .int ix] (nt_in dC dI 0 h0 q1 q2 q3 cL cI cJ f g h n sz)) (va_Qi (fun (r : Int32) (u : nt_S) => nt_b r (nt_K (f, g, h, n) j < nt_k id ix) ∧ u = (f, g, h, n)) (nt_out dC dI 0 h0 q1 q2 q3 cL cI cJ (va_A (nt_w 0 h0 q1 q2 q3 cL cI cJ f g h n) sz)) (va_A (nt_w 0 h0 q1 q2 q3 cL cI cJ f g h n) sz)) 0 0 (va_A (nt_w 0 h0 q1 q2 q3 cL cI cJ f g h n) sz) := by
  refine Met.ofW (cc := cX0_isBefore) (maxL := 5) (ret := (some .boolean)) (by decide) rfl ?_
  intro p e s m args below meth c s₁ B hml hv
  obtain ⟨rfl, hsz, hP, hK, hD0⟩ := hv
  have hx := B.exec
  have hb := B.bytes
  have hr := B.returns
  have hts := atoms_spec (ws := wsX0_isBefore) B.pre
  have hown : s.vm.findClass RX0 = some m.cls := findClass_of_methodNamed B.named
  have hlocks := B.notSynchronized
  subst hsz
  have hD := hD0.self (sz := s.heap.size)
  generalize hAe : va_A (nt_w 0 h0 q1 q2 q3 cL cI cJ f g h n) s.heap.size = A at hD ⊢
  have hA : ∀ q : Nat, s.heap.size ≤ q → A q := fun q h => by rw [← hAe]; exact Or.inr h
  have hS : va_S A s.heap s.heap [] := va_S.rf
  have hin : ∀ w ∈ u_ws RX0 TX0 4, w ∈ wsX0_isBefore := by decide +kernel
  have hf0 := hts (.fieldLink RX0 9 "NameTable" "ids" "[J") (by decide +kernel)
  have hf1 := hts (.fieldLink RX0 13 "NameTable" "indexes" "[I") (by decide +kernel)
  have hl := lv_entry ([.ref h0, .int (nI j), .long id, .int ix]) (n := 5) (Nat.le_of_ble_eq_true rfl)
  rw [lg_entry_eq]
  generalize (lg_sl ([.ref h0, .int (nI j), .long id, .int ix]) ++ List.replicate (5 - (lg_sl ([.ref h0, .int (nI j), .long id, .int ix])).length) Slot.unset).toArray = ls at hl ⊢
  have hl : lv_has ls 5 [(0, .ref h0), (1, .int (nI j)), (2, .long id), (4, .int ix)] := hl
  have hk : nt_K (f, g, h, n) j < nt_k id ix ↔ (f j < id ∨ (f j = id ∧ g j < ix)) := nt_k_lt _ _ _ _
  refine lv_aload_n hx hb dX0_isBefore_0 rfl (lv_at hl 0 rfl) ?_
  refine va_get (D := (dC, dI)) (ci := 0) (v := .ref q1) (C := RX0) (T := TX0) (N := 4) hx hb hts hin hown hK hP 0 rfl rfl 0 (by decide) hf0 (fun _ h9 => h9) rfl dX0_isBefore_1 ?_
  refine lv_iload_n hx hb dX0_isBefore_4 rfl (lv_at hl 1 rfl) ?_
  refine nt_lald hx hb hK hP 1 0 rfl rfl (by omega) dX0_isBefore_5 ?_
  refine lv_lload_n hx hb dX0_isBefore_6 rfl (lv_at hl 2 rfl) ?_
  refine W.lcmp hx hb dX0_isBefore_7 ?_
  refine lv_if_lt (tgt := 33) hx hb dX0_isBefore_8 (by decide) (fun h1 => ?_) (fun h1 => ?_)
  · refine lv_iconst (v := 1) hx hb dX0_isBefore_33 (by decide) ?_
    refine lv_goto (tgt := 38) hx hb dX0_isBefore_34 (by decide) ?_
    exact W.zret (v := 1) hx hb hr narrow_b1 (fun t ht hW => ⟨⟨1, (f, g, h, n), rfl, ⟨Or.inl ⟨rfl, hk.mpr (Or.inl ((lg_cmp_lt _ _).mp h1))⟩, rfl⟩, by rw [ht]; exact hP, va_K.moved hW.alike hK, hD⟩, hS.F ht⟩) hS.2.2 dX0_isBefore_38
  · have h1 : ¬ f j < id := fun h9 => h1 ((lg_cmp_lt _ _).mpr h9)
    refine lv_aload_n hx hb dX0_isBefore_11 rfl (lv_at hl 0 rfl) ?_
    refine va_get (D := (dC, dI)) (ci := 0) (v := .ref q1) (C := RX0) (T := TX0) (N := 4) hx hb hts hin hown hK hP 0 rfl rfl 0 (by decide) hf0 (fun _ h9 => h9) rfl dX0_isBefore_12 ?_
    refine lv_iload_n hx hb dX0_isBefore_15 rfl (lv_at hl 1 rfl) ?_
    refine nt_lald hx hb hK hP 1 0 rfl rfl (by omega) dX0_isBefore_16 ?_
    refine lv_lload_n hx hb dX0_isBefore_17 rfl (lv_at hl 2 rfl) ?_
    refine W.lcmp hx hb dX0_isBefore_18 ?_
    refine lv_if_ne (tgt := 37) hx hb dX0_isBefore_19 (by decide) (fun h2 => ?_) (fun h2 => ?_)
    · refine lv_iconst (v := 0) hx hb dX0_isBefore_37 (by decide) ?_
      exact W.zret (v := 0) hx hb hr narrow_b0 (fun t ht hW => ⟨⟨0, (f, g, h, n), rfl, ⟨Or.inr ⟨rfl, fun h9 => (hk.mp h9).elim h1 (fun h8 => h2 ((lg_cmp_eq _ _).mpr h8.1))⟩, rfl⟩, by rw [ht]; exact hP, va_K.moved hW.alike hK, hD⟩, hS.F ht⟩) hS.2.2 dX0_isBefore_38
    · have h2 : f j = id := (lg_cmp_eq _ _).mp h2
      refine lv_aload_n hx hb dX0_isBefore_22 rfl (lv_at hl 0 rfl) ?_
      refine va_get (D := (dC, dI)) (ci := 0) (v := .ref q2) (C := RX0) (T := TX0) (N := 4) hx hb hts hin hown hK hP 0 rfl rfl 1 (by decide) hf1 (fun _ h9 => h9) rfl dX0_isBefore_23 ?_
      refine lv_iload_n hx hb dX0_isBefore_26 rfl (lv_at hl 1 rfl) ?_
      refine nt_iald hx hb hK hP 2 1 rfl rfl (by omega) dX0_isBefore_27 ?_
      refine lv_iload hx hb dX0_isBefore_28 (lv_at hl 3 rfl) ?_
      refine lv_icmp_ge (tgt := 37) hx hb dX0_isBefore_30 (by decide) (fun h3 => ?_) (fun h3 => ?_)
      · refine lv_iconst (v := 0) hx hb dX0_isBefore_37 (by decide) ?_
        exact W.zret (v := 0) hx hb hr narrow_b0 (fun t ht hW => ⟨⟨0, (f, g, h, n), rfl, ⟨Or.inr ⟨rfl, fun h9 => (hk.mp h9).elim h1 (fun h8 => Int32.not_le.mpr h8.2 h3)⟩, rfl⟩, by rw [ht]; exact hP, va_K.moved hW.alike hK, hD⟩, hS.F ht⟩) hS.2.2 dX0_isBefore_38
      · refine lv_iconst (v := 1) hx hb dX0_isBefore_33 (by decide) ?_
        refine lv_goto (tgt := 38) hx hb dX0_isBefore_34 (by decide) ?_
        exact W.zret (v := 1) hx hb hr narrow_b1 (fun t ht hW => ⟨⟨1, (f, g, h, n), rfl, ⟨Or.inl ⟨rfl, hk.mpr (Or.inr ⟨h2, Int32.not_le.mp h3⟩)⟩, rfl⟩, by rw [ht]; exact hP, va_K.moved hW.alike hK, hD⟩, hS.F ht⟩) hS.2.2 dX0_isBefore_38
set_option maxHeartbeats 4000000 in
set_option maxRecDepth 100000 in
/-- the coins from a on move to b -/
theorem kX_moveTail (l : Launch) (dC : Nat → ClassId) (dI : Nat → Nat → Nat) (h0 q1 q2 q3 sz : Nat) (cL cI cJ : ClassId) (f : Nat → Int64) (g h : Nat → Int32) (n : Nat) (a b : Nat) (ha : a ≤ n) (hab : b + (n - a) ≤ 900) (hn : n ≤ 900) : Met l yX0_moveTail wsX0_moveTail ({ frames := 1, cells := 0, slots := 0, locals := 40 } : Room) (va_Pc [.ref h0, .int (nI a), .int (nI b)] (nt_in dC dI 0 h0 q1 q2 q3 cL cI cJ f g h n sz)) (va_Qv (fun (u : nt_S) => u = (va_cpy f f a b (n - a), va_cpy g g a b (n - a), va_cpy h h a b (n - a), n)) (nt_out dC dI 0 h0 q1 q2 q3 cL cI cJ (va_A (nt_w 0 h0 q1 q2 q3 cL cI cJ f g h n) sz)) (va_A (nt_w 0 h0 q1 q2 q3 cL cI cJ f g h n) sz)) 0 0 (va_A (nt_w 0 h0 q1 q2 q3 cL cI cJ f g h n) sz) := by
  refine Met.ofW (cc := cX0_moveTail) (maxL := 4) (ret := none) (by decide) rfl ?_
  intro p e s m args below meth c s₁ B hml hv
  obtain ⟨rfl, hsz, hP, hK, hD0⟩ := hv
  have hx := B.exec
  have hb := B.bytes
  have hr := B.returns
  have hts := atoms_spec (ws := wsX0_moveTail) B.pre
  have hown : s.vm.findClass RX0 = some m.cls := findClass_of_methodNamed B.named
  have hlocks := B.notSynchronized
  subst hsz
  have hD := hD0.self (sz := s.heap.size)
  generalize hAe : va_A (nt_w 0 h0 q1 q2 q3 cL cI cJ f g h n) s.heap.size = A at hD ⊢
  have hA : ∀ q : Nat, s.heap.size ≤ q → A q := fun q h => by rw [← hAe]; exact Or.inr h
  have hS : va_S A s.heap s.heap [] := va_S.rf
  have hin : ∀ w ∈ u_ws RX0 TX0 4, w ∈ wsX0_moveTail := by decide +kernel
  have hf0 := hts (.fieldLink RX0 9 "NameTable" "ids" "[J") (by decide +kernel)
  have hf1 := hts (.fieldLink RX0 13 "NameTable" "indexes" "[I") (by decide +kernel)
  have hf2 := hts (.fieldLink RX0 17 "NameTable" "values" "[I") (by decide +kernel)
  have hf3 := hts (.fieldLink RX0 20 "NameTable" "count" "I") (by decide +kernel)
  have hl := lv_entry ([.ref h0, .int (nI a), .int (nI b)]) (n := 4) (Nat.le_of_ble_eq_true rfl)
  rw [lg_entry_eq]
  generalize (lg_sl ([.ref h0, .int (nI a), .int (nI b)]) ++ List.replicate (4 - (lg_sl ([.ref h0, .int (nI a), .int (nI b)])).length) Slot.unset).toArray = ls at hl ⊢
  have hl : lv_has ls 4 [(0, .ref h0), (1, .int (nI a)), (2, .int (nI b))] := hl
  have hcl := hts (.methodLink RX0 58 arraycopyName) (by decide +kernel)
  have hcn := hts (.native arraycopyName) (by decide +kernel)
  have hcs := hts (.static arraycopyName) (by decide +kernel)
  have hci := hts (.initialized "java/lang/System") (by decide +kernel)
  refine lv_aload_n hx hb dX0_moveTail_0 rfl (lv_at hl 0 rfl) ?_
  refine va_get (D := (dC, dI)) (ci := 0) (v := .int (nI n)) (C := RX0) (T := TX0) (N := 4) hx hb hts hin hown hK hP 0 rfl rfl 3 (by decide) hf3 (fun _ h9 => h9) rfl dX0_moveTail_1 ?_
  refine lv_iload_n hx hb dX0_moveTail_4 rfl (lv_at hl 1 rfl) ?_
  refine lv_isub hx hb dX0_moveTail_5 ?_
  refine nt_top (y := nI (n - a)) (pk_sub ha) ?_
  refine lv_istore_n (lv' := [(3, .int (nI (n - a))), (0, .ref h0), (1, .int (nI a)), (2, .int (nI b))]) hx hb dX0_moveTail_6 rfl hl (by decide) rfl (fun ls hl => ?_)
  refine lv_aload_n hx hb dX0_moveTail_7 rfl (lv_at hl 1 rfl) ?_
  refine va_get (D := (dC, dI)) (ci := 0) (v := .ref q1) (C := RX0) (T := TX0) (N := 4) hx hb hts hin hown hK hP 0 rfl rfl 0 (by decide) hf0 (fun _ h9 => h9) rfl dX0_moveTail_8 ?_
  refine lv_iload_n hx hb dX0_moveTail_11 rfl (lv_at hl 2 rfl) ?_
  refine lv_aload_n hx hb dX0_moveTail_12 rfl (lv_at hl 1 rfl) ?_
  refine va_get (D := (dC, dI)) (ci := 0) (v := .ref q1) (C := RX0) (T := TX0) (N := 4) hx hb hts hin hown hK hP 0 rfl rfl 0 (by decide) hf0 (fun _ h9 => h9) rfl dX0_moveTail_13 ?_
  refine lv_iload_n hx hb dX0_moveTail_16 rfl (lv_at hl 3 rfl) ?_
  refine lv_iload_n hx hb dX0_moveTail_17 rfl (lv_at hl 0 rfl) ?_
  refine nt_copyl hx hb (hml.trans hl.1.symm) hown hcl hcn hcs hci hK hP hD hS 1 0 rfl rfl (x := a) (y := b) (k := n - a) (by omega) hab (Nat.le_of_ble_eq_true rfl) (by decide +kernel) dX0_moveTail_18 (fun H locs hP hD hS => ?_)
  have hP : va_P (dC, dI) vwCl (nt_w 0 h0 q1 q2 q3 cL cI cJ (va_cpy f f a b (n - a)) g h n) H := hP
  have hD : va_D A (nt_w 0 h0 q1 q2 q3 cL cI cJ (va_cpy f f a b (n - a)) g h n) := hD
  refine lv_aload_n hx hb dX0_moveTail_21 rfl (lv_at hl 1 rfl) ?_
  refine va_get (D := (dC, dI)) (ci := 0) (v := .ref q2) (C := RX0) (T := TX0) (N := 4) hx hb hts hin hown hK hP 0 rfl rfl 1 (by decide) hf1 (fun _ h9 => h9) rfl dX0_moveTail_22 ?_
  refine lv_iload_n hx hb dX0_moveTail_25 rfl (lv_at hl 2 rfl) ?_
  refine lv_aload_n hx hb dX0_moveTail_26 rfl (lv_at hl 1 rfl) ?_
  refine va_get (D := (dC, dI)) (ci := 0) (v := .ref q2) (C := RX0) (T := TX0) (N := 4) hx hb hts hin hown hK hP 0 rfl rfl 1 (by decide) hf1 (fun _ h9 => h9) rfl dX0_moveTail_27 ?_
  refine lv_iload_n hx hb dX0_moveTail_30 rfl (lv_at hl 3 rfl) ?_
  refine lv_iload_n hx hb dX0_moveTail_31 rfl (lv_at hl 0 rfl) ?_
  refine nt_copyi hx hb (hml.trans hl.1.symm) hown hcl hcn hcs hci hK hP hD hS 2 1 rfl rfl (x := a) (y := b) (k := n - a) (by omega) hab (Nat.le_of_ble_eq_true rfl) (by decide +kernel) dX0_moveTail_32 (fun H locs hP hD hS => ?_)
  have hP : va_P (dC, dI) vwCl (nt_w 0 h0 q1 q2 q3 cL cI cJ (va_cpy f f a b (n - a)) (va_cpy g g a b (n - a)) h n) H := hP
  have hD : va_D A (nt_w 0 h0 q1 q2 q3 cL cI cJ (va_cpy f f a b (n - a)) (va_cpy g g a b (n - a)) h n) := hD
  refine lv_aload_n hx hb dX0_moveTail_35 rfl (lv_at hl 1 rfl) ?_
  refine va_get (D := (dC, dI)) (ci := 0) (v := .ref q3) (C := RX0) (T := TX0) (N := 4) hx hb hts hin hown hK hP 0 rfl rfl 2 (by decide) hf2 (fun _ h9 => h9) rfl dX0_moveTail_36 ?_
  refine lv_iload_n hx hb dX0_moveTail_39 rfl (lv_at hl 2 rfl) ?_
  refine lv_aload_n hx hb dX0_moveTail_40 rfl (lv_at hl 1 rfl) ?_
  refine va_get (D := (dC, dI)) (ci := 0) (v := .ref q3) (C := RX0) (T := TX0) (N := 4) hx hb hts hin hown hK hP 0 rfl rfl 2 (by decide) hf2 (fun _ h9 => h9) rfl dX0_moveTail_41 ?_
  refine lv_iload_n hx hb dX0_moveTail_44 rfl (lv_at hl 3 rfl) ?_
  refine lv_iload_n hx hb dX0_moveTail_45 rfl (lv_at hl 0 rfl) ?_
  refine nt_copyi hx hb (hml.trans hl.1.symm) hown hcl hcn hcs hci hK hP hD hS 3 2 rfl rfl (x := a) (y := b) (k := n - a) (by omega) hab (Nat.le_of_ble_eq_true rfl) (by decide +kernel) dX0_moveTail_46 (fun H locs hP hD hS => ?_)
  have hP : va_P (dC, dI) vwCl (nt_w 0 h0 q1 q2 q3 cL cI cJ (va_cpy f f a b (n - a)) (va_cpy g g a b (n - a)) (va_cpy h h a b (n - a)) n) H := hP
  have hD : va_D A (nt_w 0 h0 q1 q2 q3 cL cI cJ (va_cpy f f a b (n - a)) (va_cpy g g a b (n - a)) (va_cpy h h a b (n - a)) n) := hD
  exact W.vret hx hb hr (fun t ht hW => ⟨⟨(va_cpy f f a b (n - a), va_cpy g g a b (n - a), va_cpy h h a b (n - a), n), rfl, rfl, by rw [ht]; exact hP, va_K.moved hW.alike hK, hD⟩, hS.F ht⟩) hS.2.2 dX0_moveTail_49
