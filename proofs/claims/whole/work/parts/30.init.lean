set_option maxHeartbeats 4000000 in
set_option maxRecDepth 100000 in
/-- promise 1: the constructor of NameTable -/
theorem kX_init (l : Launch) (dC : Nat → ClassId) (dI : Nat → Nat → Nat) (h0 sz : Nat) : Met l yX0_init wsX0_init ({ frames := 1, cells := 3, slots := 2700, locals := 40 } : Room) (va_Pc [.ref h0] (fun U => U.heap.size = sz ∧ va_P (dC, dI) vwCl [(h0, .inr (0, [.null, .null, .null, .int 0]))] U.heap ∧ va_K (dC, dI) vwCl [] U ∧ va_D (fun _ => True) [(h0, .inr (0, [.null, .null, .null, .int 0]))])) (va_Qv (fun (_ : nt_N) => True) (nt_new dC dI 0 h0 (va_A [(h0, .inr (0, [.null, .null, .null, .int 0]))] sz)) (va_A [(h0, .inr (0, [.null, .null, .null, .int 0]))] sz)) 3 2700 (va_A [(h0, .inr (0, [.null, .null, .null, .int 0]))] sz) := by
  refine Met.ofW (cc := cX0_init) (maxL := 1) (ret := none) (by decide) rfl ?_
  intro p e s m args below meth c s₁ B hml hv
  obtain ⟨rfl, hsz, hP, hK, hD0⟩ := hv
  have hx := B.exec
  have hb := B.bytes
  have hr := B.returns
  have hts := atoms_spec (ws := wsX0_init) B.pre
  have hown : s.vm.findClass RX0 = some m.cls := findClass_of_methodNamed B.named
  have hlocks := B.notSynchronized
  have hin2 : meth.name = "<init>" := (name_of_methodNamed B.named B.method).1
  subst hsz
  have hD := hD0.self (sz := s.heap.size)
  generalize hAe : va_A [(h0, .inr (0, [.null, .null, .null, .int 0]))] s.heap.size = A at hD ⊢
  have hA : ∀ q : Nat, s.heap.size ≤ q → A q := fun q h => by rw [← hAe]; exact Or.inr h
  have hS : va_S A s.heap s.heap [] := va_S.rf
  have hP : va_P (dC, dI) vwCl [(h0, .inr (0, [.null, .null, .null, .int 0]))] s.heap := hP
  have hin : ∀ w ∈ u_ws RX0 TX0 4, w ∈ wsX0_init := by decide +kernel
  have hl := lv_entry ([.ref h0]) (n := 1) (Nat.le_of_ble_eq_true rfl)
  rw [lg_entry_eq]
  generalize (lg_sl ([.ref h0]) ++ List.replicate (1 - (lg_sl ([.ref h0])).length) Slot.unset).toArray = ls at hl ⊢
  have hl : lv_has ls 1 [(0, .ref h0)] := hl
  refine lv_aload_n hx hb dX0_init_0 rfl (lv_at hl 0 rfl) ?_
  refine W.objInit hx hb hown (hts (.methodLink RX0 1 objectInit) (by decide +kernel)) (hts (.instanceMethod objectInit) (by decide +kernel)) (hts (.code objectInit ⟨#[0xb1]⟩ 1 none) (List.mem_cons_of_mem _ (List.mem_append_left _ (List.mem_of_getElem? (i := 2) rfl)))) rfl (by rw [hml]; exact hl.1) rfl dX0_init_1 (Nat.le_of_ble_eq_true rfl) (Nat.le_of_ble_eq_true rfl) ?_
  refine W.eq (g2 := F0 m 4 ls []) rfl ?_
  refine lv_aload_n hx hb dX0_init_4 rfl (lv_at hl 0 rfl) ?_
  refine lv_sipush (v := nI 900) hx hb dX0_init_5 (by decide) ?_
  refine va_newa (atype := .long) (D := (dC, dI)) (ty := .long) (N' := 900) (a0 := (900, .inr (.inl (fun _ => 0)))) hx hb (hts (.arrayClass .long) (by decide +kernel)) rfl hK hP hD hS hA nt_zl (nI_pos (by omega)) (nI_clamp (by omega)) (show 900 * 8 ≤ 536870912 by omega) (show 0 + 1 ≤ 3 by omega) (show 0 + 900 ≤ 2700 by omega) dX0_init_8 (fun q1 cL H hK hP hD hS => ?_)
  refine W.widen (k := 1) (n := 900) (by omega) (by omega) ?_
  have hK : va_K (dC, dI) vwCl [(cL, .long)] s := hK
  have hP : va_P (dC, dI) vwCl [(h0, .inr (0, [.null, .null, .null, .int 0])), (q1, .inl (cL, 900, .inr (.inl (fun _ => 0))))] H := hP
  have hD : va_D A [(h0, .inr (0, [.null, .null, .null, .int 0])), (q1, .inl (cL, 900, .inr (.inl (fun _ => 0))))] := hD
  refine va_putF (D := (dC, dI)) (ci := 0) (v := .ref q1) (ty := .array .long) (C := RX0) (T := TX0) (N := 4) hx hb hts hin tyX0 tyX0_ok nmX0 hown hK hP hD hS 0 rfl rfl 0 (by decide) (hts (.fieldLink RX0 9 "NameTable" "ids" "[J") (by decide +kernel)) (fun _ h9 => h9) rfl hin2 rfl (by decide +kernel) rfl rfl (Nat.le_of_ble_eq_true rfl) dX0_init_10 (fun H locs hP hD hS => ?_)
  have hP : va_P (dC, dI) vwCl [(h0, .inr (0, [.ref q1, .null, .null, .int 0])), (q1, .inl (cL, 900, .inr (.inl (fun _ => 0))))] H := hP
  have hD : va_D A [(h0, .inr (0, [.ref q1, .null, .null, .int 0])), (q1, .inl (cL, 900, .inr (.inl (fun _ => 0))))] := hD
  refine lv_aload_n hx hb dX0_init_13 rfl (lv_at hl 0 rfl) ?_
  refine lv_sipush (v := nI 900) hx hb dX0_init_14 (by decide) ?_
  refine va_newa (atype := .int) (D := (dC, dI)) (ty := .int) (N' := 900) (a0 := (900, .inl (fun _ => 0))) hx hb (hts (.arrayClass .int) (by decide +kernel)) rfl hK hP hD hS hA nt_zi (nI_pos (by omega)) (nI_clamp (by omega)) (show 900 * 4 ≤ 536870912 by omega) (show 1 + 1 ≤ 3 by omega) (show 900 + 900 ≤ 2700 by omega) dX0_init_17 (fun q2 cI H hK hP hD hS => ?_)
  refine W.widen (k := 2) (n := 1800) (by omega) (by omega) ?_
  have hK : va_K (dC, dI) vwCl [(cL, .long), (cI, .int)] s := hK
  have hP : va_P (dC, dI) vwCl [(h0, .inr (0, [.ref q1, .null, .null, .int 0])), (q1, .inl (cL, 900, .inr (.inl (fun _ => 0)))), (q2, .inl (cI, 900, .inl (fun _ => 0)))] H := hP
  have hD : va_D A [(h0, .inr (0, [.ref q1, .null, .null, .int 0])), (q1, .inl (cL, 900, .inr (.inl (fun _ => 0)))), (q2, .inl (cI, 900, .inl (fun _ => 0)))] := hD
  refine va_putF (D := (dC, dI)) (ci := 0) (v := .ref q2) (ty := .array .int) (C := RX0) (T := TX0) (N := 4) hx hb hts hin tyX0 tyX0_ok nmX0 hown hK hP hD hS 0 rfl rfl 1 (by decide) (hts (.fieldLink RX0 13 "NameTable" "indexes" "[I") (by decide +kernel)) (fun _ h9 => h9) rfl hin2 rfl (by decide +kernel) rfl rfl (Nat.le_of_ble_eq_true rfl) dX0_init_19 (fun H locs hP hD hS => ?_)
  have hP : va_P (dC, dI) vwCl [(h0, .inr (0, [.ref q1, .ref q2, .null, .int 0])), (q1, .inl (cL, 900, .inr (.inl (fun _ => 0)))), (q2, .inl (cI, 900, .inl (fun _ => 0)))] H := hP
  have hD : va_D A [(h0, .inr (0, [.ref q1, .ref q2, .null, .int 0])), (q1, .inl (cL, 900, .inr (.inl (fun _ => 0)))), (q2, .inl (cI, 900, .inl (fun _ => 0)))] := hD
  refine lv_aload_n hx hb dX0_init_22 rfl (lv_at hl 0 rfl) ?_
  refine lv_sipush (v := nI 900) hx hb dX0_init_23 (by decide) ?_
  refine va_newa (atype := .int) (D := (dC, dI)) (ty := .int) (N' := 900) (a0 := (900, .inl (fun _ => 0))) hx hb (hts (.arrayClass .int) (by decide +kernel)) rfl hK hP hD hS hA nt_zi (nI_pos (by omega)) (nI_clamp (by omega)) (show 900 * 4 ≤ 536870912 by omega) (show 2 + 1 ≤ 3 by omega) (show 1800 + 900 ≤ 2700 by omega) dX0_init_26 (fun q3 cJ H hK hP hD hS => ?_)
  refine W.widen (k := 3) (n := 2700) (by omega) (by omega) ?_
  have hK : va_K (dC, dI) vwCl [(cL, .long), (cI, .int), (cJ, .int)] s := hK
  have hP : va_P (dC, dI) vwCl [(h0, .inr (0, [.ref q1, .ref q2, .null, .int 0])), (q1, .inl (cL, 900, .inr (.inl (fun _ => 0)))), (q2, .inl (cI, 900, .inl (fun _ => 0))), (q3, .inl (cJ, 900, .inl (fun _ => 0)))] H := hP
  have hD : va_D A [(h0, .inr (0, [.ref q1, .ref q2, .null, .int 0])), (q1, .inl (cL, 900, .inr (.inl (fun _ => 0)))), (q2, .inl (cI, 900, .inl (fun _ => 0))), (q3, .inl (cJ, 900, .inl (fun _ => 0)))] := hD
  refine va_putF (D := (dC, dI)) (ci := 0) (v := .ref q3) (ty := .array .int) (C := RX0) (T := TX0) (N := 4) hx hb hts hin tyX0 tyX0_ok nmX0 hown hK hP hD hS 0 rfl rfl 2 (by decide) (hts (.fieldLink RX0 17 "NameTable" "values" "[I") (by decide +kernel)) (fun _ h9 => h9) rfl hin2 rfl (by decide +kernel) rfl rfl (Nat.le_of_ble_eq_true rfl) dX0_init_28 (fun H locs hP hD hS => ?_)
  have hP : va_P (dC, dI) vwCl [(h0, .inr (0, [.ref q1, .ref q2, .ref q3, .int 0])), (q1, .inl (cL, 900, .inr (.inl (fun _ => 0)))), (q2, .inl (cI, 900, .inl (fun _ => 0))), (q3, .inl (cJ, 900, .inl (fun _ => 0)))] H := hP
  have hD : va_D A [(h0, .inr (0, [.ref q1, .ref q2, .ref q3, .int 0])), (q1, .inl (cL, 900, .inr (.inl (fun _ => 0)))), (q2, .inl (cI, 900, .inl (fun _ => 0))), (q3, .inl (cJ, 900, .inl (fun _ => 0)))] := hD
  refine lv_aload_n hx hb dX0_init_31 rfl (lv_at hl 0 rfl) ?_
  refine lv_iconst (v := 0) hx hb dX0_init_32 (by decide) ?_
  refine va_put (D := (dC, dI)) (ci := 0) (v := .int 0) (ty := .int) (C := RX0) (T := TX0) (N := 4) hx hb hts hin tyX0 tyX0_ok nmX0 hown hK hP hD hS 0 rfl rfl 3 (by decide) (hts (.fieldLink RX0 20 "NameTable" "count" "I") (by decide +kernel)) (fun _ h9 => h9) rfl (by decide +kernel) rfl rfl (Nat.le_of_ble_eq_true rfl) dX0_init_33 (fun H locs hP hD hS => ?_)
  have hP : va_P (dC, dI) vwCl (nt_w 0 h0 q1 q2 q3 cL cI cJ (fun _ => 0) (fun _ => 0) (fun _ => 0) 0) H := hP
  have hD : va_D A (nt_w 0 h0 q1 q2 q3 cL cI cJ (fun _ => 0) (fun _ => 0) (fun _ => 0) 0) := hD
  exact W.vret hx hb hr (fun t ht hW => ⟨⟨(q1, q2, q3, cL, cI, cJ), rfl, trivial, by rw [ht]; exact hP, va_K.moved hW.alike hK, hD⟩, hS.F ht⟩) hS.2.2 dX0_init_36
set_option maxHeartbeats 4000000 in
set_option maxRecDepth 100000 in
/-- promise 1: the constructor of NameTableModel -/
theorem kM_init (l : Launch) (dC : Nat → ClassId) (dI : Nat → Nat → Nat) (h0 sz : Nat) : Met l yX1_init wsX1_init ({ frames := 1, cells := 3, slots := 2700, locals := 40 } : Room) (va_Pc [.ref h0] (fun U => U.heap.size = sz ∧ va_P (dC, dI) vwCl [(h0, .inr (1, [.null, .null, .null, .int 0]))] U.heap ∧ va_K (dC, dI) vwCl [] U ∧ va_D (fun _ => True) [(h0, .inr (1, [.null, .null, .null, .int 0]))])) (va_Qv (fun (_ : nt_N) => True) (nt_new dC dI 1 h0 (va_A [(h0, .inr (1, [.null, .null, .null, .int 0]))] sz)) (va_A [(h0, .inr (1, [.null, .null, .null, .int 0]))] sz)) 3 2700 (va_A [(h0, .inr (1, [.null, .null, .null, .int 0]))] sz) := by
  refine Met.ofW (cc := cX1_init) (maxL := 1) (ret := none) (by decide) rfl ?_
  intro p e s m args below meth c s₁ B hml hv
  obtain ⟨rfl, hsz, hP, hK, hD0⟩ := hv
  have hx := B.exec
  have hb := B.bytes
  have hr := B.returns
  have hts := atoms_spec (ws := wsX1_init) B.pre
  have hown : s.vm.findClass RX1 = some m.cls := findClass_of_methodNamed B.named
  have hlocks := B.notSynchronized
  have hin2 : meth.name = "<init>" := (name_of_methodNamed B.named B.method).1
  subst hsz
  have hD := hD0.self (sz := s.heap.size)
  generalize hAe : va_A [(h0, .inr (1, [.null, .null, .null, .int 0]))] s.heap.size = A at hD ⊢
  have hA : ∀ q : Nat, s.heap.size ≤ q → A q := fun q h => by rw [← hAe]; exact Or.inr h
  have hS : va_S A s.heap s.heap [] := va_S.rf
  have hP : va_P (dC, dI) vwCl [(h0, .inr (1, [.null, .null, .null, .int 0]))] s.heap := hP
  have hin : ∀ w ∈ u_ws RX1 TX1 4, w ∈ wsX1_init := by decide +kernel
  have hl := lv_entry ([.ref h0]) (n := 1) (Nat.le_of_ble_eq_true rfl)
  rw [lg_entry_eq]
  generalize (lg_sl ([.ref h0]) ++ List.replicate (1 - (lg_sl ([.ref h0])).length) Slot.unset).toArray = ls at hl ⊢
  have hl : lv_has ls 1 [(0, .ref h0)] := hl
  refine lv_aload_n hx hb dX1_init_0 rfl (lv_at hl 0 rfl) ?_
  refine W.objInit hx hb hown (hts (.methodLink RX1 1 objectInit) (by decide +kernel)) (hts (.instanceMethod objectInit) (by decide +kernel)) (hts (.code objectInit ⟨#[0xb1]⟩ 1 none) (List.mem_cons_of_mem _ (List.mem_append_left _ (List.mem_of_getElem? (i := 2) rfl)))) rfl (by rw [hml]; exact hl.1) rfl dX1_init_1 (Nat.le_of_ble_eq_true rfl) (Nat.le_of_ble_eq_true rfl) ?_
  refine W.eq (g2 := F0 m 4 ls []) rfl ?_
  refine lv_aload_n hx hb dX1_init_4 rfl (lv_at hl 0 rfl) ?_
  refine lv_sipush (v := nI 900) hx hb dX1_init_5 (by decide) ?_
  refine va_newa (atype := .long) (D := (dC, dI)) (ty := .long) (N' := 900) (a0 := (900, .inr (.inl (fun _ => 0)))) hx hb (hts (.arrayClass .long) (by decide +kernel)) rfl hK hP hD hS hA nt_zl (nI_pos (by omega)) (nI_clamp (by omega)) (show 900 * 8 ≤ 536870912 by omega) (show 0 + 1 ≤ 3 by omega) (show 0 + 900 ≤ 2700 by omega) dX1_init_8 (fun q1 cL H hK hP hD hS => ?_)
  refine W.widen (k := 1) (n := 900) (by omega) (by omega) ?_
  have hK : va_K (dC, dI) vwCl [(cL, .long)] s := hK
  have hP : va_P (dC, dI) vwCl [(h0, .inr (1, [.null, .null, .null, .int 0])), (q1, .inl (cL, 900, .inr (.inl (fun _ => 0))))] H := hP
  have hD : va_D A [(h0, .inr (1, [.null, .null, .null, .int 0])), (q1, .inl (cL, 900, .inr (.inl (fun _ => 0))))] := hD
  refine va_putF (D := (dC, dI)) (ci := 1) (v := .ref q1) (ty := .array .long) (C := RX1) (T := TX1) (N := 4) hx hb hts hin tyX1 tyX1_ok nmX1 hown hK hP hD hS 0 rfl rfl 0 (by decide) (hts (.fieldLink RX1 9 "NameTableModel" "id" "[J") (by decide +kernel)) (fun _ h9 => h9) rfl hin2 rfl (by decide +kernel) rfl rfl (Nat.le_of_ble_eq_true rfl) dX1_init_10 (fun H locs hP hD hS => ?_)
  have hP : va_P (dC, dI) vwCl [(h0, .inr (1, [.ref q1, .null, .null, .int 0])), (q1, .inl (cL, 900, .inr (.inl (fun _ => 0))))] H := hP
  have hD : va_D A [(h0, .inr (1, [.ref q1, .null, .null, .int 0])), (q1, .inl (cL, 900, .inr (.inl (fun _ => 0))))] := hD
  refine lv_aload_n hx hb dX1_init_13 rfl (lv_at hl 0 rfl) ?_
  refine lv_sipush (v := nI 900) hx hb dX1_init_14 (by decide) ?_
  refine va_newa (atype := .int) (D := (dC, dI)) (ty := .int) (N' := 900) (a0 := (900, .inl (fun _ => 0))) hx hb (hts (.arrayClass .int) (by decide +kernel)) rfl hK hP hD hS hA nt_zi (nI_pos (by omega)) (nI_clamp (by omega)) (show 900 * 4 ≤ 536870912 by omega) (show 1 + 1 ≤ 3 by omega) (show 900 + 900 ≤ 2700 by omega) dX1_init_17 (fun q2 cI H hK hP hD hS => ?_)
  refine W.widen (k := 2) (n := 1800) (by omega) (by omega) ?_
  have hK : va_K (dC, dI) vwCl [(cL, .long), (cI, .int)] s := hK
  have hP : va_P (dC, dI) vwCl [(h0, .inr (1, [.ref q1, .null, .null, .int 0])), (q1, .inl (cL, 900, .inr (.inl (fun _ => 0)))), (q2, .inl (cI, 900, .inl (fun _ => 0)))] H := hP
  have hD : va_D A [(h0, .inr (1, [.ref q1, .null, .null, .int 0])), (q1, .inl (cL, 900, .inr (.inl (fun _ => 0)))), (q2, .inl (cI, 900, .inl (fun _ => 0)))] := hD
  refine va_putF (D := (dC, dI)) (ci := 1) (v := .ref q2) (ty := .array .int) (C := RX1) (T := TX1) (N := 4) hx hb hts hin tyX1 tyX1_ok nmX1 hown hK hP hD hS 0 rfl rfl 1 (by decide) (hts (.fieldLink RX1 13 "NameTableModel" "index" "[I") (by decide +kernel)) (fun _ h9 => h9) rfl hin2 rfl (by decide +kernel) rfl rfl (Nat.le_of_ble_eq_true rfl) dX1_init_19 (fun H locs hP hD hS => ?_)
  have hP : va_P (dC, dI) vwCl [(h0, .inr (1, [.ref q1, .ref q2, .null, .int 0])), (q1, .inl (cL, 900, .inr (.inl (fun _ => 0)))), (q2, .inl (cI, 900, .inl (fun _ => 0)))] H := hP
  have hD : va_D A [(h0, .inr (1, [.ref q1, .ref q2, .null, .int 0])), (q1, .inl (cL, 900, .inr (.inl (fun _ => 0)))), (q2, .inl (cI, 900, .inl (fun _ => 0)))] := hD
  refine lv_aload_n hx hb dX1_init_22 rfl (lv_at hl 0 rfl) ?_
  refine lv_sipush (v := nI 900) hx hb dX1_init_23 (by decide) ?_
  refine va_newa (atype := .int) (D := (dC, dI)) (ty := .int) (N' := 900) (a0 := (900, .inl (fun _ => 0))) hx hb (hts (.arrayClass .int) (by decide +kernel)) rfl hK hP hD hS hA nt_zi (nI_pos (by omega)) (nI_clamp (by omega)) (show 900 * 4 ≤ 536870912 by omega) (show 2 + 1 ≤ 3 by omega) (show 1800 + 900 ≤ 2700 by omega) dX1_init_26 (fun q3 cJ H hK hP hD hS => ?_)
  refine W.widen (k := 3) (n := 2700) (by omega) (by omega) ?_
  have hK : va_K (dC, dI) vwCl [(cL, .long), (cI, .int), (cJ, .int)] s := hK
  have hP : va_P (dC, dI) vwCl [(h0, .inr (1, [.ref q1, .ref q2, .null, .int 0])), (q1, .inl (cL, 900, .inr (.inl (fun _ => 0)))), (q2, .inl (cI, 900, .inl (fun _ => 0))), (q3, .inl (cJ, 900, .inl (fun _ => 0)))] H := hP
  have hD : va_D A [(h0, .inr (1, [.ref q1, .ref q2, .null, .int 0])), (q1, .inl (cL, 900, .inr (.inl (fun _ => 0)))), (q2, .inl (cI, 900, .inl (fun _ => 0))), (q3, .inl (cJ, 900, .inl (fun _ => 0)))] := hD
  refine va_putF (D := (dC, dI)) (ci := 1) (v := .ref q3) (ty := .array .int) (C := RX1) (T := TX1) (N := 4) hx hb hts hin tyX1 tyX1_ok nmX1 hown hK hP hD hS 0 rfl rfl 2 (by decide) (hts (.fieldLink RX1 17 "NameTableModel" "value" "[I") (by decide +kernel)) (fun _ h9 => h9) rfl hin2 rfl (by decide +kernel) rfl rfl (Nat.le_of_ble_eq_true rfl) dX1_init_28 (fun H locs hP hD hS => ?_)
  have hP : va_P (dC, dI) vwCl [(h0, .inr (1, [.ref q1, .ref q2, .ref q3, .int 0])), (q1, .inl (cL, 900, .inr (.inl (fun _ => 0)))), (q2, .inl (cI, 900, .inl (fun _ => 0))), (q3, .inl (cJ, 900, .inl (fun _ => 0)))] H := hP
  have hD : va_D A [(h0, .inr (1, [.ref q1, .ref q2, .ref q3, .int 0])), (q1, .inl (cL, 900, .inr (.inl (fun _ => 0)))), (q2, .inl (cI, 900, .inl (fun _ => 0))), (q3, .inl (cJ, 900, .inl (fun _ => 0)))] := hD
  have hP : va_P (dC, dI) vwCl (nt_w 1 h0 q1 q2 q3 cL cI cJ (fun _ => 0) (fun _ => 0) (fun _ => 0) 0) H := hP
  have hD : va_D A (nt_w 1 h0 q1 q2 q3 cL cI cJ (fun _ => 0) (fun _ => 0) (fun _ => 0) 0) := hD
  exact W.vret hx hb hr (fun t ht hW => ⟨⟨(q1, q2, q3, cL, cI, cJ), rfl, trivial, by rw [ht]; exact hP, va_K.moved hW.alike hK, hD⟩, hS.F ht⟩) hS.2.2 dX1_init_31
