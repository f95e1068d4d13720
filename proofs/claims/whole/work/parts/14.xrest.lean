set_option maxHeartbeats 4000000 in
set_option maxRecDepth 100000 in
/-- promise 4 -/
theorem kX_remove (l : Launch) (dC : Nat → ClassId) (dI : Nat → Nat → Nat) (h0 q1 q2 q3 sz : Nat) (cL cI cJ : ClassId) (f : Nat → Int64) (g h : Nat → Int32) (n : Nat) (id : Int64) (ix : Int32) (hok : nt_ok (f, g, h, n)) : Met l yX0_remove wsX0_remove ({ frames := 3, cells := 0, slots := 0, locals := 120 } : Room) (va_Pc [.ref h0, .long id, .int ix] (nt_in dC dI 0 h0 q1 q2 q3 cL cI cJ f g h n sz)) (va_Qi (fun (r : Int32) (u : nt_S) => (r, u) = nt_rem (f, g, h, n) id ix) (nt_out dC dI 0 h0 q1 q2 q3 cL cI cJ (va_A (nt_w 0 h0 q1 q2 q3 cL cI cJ f g h n) sz)) (va_A (nt_w 0 h0 q1 q2 q3 cL cI cJ f g h n) sz)) 0 0 (va_A (nt_w 0 h0 q1 q2 q3 cL cI cJ f g h n) sz) := by
  refine Met.ofW (cc := cX0_remove) (maxL := 5) (ret := (some .int)) (by decide) rfl ?_
  intro p e s m args below meth c s₁ B hml hv
  obtain ⟨rfl, hsz, hP, hK, hD0⟩ := hv
  have hx := B.exec
  have hb := B.bytes
  have hr := B.returns
  have hts := atoms_spec (ws := wsX0_remove) B.pre
  have hown : s.vm.findClass RX0 = some m.cls := findClass_of_methodNamed B.named
  have hlocks := B.notSynchronized
  subst hsz
  have hD := hD0.self (sz := s.heap.size)
  generalize hAe : va_A (nt_w 0 h0 q1 q2 q3 cL cI cJ f g h n) s.heap.size = A at hD ⊢
  have hA : ∀ q : Nat, s.heap.size ≤ q → A q := fun q h => by rw [← hAe]; exact Or.inr h
  have hS : va_S A s.heap s.heap [] := va_S.rf
  have hl := lv_entry ([.ref h0, .long id, .int ix]) (n := 5) (Nat.le_of_ble_eq_true rfl)
  rw [lg_entry_eq]
  generalize (lg_sl ([.ref h0, .long id, .int ix]) ++ List.replicate (5 - (lg_sl ([.ref h0, .long id, .int ix])).length) Slot.unset).toArray = ls at hl ⊢
  have hl : lv_has ls 5 [(0, .ref h0), (1, .long id), (3, .int ix)] := hl
  have hn : n ≤ 900 := hok.1
  refine lv_iload_n hx hb dX0_remove_0 rfl (lv_at hl 2 rfl) ?_
  refine nt_calls (va_runS (As := [.int ix]) (rest := []) ⟨hx, hb, hml, hown, hts⟩ (kX_isIndex l _ ix) (va_cwS 1 hts gX0_remove_X0_isIndex rfl rfl rfl (by decide +kernel) ⟨Nat.le_of_ble_eq_true rfl, Nat.le_of_ble_eq_true rfl⟩) (nt_preS [.int ix]) rfl rfl hl.1 rfl (lv_room (Nat.le_of_ble_eq_true rfl)) dX0_remove_1 ⟨Nat.zero_le _, Nat.zero_le _⟩) hP hD hS hA (fun r H locs hpost hP hD hS => ?_)
  have hP : va_P (dC, dI) vwCl (nt_w 0 h0 q1 q2 q3 cL cI cJ f g h n) H := hP
  have hD : va_D A (nt_w 0 h0 q1 q2 q3 cL cI cJ f g h n) := hD
  rcases hpost with ⟨rfl, hc⟩ | ⟨rfl, hc⟩
  · refine lv_if_ne (tgt := 9) hx hb dX0_remove_4 (by decide) (fun _ => ?_) (fun h9 => absurd h9 (by decide))
    refine lv_aload_n hx hb dX0_remove_9 rfl (lv_at hl 0 rfl) ?_
    refine lv_lload_n hx hb dX0_remove_10 rfl (lv_at hl 1 rfl) ?_
    refine lv_iload_n hx hb dX0_remove_11 rfl (lv_at hl 2 rfl) ?_
    refine nt_calli (va_runV (As := [.long id, .int ix]) (rest := []) ⟨hx, hb, hml, hown, hts⟩ (kX_placeFor l dC dI h0 q1 q2 q3 _ cL cI cJ f g h n id ix hn hok.2) (cwV 2 hts gX0_remove_X0_placeFor rfl rfl rfl (by decide +kernel) ⟨Nat.le_of_ble_eq_true rfl, Nat.le_of_ble_eq_true rfl⟩) (nt_preV rfl hP hK hD [.long id, .int ix]) rfl rfl hl.1 rfl (lv_room (Nat.le_of_ble_eq_true rfl)) dX0_remove_12 ⟨Nat.zero_le _, Nat.zero_le _⟩) hP hD hS hA (fun r u H locs hpost hP hD hS => ?_)
    obtain ⟨hpost, rfl⟩ := hpost
    have hP : va_P (dC, dI) vwCl (nt_w 0 h0 q1 q2 q3 cL cI cJ f g h n) H := hP
    have hD : va_D A (nt_w 0 h0 q1 q2 q3 cL cI cJ f g h n) := hD
    obtain ⟨j, rfl, hat⟩ := hpost
    have hj : j ≤ n := hat.1
    refine lv_istore (lv' := [(4, .int (nI j)), (0, .ref h0), (1, .long id), (3, .int ix)]) hx hb dX0_remove_15 hl (by decide) rfl (fun ls hl => ?_)
    refine lv_aload_n hx hb dX0_remove_17 rfl (lv_at hl 1 rfl) ?_
    refine lv_iload hx hb dX0_remove_18 (lv_at hl 0 rfl) ?_
    refine lv_lload_n hx hb dX0_remove_20 rfl (lv_at hl 2 rfl) ?_
    refine lv_iload_n hx hb dX0_remove_21 rfl (lv_at hl 3 rfl) ?_
    refine nt_calli (va_runV (As := [.int (nI j), .long id, .int ix]) (rest := []) ⟨hx, hb, hml, hown, hts⟩ (kX_isNamed l dC dI h0 q1 q2 q3 _ cL cI cJ f g h n j id ix (by omega) hn) (cwV 3 hts gX0_remove_X0_isNamed rfl rfl rfl (by decide +kernel) ⟨Nat.le_of_ble_eq_true rfl, Nat.le_of_ble_eq_true rfl⟩) (nt_preV rfl hP hK hD [.int (nI j), .long id, .int ix]) rfl rfl hl.1 rfl (lv_room (Nat.le_of_ble_eq_true rfl)) dX0_remove_22 ⟨Nat.zero_le _, Nat.zero_le _⟩) hP hD hS hA (fun r u H locs hpost hP hD hS => ?_)
    obtain ⟨hpost, rfl⟩ := hpost
    have hP : va_P (dC, dI) vwCl (nt_w 0 h0 q1 q2 q3 cL cI cJ f g h n) H := hP
    have hD : va_D A (nt_w 0 h0 q1 q2 q3 cL cI cJ f g h n) := hD
    rcases hpost with ⟨rfl, hd⟩ | ⟨rfl, hd⟩
    · refine lv_if_eq (tgt := 37) hx hb dX0_remove_25 (by decide) (fun h9 => absurd h9 (by decide)) (fun _ => ?_)
      have hjn : j < n := hd.1
      refine lv_aload_n hx hb dX0_remove_28 rfl (lv_at hl 1 rfl) ?_
      refine lv_iload hx hb dX0_remove_29 (lv_at hl 0 rfl) ?_
      refine nt_calli (va_runV (As := [.int (nI j)]) (rest := []) ⟨hx, hb, hml, hown, hts⟩ (kX_deleteAt l dC dI h0 q1 q2 q3 _ cL cI cJ f g h n j hjn hn) (cwV 1 hts gX0_remove_X0_deleteAt rfl rfl rfl (by decide +kernel) ⟨Nat.le_of_ble_eq_true rfl, Nat.le_of_ble_eq_true rfl⟩) (nt_preV rfl hP hK hD [.int (nI j)]) rfl rfl hl.1 rfl (lv_room (Nat.le_of_ble_eq_true rfl)) dX0_remove_31 ⟨Nat.zero_le _, Nat.zero_le _⟩) hP hD hS hA (fun r u H locs hpost hP hD hS => ?_)
      obtain ⟨rfl, rfl⟩ := Prod.mk.inj hpost
      have hP : va_P (dC, dI) vwCl (nt_w 0 h0 q1 q2 q3 cL cI cJ (nt_del f n j) (nt_del g n j) (nt_del h n j) (n - 1)) H := hP
      have hD : va_D A (nt_w 0 h0 q1 q2 q3 cL cI cJ (nt_del f n j) (nt_del g n j) (nt_del h n j) (n - 1)) := hD
      refine lv_goto (tgt := 39) hx hb dX0_remove_34 (by decide) ?_
      exact W.iret (v := h j) hx hb hr (fun t ht hW => ⟨⟨h j, nt_delS (f, g, h, n) j, rfl, nt_rem_did hc hat hd, by rw [ht]; exact hP, va_K.moved hW.alike hK, hD⟩, hS.F ht⟩) hS.2.2 dX0_remove_39
    · refine lv_if_eq (tgt := 37) hx hb dX0_remove_25 (by decide) (fun _ => ?_) (fun h9 => absurd h9 (by decide))
      refine lv_bipush (v := -2) hx hb dX0_remove_37 (by decide) ?_
      exact W.iret (v := -2) hx hb hr (fun t ht hW => ⟨⟨-2, (f, g, h, n), rfl, nt_rem_none hc hat hd, by rw [ht]; exact hP, va_K.moved hW.alike hK, hD⟩, hS.F ht⟩) hS.2.2 dX0_remove_39
  · refine lv_if_ne (tgt := 9) hx hb dX0_remove_4 (by decide) (fun h9 => absurd h9 (by decide)) (fun _ => ?_)
    refine lv_iconst (v := -1) hx hb dX0_remove_7 (by decide) ?_
    exact W.iret (v := -1) hx hb hr (fun t ht hW => ⟨⟨-1, (f, g, h, n), rfl, nt_rem_bad (Classical.not_not.mp hc), by rw [ht]; exact hP, va_K.moved hW.alike hK, hD⟩, hS.F ht⟩) hS.2.2 dX0_remove_8
set_option maxHeartbeats 4000000 in
set_option maxRecDepth 100000 in
/-- promise 6 -/
theorem kX_get (l : Launch) (dC : Nat → ClassId) (dI : Nat → Nat → Nat) (h0 q1 q2 q3 sz : Nat) (cL cI cJ : ClassId) (f : Nat → Int64) (g h : Nat → Int32) (n : Nat) (id : Int64) (ix : Int32) (hok : nt_ok (f, g, h, n)) : Met l yX0_get wsX0_get ({ frames := 3, cells := 0, slots := 0, locals := 120 } : Room) (va_Pc [.ref h0, .long id, .int ix] (nt_in dC dI 0 h0 q1 q2 q3 cL cI cJ f g h n sz)) (va_Qi (fun (r : Int32) (u : nt_S) => r = nt_get (f, g, h, n) id ix ∧ u = (f, g, h, n)) (nt_out dC dI 0 h0 q1 q2 q3 cL cI cJ (va_A (nt_w 0 h0 q1 q2 q3 cL cI cJ f g h n) sz)) (va_A (nt_w 0 h0 q1 q2 q3 cL cI cJ f g h n) sz)) 0 0 (va_A (nt_w 0 h0 q1 q2 q3 cL cI cJ f g h n) sz) := by
  refine Met.ofW (cc := cX0_get) (maxL := 5) (ret := (some .int)) (by decide) rfl ?_
  intro p e s m args below meth c s₁ B hml hv
  obtain ⟨rfl, hsz, hP, hK, hD0⟩ := hv
  have hx := B.exec
  have hb := B.bytes
  have hr := B.returns
  have hts := atoms_spec (ws := wsX0_get) B.pre
  have hown : s.vm.findClass RX0 = some m.cls := findClass_of_methodNamed B.named
  have hlocks := B.notSynchronized
  subst hsz
  have hD := hD0.self (sz := s.heap.size)
  generalize hAe : va_A (nt_w 0 h0 q1 q2 q3 cL cI cJ f g h n) s.heap.size = A at hD ⊢
  have hA : ∀ q : Nat, s.heap.size ≤ q → A q := fun q h => by rw [← hAe]; exact Or.inr h
  have hS : va_S A s.heap s.heap [] := va_S.rf
  have hin : ∀ w ∈ u_ws RX0 TX0 4, w ∈ wsX0_get := by decide +kernel
  have hf2 := hts (.fieldLink RX0 17 "NameTable" "values" "[I") (by decide +kernel)
  have hl := lv_entry ([.ref h0, .long id, .int ix]) (n := 5) (Nat.le_of_ble_eq_true rfl)
  rw [lg_entry_eq]
  generalize (lg_sl ([.ref h0, .long id, .int ix]) ++ List.replicate (5 - (lg_sl ([.ref h0, .long id, .int ix])).length) Slot.unset).toArray = ls at hl ⊢
  have hl : lv_has ls 5 [(0, .ref h0), (1, .long id), (3, .int ix)] := hl
  have hn : n ≤ 900 := hok.1
  refine lv_iload_n hx hb dX0_get_0 rfl (lv_at hl 2 rfl) ?_
  refine nt_calls (va_runS (As := [.int ix]) (rest := []) ⟨hx, hb, hml, hown, hts⟩ (kX_isIndex l _ ix) (va_cwS 1 hts gX0_get_X0_isIndex rfl rfl rfl (by decide +kernel) ⟨Nat.le_of_ble_eq_true rfl, Nat.le_of_ble_eq_true rfl⟩) (nt_preS [.int ix]) rfl rfl hl.1 rfl (lv_room (Nat.le_of_ble_eq_true rfl)) dX0_get_1 ⟨Nat.zero_le _, Nat.zero_le _⟩) hP hD hS hA (fun r H locs hpost hP hD hS => ?_)
  have hP : va_P (dC, dI) vwCl (nt_w 0 h0 q1 q2 q3 cL cI cJ f g h n) H := hP
  have hD : va_D A (nt_w 0 h0 q1 q2 q3 cL cI cJ f g h n) := hD
  rcases hpost with ⟨rfl, hc⟩ | ⟨rfl, hc⟩
  · refine lv_if_ne (tgt := 9) hx hb dX0_get_4 (by decide) (fun _ => ?_) (fun h9 => absurd h9 (by decide))
    refine lv_aload_n hx hb dX0_get_9 rfl (lv_at hl 0 rfl) ?_
    refine lv_lload_n hx hb dX0_get_10 rfl (lv_at hl 1 rfl) ?_
    refine lv_iload_n hx hb dX0_get_11 rfl (lv_at hl 2 rfl) ?_
    refine nt_calli (va_runV (As := [.long id, .int ix]) (rest := []) ⟨hx, hb, hml, hown, hts⟩ (kX_placeFor l dC dI h0 q1 q2 q3 _ cL cI cJ f g h n id ix hn hok.2) (cwV 2 hts gX0_get_X0_placeFor rfl rfl rfl (by decide +kernel) ⟨Nat.le_of_ble_eq_true rfl, Nat.le_of_ble_eq_true rfl⟩) (nt_preV rfl hP hK hD [.long id, .int ix]) rfl rfl hl.1 rfl (lv_room (Nat.le_of_ble_eq_true rfl)) dX0_get_12 ⟨Nat.zero_le _, Nat.zero_le _⟩) hP hD hS hA (fun r u H locs hpost hP hD hS => ?_)
    obtain ⟨hpost, rfl⟩ := hpost
    have hP : va_P (dC, dI) vwCl (nt_w 0 h0 q1 q2 q3 cL cI cJ f g h n) H := hP
    have hD : va_D A (nt_w 0 h0 q1 q2 q3 cL cI cJ f g h n) := hD
    obtain ⟨j, rfl, hat⟩ := hpost
    have hj : j ≤ n := hat.1
    refine lv_istore (lv' := [(4, .int (nI j)), (0, .ref h0), (1, .long id), (3, .int ix)]) hx hb dX0_get_15 hl (by decide) rfl (fun ls hl => ?_)
    refine lv_aload_n hx hb dX0_get_17 rfl (lv_at hl 1 rfl) ?_
    refine lv_iload hx hb dX0_get_18 (lv_at hl 0 rfl) ?_
    refine lv_lload_n hx hb dX0_get_20 rfl (lv_at hl 2 rfl) ?_
    refine lv_iload_n hx hb dX0_get_21 rfl (lv_at hl 3 rfl) ?_
    refine nt_calli (va_runV (As := [.int (nI j), .long id, .int ix]) (rest := []) ⟨hx, hb, hml, hown, hts⟩ (kX_isNamed l dC dI h0 q1 q2 q3 _ cL cI cJ f g h n j id ix (by omega) hn) (cwV 3 hts gX0_get_X0_isNamed rfl rfl rfl (by decide +kernel) ⟨Nat.le_of_ble_eq_true rfl, Nat.le_of_ble_eq_true rfl⟩) (nt_preV rfl hP hK hD [.int (nI j), .long id, .int ix]) rfl rfl hl.1 rfl (lv_room (Nat.le_of_ble_eq_true rfl)) dX0_get_22 ⟨Nat.zero_le _, Nat.zero_le _⟩) hP hD hS hA (fun r u H locs hpost hP hD hS => ?_)
    obtain ⟨hpost, rfl⟩ := hpost
    have hP : va_P (dC, dI) vwCl (nt_w 0 h0 q1 q2 q3 cL cI cJ f g h n) H := hP
    have hD : va_D A (nt_w 0 h0 q1 q2 q3 cL cI cJ f g h n) := hD
    rcases hpost with ⟨rfl, hd⟩ | ⟨rfl, hd⟩
    · refine lv_if_eq (tgt := 38) hx hb dX0_get_25 (by decide) (fun h9 => absurd h9 (by decide)) (fun _ => ?_)
      have hjn : j < n := hd.1
      refine lv_aload_n hx hb dX0_get_28 rfl (lv_at hl 1 rfl) ?_
      refine va_get (D := (dC, dI)) (ci := 0) (v := .ref q3) (C := RX0) (T := TX0) (N := 4) hx hb hts hin hown hK hP 0 rfl rfl 2 (by decide) hf2 (fun _ h9 => h9) rfl dX0_get_29 ?_
      refine lv_iload hx hb dX0_get_32 (lv_at hl 0 rfl) ?_
      refine nt_iald hx hb hK hP 3 2 rfl rfl (by omega) dX0_get_34 ?_
      refine lv_goto (tgt := 40) hx hb dX0_get_35 (by decide) ?_
      exact W.iret (v := h j) hx hb hr (fun t ht hW => ⟨⟨h j, (f, g, h, n), rfl, ⟨nt_get_is hc hat hd, rfl⟩, by rw [ht]; exact hP, va_K.moved hW.alike hK, hD⟩, hS.F ht⟩) hS.2.2 dX0_get_40
    · refine lv_if_eq (tgt := 38) hx hb dX0_get_25 (by decide) (fun _ => ?_) (fun h9 => absurd h9 (by decide))
      refine lv_bipush (v := -2) hx hb dX0_get_38 (by decide) ?_
      exact W.iret (v := -2) hx hb hr (fun t ht hW => ⟨⟨-2, (f, g, h, n), rfl, ⟨nt_get_none hc hat hd, rfl⟩, by rw [ht]; exact hP, va_K.moved hW.alike hK, hD⟩, hS.F ht⟩) hS.2.2 dX0_get_40
  · refine lv_if_ne (tgt := 9) hx hb dX0_get_4 (by decide) (fun h9 => absurd h9 (by decide)) (fun _ => ?_)
    refine lv_iconst (v := -1) hx hb dX0_get_7 (by decide) ?_
    exact W.iret (v := -1) hx hb hr (fun t ht hW => ⟨⟨-1, (f, g, h, n), rfl, ⟨nt_get_bad (Classical.not_not.mp hc), rfl⟩, by rw [ht]; exact hP, va_K.moved hW.alike hK, hD⟩, hS.F ht⟩) hS.2.2 dX0_get_8
set_option maxHeartbeats 4000000 in
set_option maxRecDepth 100000 in
/-- promise 5 -/
theorem kX_take (l : Launch) (dC : Nat → ClassId) (dI : Nat → Nat → Nat) (h0 q1 q2 q3 sz : Nat) (cL cI cJ : ClassId) (f : Nat → Int64) (g h : Nat → Int32) (n : Nat) (k : Int32) (hn : n ≤ 900) : Met l yX0_take wsX0_take ({ frames := 3, cells := 0, slots := 0, locals := 120 } : Room) (va_Pc [.ref h0, .int k] (nt_in dC dI 0 h0 q1 q2 q3 cL cI cJ f g h n sz)) (va_Qi (fun (r : Int32) (u : nt_S) => (r, u) = nt_take (f, g, h, n) k) (nt_out dC dI 0 h0 q1 q2 q3 cL cI cJ (va_A (nt_w 0 h0 q1 q2 q3 cL cI cJ f g h n) sz)) (va_A (nt_w 0 h0 q1 q2 q3 cL cI cJ f g h n) sz)) 0 0 (va_A (nt_w 0 h0 q1 q2 q3 cL cI cJ f g h n) sz) := by
  refine Met.ofW (cc := cX0_take) (maxL := 2) (ret := (some .int)) (by decide) rfl ?_
  intro p e s m args below meth c s₁ B hml hv
  obtain ⟨rfl, hsz, hP, hK, hD0⟩ := hv
  have hx := B.exec
  have hb := B.bytes
  have hr := B.returns
  have hts := atoms_spec (ws := wsX0_take) B.pre
  have hown : s.vm.findClass RX0 = some m.cls := findClass_of_methodNamed B.named
  have hlocks := B.notSynchronized
  subst hsz
  have hD := hD0.self (sz := s.heap.size)
  generalize hAe : va_A (nt_w 0 h0 q1 q2 q3 cL cI cJ f g h n) s.heap.size = A at hD ⊢
  have hA : ∀ q : Nat, s.heap.size ≤ q → A q := fun q h => by rw [← hAe]; exact Or.inr h
  have hS : va_S A s.heap s.heap [] := va_S.rf
  have hl := lv_entry ([.ref h0, .int k]) (n := 2) (Nat.le_of_ble_eq_true rfl)
  rw [lg_entry_eq]
  generalize (lg_sl ([.ref h0, .int k]) ++ List.replicate (2 - (lg_sl ([.ref h0, .int k])).length) Slot.unset).toArray = ls at hl ⊢
  have hl : lv_has ls 2 [(0, .ref h0), (1, .int k)] := hl
  refine lv_aload_n hx hb dX0_take_0 rfl (lv_at hl 0 rfl) ?_
  refine lv_iload_n hx hb dX0_take_1 rfl (lv_at hl 1 rfl) ?_
  refine nt_calli (va_runV (As := [.int k]) (rest := []) ⟨hx, hb, hml, hown, hts⟩ (kX_isPlace l dC dI h0 q1 q2 q3 _ cL cI cJ f g h n k hn) (cwV 1 hts gX0_take_X0_isPlace rfl rfl rfl (by decide +kernel) ⟨Nat.le_of_ble_eq_true rfl, Nat.le_of_ble_eq_true rfl⟩) (nt_preV rfl hP hK hD [.int k]) rfl rfl hl.1 rfl (lv_room (Nat.le_of_ble_eq_true rfl)) dX0_take_2 ⟨Nat.zero_le _, Nat.zero_le _⟩) hP hD hS hA (fun r u H locs hpost hP hD hS => ?_)
  obtain ⟨hpost, rfl⟩ := hpost
  have hP : va_P (dC, dI) vwCl (nt_w 0 h0 q1 q2 q3 cL cI cJ f g h n) H := hP
  have hD : va_D A (nt_w 0 h0 q1 q2 q3 cL cI cJ f g h n) := hD
  rcases hpost with ⟨rfl, hc⟩ | ⟨rfl, hc⟩
  · refine lv_if_eq (tgt := 16) hx hb dX0_take_5 (by decide) (fun h9 => absurd h9 (by decide)) (fun _ => ?_)
    obtain ⟨j, hj, rfl⟩ : ∃ j : Nat, j < n ∧ k = nI j := (pk_ix k (show n < 2 ^ 31 by omega)).elim (fun h9 => absurd (Or.inl h9) hc) (fun h9 => h9.elim (fun h8 => absurd (Or.inr h8) hc) id)
    refine lv_aload_n hx hb dX0_take_8 rfl (lv_at hl 0 rfl) ?_
    refine lv_iload_n hx hb dX0_take_9 rfl (lv_at hl 1 rfl) ?_
    refine nt_calli (va_runV (As := [.int (nI j)]) (rest := []) ⟨hx, hb, hml, hown, hts⟩ (kX_deleteAt l dC dI h0 q1 q2 q3 _ cL cI cJ f g h n j hj hn) (cwV 1 hts gX0_take_X0_deleteAt rfl rfl rfl (by decide +kernel) ⟨Nat.le_of_ble_eq_true rfl, Nat.le_of_ble_eq_true rfl⟩) (nt_preV rfl hP hK hD [.int (nI j)]) rfl rfl hl.1 rfl (lv_room (Nat.le_of_ble_eq_true rfl)) dX0_take_10 ⟨Nat.zero_le _, Nat.zero_le _⟩) hP hD hS hA (fun r u H locs hpost hP hD hS => ?_)
    obtain ⟨rfl, rfl⟩ := Prod.mk.inj hpost
    have hP : va_P (dC, dI) vwCl (nt_w 0 h0 q1 q2 q3 cL cI cJ (nt_del f n j) (nt_del g n j) (nt_del h n j) (n - 1)) H := hP
    have hD : va_D A (nt_w 0 h0 q1 q2 q3 cL cI cJ (nt_del f n j) (nt_del g n j) (nt_del h n j) (n - 1)) := hD
    refine lv_goto (tgt := 18) hx hb dX0_take_13 (by decide) ?_
    exact W.iret (v := h j) hx hb hr (fun t ht hW => ⟨⟨h j, nt_delS (f, g, h, n) j, rfl, nt_take_did (st := (f, g, h, n)) hn hj rfl, by rw [ht]; exact hP, va_K.moved hW.alike hK, hD⟩, hS.F ht⟩) hS.2.2 dX0_take_18
  · refine lv_if_eq (tgt := 16) hx hb dX0_take_5 (by decide) (fun _ => ?_) (fun h9 => absurd h9 (by decide))
    refine lv_bipush (v := -2) hx hb dX0_take_16 (by decide) ?_
    exact W.iret (v := -2) hx hb hr (fun t ht hW => ⟨⟨-2, (f, g, h, n), rfl, nt_take_none (st := (f, g, h, n)) (Classical.not_not.mp hc), by rw [ht]; exact hP, va_K.moved hW.alike hK, hD⟩, hS.F ht⟩) hS.2.2 dX0_take_18
set_option maxHeartbeats 4000000 in
set_option maxRecDepth 100000 in
/-- promise 7 -/
theorem kX_name (l : Launch) (dC : Nat → ClassId) (dI : Nat → Nat → Nat) (h0 q1 q2 q3 sz : Nat) (cL cI cJ : ClassId) (f : Nat → Int64) (g h : Nat → Int32) (n : Nat) (k : Int32) (hn : n ≤ 900) : Met l yX0_name wsX0_name ({ frames := 1, cells := 0, slots := 0, locals := 40 } : Room) (va_Pc [.ref h0, .int k] (nt_in dC dI 0 h0 q1 q2 q3 cL cI cJ f g h n sz)) (va_Ql (fun (r : Int64) (u : nt_S) => r = nt_name (f, g, h, n) k ∧ u = (f, g, h, n)) (nt_out dC dI 0 h0 q1 q2 q3 cL cI cJ (va_A (nt_w 0 h0 q1 q2 q3 cL cI cJ f g h n) sz)) (va_A (nt_w 0 h0 q1 q2 q3 cL cI cJ f g h n) sz)) 0 0 (va_A (nt_w 0 h0 q1 q2 q3 cL cI cJ f g h n) sz) := by
  refine Met.ofW (cc := cX0_name) (maxL := 2) (ret := (some .long)) (by decide) rfl ?_
  intro p e s m args below meth c s₁ B hml hv
  obtain ⟨rfl, hsz, hP, hK, hD0⟩ := hv
  have hx := B.exec
  have hb := B.bytes
  have hr := B.returns
  have hts := atoms_spec (ws := wsX0_name) B.pre
  have hown : s.vm.findClass RX0 = some m.cls := findClass_of_methodNamed B.named
  have hlocks := B.notSynchronized
  subst hsz
  have hD := hD0.self (sz := s.heap.size)
  generalize hAe : va_A (nt_w 0 h0 q1 q2 q3 cL cI cJ f g h n) s.heap.size = A at hD ⊢
  have hA : ∀ q : Nat, s.heap.size ≤ q → A q := fun q h => by rw [← hAe]; exact Or.inr h
  have hS : va_S A s.heap s.heap [] := va_S.rf
  have hin : ∀ w ∈ u_ws RX0 TX0 4, w ∈ wsX0_name := by decide +kernel
  have hf0 := hts (.fieldLink RX0 9 "NameTable" "ids" "[J") (by decide +kernel)
  have hl := lv_entry ([.ref h0, .int k]) (n := 2) (Nat.le_of_ble_eq_true rfl)
  rw [lg_entry_eq]
  generalize (lg_sl ([.ref h0, .int k]) ++ List.replicate (2 - (lg_sl ([.ref h0, .int k])).length) Slot.unset).toArray = ls at hl ⊢
  have hl : lv_has ls 2 [(0, .ref h0), (1, .int k)] := hl
  refine lv_aload_n hx hb dX0_name_0 rfl (lv_at hl 0 rfl) ?_
  refine lv_iload_n hx hb dX0_name_1 rfl (lv_at hl 1 rfl) ?_
  refine nt_calli (va_runV (As := [.int k]) (rest := []) ⟨hx, hb, hml, hown, hts⟩ (kX_isPlace l dC dI h0 q1 q2 q3 _ cL cI cJ f g h n k hn) (cwV 1 hts gX0_name_X0_isPlace rfl rfl rfl (by decide +kernel) ⟨Nat.le_of_ble_eq_true rfl, Nat.le_of_ble_eq_true rfl⟩) (nt_preV rfl hP hK hD [.int k]) rfl rfl hl.1 rfl (lv_room (Nat.le_of_ble_eq_true rfl)) dX0_name_2 ⟨Nat.zero_le _, Nat.zero_le _⟩) hP hD hS hA (fun r u H locs hpost hP hD hS => ?_)
  obtain ⟨hpost, rfl⟩ := hpost
  have hP : va_P (dC, dI) vwCl (nt_w 0 h0 q1 q2 q3 cL cI cJ f g h n) H := hP
  have hD : va_D A (nt_w 0 h0 q1 q2 q3 cL cI cJ f g h n) := hD
  rcases hpost with ⟨rfl, hc⟩ | ⟨rfl, hc⟩
  · refine lv_if_eq (tgt := 17) hx hb dX0_name_5 (by decide) (fun h9 => absurd h9 (by decide)) (fun _ => ?_)
    obtain ⟨j, hj, rfl⟩ : ∃ j : Nat, j < n ∧ k = nI j := (pk_ix k (show n < 2 ^ 31 by omega)).elim (fun h9 => absurd (Or.inl h9) hc) (fun h9 => h9.elim (fun h8 => absurd (Or.inr h8) hc) id)
    refine lv_aload_n hx hb dX0_name_8 rfl (lv_at hl 0 rfl) ?_
    refine va_get (D := (dC, dI)) (ci := 0) (v := .ref q1) (C := RX0) (T := TX0) (N := 4) hx hb hts hin hown hK hP 0 rfl rfl 0 (by decide) hf0 (fun _ h9 => h9) rfl dX0_name_9 ?_
    refine lv_iload_n hx hb dX0_name_12 rfl (lv_at hl 1 rfl) ?_
    refine nt_lald hx hb hK hP 1 0 rfl rfl (by omega) dX0_name_13 ?_
    refine lv_goto (tgt := 18) hx hb dX0_name_14 (by decide) ?_
    exact W.lret (v := f j) hx hb hr (fun t ht hW => ⟨⟨f j, (f, g, h, n), rfl, ⟨nt_name_is (st := (f, g, h, n)) hn hj rfl, rfl⟩, by rw [ht]; exact hP, va_K.moved hW.alike hK, hD⟩, hS.F ht⟩) hS.2.2 dX0_name_18
  · refine lv_if_eq (tgt := 17) hx hb dX0_name_5 (by decide) (fun _ => ?_) (fun h9 => absurd h9 (by decide))
    refine lv_lconst (v := 0) hx hb dX0_name_17 (by decide) ?_
    exact W.lret (v := 0) hx hb hr (fun t ht hW => ⟨⟨0, (f, g, h, n), rfl, ⟨nt_name_none (st := (f, g, h, n)) (Classical.not_not.mp hc), rfl⟩, by rw [ht]; exact hP, va_K.moved hW.alike hK, hD⟩, hS.F ht⟩) hS.2.2 dX0_name_18
set_option maxHeartbeats 4000000 in
set_option maxRecDepth 100000 in
/-- promise 8 -/
theorem kX_index (l : Launch) (dC : Nat → ClassId) (dI : Nat → Nat → Nat) (h0 q1 q2 q3 sz : Nat) (cL cI cJ : ClassId) (f : Nat → Int64) (g h : Nat → Int32) (n : Nat) (k : Int32) (hn : n ≤ 900) : Met l yX0_index wsX0_index ({ frames := 1, cells := 0, slots := 0, locals := 40 } : Room) (va_Pc [.ref h0, .int k] (nt_in dC dI 0 h0 q1 q2 q3 cL cI cJ f g h n sz)) (va_Qi (fun (r : Int32) (u : nt_S) => r = nt_index (f, g, h, n) k ∧ u = (f, g, h, n)) (nt_out dC dI 0 h0 q1 q2 q3 cL cI cJ (va_A (nt_w 0 h0 q1 q2 q3 cL cI cJ f g h n) sz)) (va_A (nt_w 0 h0 q1 q2 q3 cL cI cJ f g h n) sz)) 0 0 (va_A (nt_w 0 h0 q1 q2 q3 cL cI cJ f g h n) sz) := by
  refine Met.ofW (cc := cX0_index) (maxL := 2) (ret := (some .int)) (by decide) rfl ?_
  intro p e s m args below meth c s₁ B hml hv
  obtain ⟨rfl, hsz, hP, hK, hD0⟩ := hv
  have hx := B.exec
  have hb := B.bytes
  have hr := B.returns
  have hts := atoms_spec (ws := wsX0_index) B.pre
  have hown : s.vm.findClass RX0 = some m.cls := findClass_of_methodNamed B.named
  have hlocks := B.notSynchronized
  subst hsz
  have hD := hD0.self (sz := s.heap.size)
  generalize hAe : va_A (nt_w 0 h0 q1 q2 q3 cL cI cJ f g h n) s.heap.size = A at hD ⊢
  have hA : ∀ q : Nat, s.heap.size ≤ q → A q := fun q h => by rw [← hAe]; exact Or.inr h
  have hS : va_S A s.heap s.heap [] := va_S.rf
  have hin : ∀ w ∈ u_ws RX0 TX0 4, w ∈ wsX0_index := by decide +kernel
  have hf1 := hts (.fieldLink RX0 13 "NameTable" "indexes" "[I") (by decide +kernel)
  have hl := lv_entry ([.ref h0, .int k]) (n := 2) (Nat.le_of_ble_eq_true rfl)
  rw [lg_entry_eq]
  generalize (lg_sl ([.ref h0, .int k]) ++ List.replicate (2 - (lg_sl ([.ref h0, .int k])).length) Slot.unset).toArray = ls at hl ⊢
  have hl : lv_has ls 2 [(0, .ref h0), (1, .int k)] := hl
  refine lv_aload_n hx hb dX0_index_0 rfl (lv_at hl 0 rfl) ?_
  refine lv_iload_n hx hb dX0_index_1 rfl (lv_at hl 1 rfl) ?_
  refine nt_calli (va_runV (As := [.int k]) (rest := []) ⟨hx, hb, hml, hown, hts⟩ (kX_isPlace l dC dI h0 q1 q2 q3 _ cL cI cJ f g h n k hn) (cwV 1 hts gX0_index_X0_isPlace rfl rfl rfl (by decide +kernel) ⟨Nat.le_of_ble_eq_true rfl, Nat.le_of_ble_eq_true rfl⟩) (nt_preV rfl hP hK hD [.int k]) rfl rfl hl.1 rfl (lv_room (Nat.le_of_ble_eq_true rfl)) dX0_index_2 ⟨Nat.zero_le _, Nat.zero_le _⟩) hP hD hS hA (fun r u H locs hpost hP hD hS => ?_)
  obtain ⟨hpost, rfl⟩ := hpost
  have hP : va_P (dC, dI) vwCl (nt_w 0 h0 q1 q2 q3 cL cI cJ f g h n) H := hP
  have hD : va_D A (nt_w 0 h0 q1 q2 q3 cL cI cJ f g h n) := hD
  rcases hpost with ⟨rfl, hc⟩ | ⟨rfl, hc⟩
  · refine lv_if_eq (tgt := 17) hx hb dX0_index_5 (by decide) (fun h9 => absurd h9 (by decide)) (fun _ => ?_)
    obtain ⟨j, hj, rfl⟩ : ∃ j : Nat, j < n ∧ k = nI j := (pk_ix k (show n < 2 ^ 31 by omega)).elim (fun h9 => absurd (Or.inl h9) hc) (fun h9 => h9.elim (fun h8 => absurd (Or.inr h8) hc) id)
    refine lv_aload_n hx hb dX0_index_8 rfl (lv_at hl 0 rfl) ?_
    refine va_get (D := (dC, dI)) (ci := 0) (v := .ref q2) (C := RX0) (T := TX0) (N := 4) hx hb hts hin hown hK hP 0 rfl rfl 1 (by decide) hf1 (fun _ h9 => h9) rfl dX0_index_9 ?_
    refine lv_iload_n hx hb dX0_index_12 rfl (lv_at hl 1 rfl) ?_
    refine nt_iald hx hb hK hP 2 1 rfl rfl (by omega) dX0_index_13 ?_
    refine lv_goto (tgt := 19) hx hb dX0_index_14 (by decide) ?_
    exact W.iret (v := g j) hx hb hr (fun t ht hW => ⟨⟨g j, (f, g, h, n), rfl, ⟨nt_index_is (st := (f, g, h, n)) hn hj rfl, rfl⟩, by rw [ht]; exact hP, va_K.moved hW.alike hK, hD⟩, hS.F ht⟩) hS.2.2 dX0_index_19
  · refine lv_if_eq (tgt := 17) hx hb dX0_index_5 (by decide) (fun _ => ?_) (fun h9 => absurd h9 (by decide))
    refine lv_bipush (v := -2) hx hb dX0_index_17 (by decide) ?_
    exact W.iret (v := -2) hx hb hr (fun t ht hW => ⟨⟨-2, (f, g, h, n), rfl, ⟨nt_index_none (st := (f, g, h, n)) (Classical.not_not.mp hc), rfl⟩, by rw [ht]; exact hP, va_K.moved hW.alike hK, hD⟩, hS.F ht⟩) hS.2.2 dX0_index_19
set_option maxHeartbeats 4000000 in
set_option maxRecDepth 100000 in
/-- promise 9 -/
theorem kX_many (l : Launch) (dC : Nat → ClassId) (dI : Nat → Nat → Nat) (h0 q1 q2 q3 sz : Nat) (cL cI cJ : ClassId) (f : Nat → Int64) (g h : Nat → Int32) (n : Nat)  : Met l yX0_many wsX0_many ({ frames := 0, cells := 0, slots := 0, locals := 0 } : Room) (va_Pc [.ref h0] (nt_in dC dI 0 h0 q1 q2 q3 cL cI cJ f g h n sz)) (va_Qi (fun (r : Int32) (u : nt_S) => r = nI n ∧ u = (f, g, h, n)) (nt_out dC dI 0 h0 q1 q2 q3 cL cI cJ (va_A (nt_w 0 h0 q1 q2 q3 cL cI cJ f g h n) sz)) (va_A (nt_w 0 h0 q1 q2 q3 cL cI cJ f g h n) sz)) 0 0 (va_A (nt_w 0 h0 q1 q2 q3 cL cI cJ f g h n) sz) := by
  refine Met.ofW (cc := cX0_many) (maxL := 1) (ret := (some .int)) (by decide) rfl ?_
  intro p e s m args below meth c s₁ B hml hv
  obtain ⟨rfl, hsz, hP, hK, hD0⟩ := hv
  have hx := B.exec
  have hb := B.bytes
  have hr := B.returns
  have hts := atoms_spec (ws := wsX0_many) B.pre
  have hown : s.vm.findClass RX0 = some m.cls := findClass_of_methodNamed B.named
  have hlocks := B.notSynchronized
  subst hsz
  have hD := hD0.self (sz := s.heap.size)
  generalize hAe : va_A (nt_w 0 h0 q1 q2 q3 cL cI cJ f g h n) s.heap.size = A at hD ⊢
  have hA : ∀ q : Nat, s.heap.size ≤ q → A q := fun q h => by rw [← hAe]; exact Or.inr h
  have hS : va_S A s.heap s.heap [] := va_S.rf
  have hin : ∀ w ∈ u_ws RX0 TX0 4, w ∈ wsX0_many := by decide +kernel
  have hf3 := hts (.fieldLink RX0 20 "NameTable" "count" "I") (by decide +kernel)
  have hl := lv_entry ([.ref h0]) (n := 1) (Nat.le_of_ble_eq_true rfl)
  rw [lg_entry_eq]
  generalize (lg_sl ([.ref h0]) ++ List.replicate (1 - (lg_sl ([.ref h0])).length) Slot.unset).toArray = ls at hl ⊢
  have hl : lv_has ls 1 [(0, .ref h0)] := hl
  refine lv_aload_n hx hb dX0_many_0 rfl (lv_at hl 0 rfl) ?_
  refine va_get (D := (dC, dI)) (ci := 0) (v := .int (nI n)) (C := RX0) (T := TX0) (N := 4) hx hb hts hin hown hK hP 0 rfl rfl 3 (by decide) hf3 (fun _ h9 => h9) rfl dX0_many_1 ?_
  exact W.iret (v := nI n) hx hb hr (fun t ht hW => ⟨⟨nI n, (f, g, h, n), rfl, ⟨rfl, rfl⟩, by rw [ht]; exact hP, va_K.moved hW.alike hK, hD⟩, hS.F ht⟩) hS.2.2 dX0_many_4
set_option maxHeartbeats 4000000 in
set_option maxRecDepth 100000 in
/-- promise 10 -/
theorem kX_value (l : Launch) (dC : Nat → ClassId) (dI : Nat → Nat → Nat) (h0 q1 q2 q3 sz : Nat) (cL cI cJ : ClassId) (f : Nat → Int64) (g h : Nat → Int32) (n : Nat) (hn : n ≤ 900) : Met l yX0_value wsX0_value ({ frames := 0, cells := 0, slots := 0, locals := 0 } : Room) (va_Pc [.ref h0] (nt_in dC dI 0 h0 q1 q2 q3 cL cI cJ f g h n sz)) (va_Ql (fun (r : Int64) (u : nt_S) => r = nt_sum h n ∧ u = (f, g, h, n)) (nt_out dC dI 0 h0 q1 q2 q3 cL cI cJ (va_A (nt_w 0 h0 q1 q2 q3 cL cI cJ f g h n) sz)) (va_A (nt_w 0 h0 q1 q2 q3 cL cI cJ f g h n) sz)) 0 0 (va_A (nt_w 0 h0 q1 q2 q3 cL cI cJ f g h n) sz) := by
  refine Met.ofW (cc := cX0_value) (maxL := 4) (ret := (some .long)) (by decide) rfl ?_
  intro p e s m args below meth c s₁ B hml hv
  obtain ⟨rfl, hsz, hP, hK, hD0⟩ := hv
  have hx := B.exec
  have hb := B.bytes
  have hr := B.returns
  have hts := atoms_spec (ws := wsX0_value) B.pre
  have hown : s.vm.findClass RX0 = some m.cls := findClass_of_methodNamed B.named
  have hlocks := B.notSynchronized
  subst hsz
  have hD := hD0.self (sz := s.heap.size)
  generalize hAe : va_A (nt_w 0 h0 q1 q2 q3 cL cI cJ f g h n) s.heap.size = A at hD ⊢
  have hA : ∀ q : Nat, s.heap.size ≤ q → A q := fun q h => by rw [← hAe]; exact Or.inr h
  have hS : va_S A s.heap s.heap [] := va_S.rf
  have hin : ∀ w ∈ u_ws RX0 TX0 4, w ∈ wsX0_value := by decide +kernel
  have hf2 := hts (.fieldLink RX0 17 "NameTable" "values" "[I") (by decide +kernel)
  have hf3 := hts (.fieldLink RX0 20 "NameTable" "count" "I") (by decide +kernel)
  have hl := lv_entry ([.ref h0]) (n := 4) (Nat.le_of_ble_eq_true rfl)
  rw [lg_entry_eq]
  generalize (lg_sl ([.ref h0]) ++ List.replicate (4 - (lg_sl ([.ref h0])).length) Slot.unset).toArray = ls at hl ⊢
  have hl : lv_has ls 4 [(0, .ref h0)] := hl
  refine lv_lconst (v := 0) hx hb dX0_value_0 (by decide) ?_
  refine lv_lstore_n (lv' := [(1, .long 0), (0, .ref h0)]) hx hb dX0_value_1 rfl hl (by decide) rfl (fun ls hl => ?_)
  refine lv_iconst (v := nI 0) hx hb dX0_value_2 (by decide) ?_
  refine lv_istore_n (lv' := [(3, .int (nI 0)), (1, .long 0), (0, .ref h0)]) hx hb dX0_value_3 rfl hl (by decide) rfl (fun ls hl => ?_)
  refine nt_here (fun Q hQ => ?_)
  have loop : ∀ (d i : Nat), i + d = n → ∀ (ls : Array Slot), lv_has ls 4 [(0, .ref h0), (1, .long (nt_sum h i)), (3, .int (nI i))] → W p l e ({ frames := 0, cells := 0, slots := 0, locals := 0 } : Room) s m ([.ref h0] : List Value).toArray below meth c s.heap [] 0 0 Q (F0 m 4 ls []) := by
    intro d
    induction d with
    | zero =>
      intro i hi ls hl
      have hi : i = n := by omega
      subst hi
      refine lv_iload_n hx hb dX0_value_4 rfl (lv_at hl 2 rfl) ?_
      refine lv_aload_n hx hb dX0_value_5 rfl (lv_at hl 0 rfl) ?_
      refine va_get (D := (dC, dI)) (ci := 0) (v := .int (nI i)) (C := RX0) (T := TX0) (N := 4) hx hb hts hin hown hK hP 0 rfl rfl 3 (by decide) hf3 (fun _ h9 => h9) rfl dX0_value_6 ?_
      refine lv_icmp_ge (tgt := 28) hx hb dX0_value_9 (by decide) (fun hc => ?_) (fun hc => ?_)
      · refine lv_lload_n hx hb dX0_value_28 rfl (lv_at hl 1 rfl) ?_
        subst hQ
        exact W.lret (v := nt_sum h i) hx hb hr (fun t ht hW => ⟨⟨nt_sum h i, (f, g, h, i), rfl, ⟨rfl, rfl⟩, by rw [ht]; exact hP, va_K.moved hW.alike hK, hD⟩, hS.F ht⟩) hS.2.2 dX0_value_29
      · exact absurd (nI_le (Nat.le_refl i) (by omega)) hc
    | succ d ih =>
      intro i hi ls hl
      refine lv_iload_n hx hb dX0_value_4 rfl (lv_at hl 2 rfl) ?_
      refine lv_aload_n hx hb dX0_value_5 rfl (lv_at hl 0 rfl) ?_
      refine va_get (D := (dC, dI)) (ci := 0) (v := .int (nI n)) (C := RX0) (T := TX0) (N := 4) hx hb hts hin hown hK hP 0 rfl rfl 3 (by decide) hf3 (fun _ h9 => h9) rfl dX0_value_6 ?_
      refine lv_icmp_ge (tgt := 28) hx hb dX0_value_9 (by decide) (fun hc => ?_) (fun hc => ?_)
      · exact absurd hc (nI_ge (show i < n by omega) (by omega))
      · refine lv_lload_n hx hb dX0_value_12 rfl (lv_at hl 1 rfl) ?_
        refine lv_aload_n hx hb dX0_value_13 rfl (lv_at hl 0 rfl) ?_
        refine va_get (D := (dC, dI)) (ci := 0) (v := .ref q3) (C := RX0) (T := TX0) (N := 4) hx hb hts hin hown hK hP 0 rfl rfl 2 (by decide) hf2 (fun _ h9 => h9) rfl dX0_value_14 ?_
        refine lv_iload_n hx hb dX0_value_17 rfl (lv_at hl 2 rfl) ?_
        refine nt_iald hx hb hK hP 3 2 rfl rfl (by omega) dX0_value_18 ?_
        refine lv_i2l (v := (h i).toInt64) hx hb dX0_value_19 rfl ?_
        refine lv_ladd hx hb dX0_value_20 ?_
        refine lv_lstore_n (lv' := [(1, .long ((nt_sum h i) + ((h i).toInt64))), (0, .ref h0), (3, .int (nI i))]) hx hb dX0_value_21 rfl hl (by decide) rfl (fun ls hl => ?_)
        refine lv_iinc (k := 2) (v := nI (i + 1)) (lv' := [(3, .int (nI (i + 1))), (1, .long ((nt_sum h i) + ((h i).toInt64))), (0, .ref h0)]) hx hb dX0_value_22 hl rfl (by rw [show Int32.ofInt 1 = 1 by decide]; exact nI_1 _) (by decide) rfl (fun ls hl => ?_)
        refine lv_goto (tgt := 4) hx hb dX0_value_25 (by decide) ?_
        exact ih (i + 1) (by omega) ls (lv_sub hl [2, 1, 0] rfl)
  exact loop n 0 (by omega) ls (lv_sub hl [2, 1, 0] rfl)
