set_option maxHeartbeats 4000000 in
set_option maxRecDepth 100000 in
/-- the reference's remove -/
theorem kM_remove (l : Launch) (dC : Nat → ClassId) (dI : Nat → Nat → Nat) (h0 q1 q2 q3 sz : Nat) (cL cI cJ : ClassId) (f : Nat → Int64) (g h : Nat → Int32) (n : Nat) (id : Int64) (ix : Int32) (hok : nt_ok (f, g, h, n)) : Met l yX1_remove wsX1_remove ({ frames := 1, cells := 0, slots := 0, locals := 40 } : Room) (va_Pc [.ref h0, .long id, .int ix] (nt_in dC dI 1 h0 q1 q2 q3 cL cI cJ f g h n sz)) (va_Qi (fun (r : Int32) (u : nt_S) => (r, u) = nt_rem (f, g, h, n) id ix) (nt_out dC dI 1 h0 q1 q2 q3 cL cI cJ (va_A (nt_w 1 h0 q1 q2 q3 cL cI cJ f g h n) sz)) (va_A (nt_w 1 h0 q1 q2 q3 cL cI cJ f g h n) sz)) 0 0 (va_A (nt_w 1 h0 q1 q2 q3 cL cI cJ f g h n) sz) := by
  refine Met.ofW (cc := cX1_remove) (maxL := 5) (ret := (some .int)) (by decide) rfl ?_
  intro p e s m args below meth c s₁ B hml hv
  obtain ⟨rfl, hsz, hP, hK, hD0⟩ := hv
  have hx := B.exec
  have hb := B.bytes
  have hr := B.returns
  have hts := atoms_spec (ws := wsX1_remove) B.pre
  have hown : s.vm.findClass RX1 = some m.cls := findClass_of_methodNamed B.named
  have hlocks := B.notSynchronized
  subst hsz
  have hD := hD0.self (sz := s.heap.size)
  generalize hAe : va_A (nt_w 1 h0 q1 q2 q3 cL cI cJ f g h n) s.heap.size = A at hD ⊢
  have hA : ∀ q : Nat, s.heap.size ≤ q → A q := fun q h => by rw [← hAe]; exact Or.inr h
  have hS : va_S A s.heap s.heap [] := va_S.rf
  have hl := lv_entry ([.ref h0, .long id, .int ix]) (n := 5) (Nat.le_of_ble_eq_true rfl)
  rw [lg_entry_eq]
  generalize (lg_sl ([.ref h0, .long id, .int ix]) ++ List.replicate (5 - (lg_sl ([.ref h0, .long id, .int ix])).length) Slot.unset).toArray = ls at hl ⊢
  have hl : lv_has ls 5 [(0, .ref h0), (1, .long id), (3, .int ix)] := hl
  have hn : n ≤ 900 := hok.1
  refine lv_iload_n hx hb dX1_remove_0 rfl (lv_at hl 2 rfl) ?_
  refine lv_if_lt (tgt := 10) hx hb dX1_remove_1 (by decide) (fun h1 => ?_) (fun h1 => ?_)
  · refine lv_iconst (v := -1) hx hb dX1_remove_10 (by decide) ?_
    exact W.iret (v := -1) hx hb hr (fun t ht hW => ⟨⟨-1, (f, g, h, n), rfl, nt_rem_bad (Or.inl h1), by rw [ht]; exact hP, va_K.moved hW.alike hK, hD⟩, hS.F ht⟩) hS.2.2 dX1_remove_11
  · refine lv_iload_n hx hb dX1_remove_4 rfl (lv_at hl 2 rfl) ?_
    refine lv_bipush (v := 7) hx hb dX1_remove_5 (by decide) ?_
    refine lv_icmp_le (tgt := 12) hx hb dX1_remove_7 (by decide) (fun h2 => ?_) (fun h2 => ?_)
    · have hg : ¬ (ix < 0 ∨ 7 < ix) := fun h9 => h9.elim h1 (fun h8 => Int32.not_le.mpr h8 h2)
      refine lv_aload_n hx hb dX1_remove_12 rfl (lv_at hl 0 rfl) ?_
      refine lv_lload_n hx hb dX1_remove_13 rfl (lv_at hl 1 rfl) ?_
      refine lv_iload_n hx hb dX1_remove_14 rfl (lv_at hl 2 rfl) ?_
      refine nt_calli (va_runV (As := [.long id, .int ix]) (rest := []) ⟨hx, hb, hml, hown, hts⟩ (kM_place l dC dI h0 q1 q2 q3 _ cL cI cJ f g h n id ix hn) (cwV 2 hts gX1_remove_X1_place rfl rfl rfl (by decide +kernel) ⟨Nat.le_of_ble_eq_true rfl, Nat.le_of_ble_eq_true rfl⟩) (nt_preV rfl hP hK hD [.long id, .int ix]) rfl rfl hl.1 rfl (lv_room (Nat.le_of_ble_eq_true rfl)) dX1_remove_15 ⟨Nat.zero_le _, Nat.zero_le _⟩) hP hD hS hA (fun r u H locs hpost hP hD hS => ?_)
      obtain ⟨hpost, rfl⟩ := hpost
      have hP : va_P (dC, dI) vwCl (nt_w 1 h0 q1 q2 q3 cL cI cJ f g h n) H := hP
      have hD : va_D A (nt_w 1 h0 q1 q2 q3 cL cI cJ f g h n) := hD
      obtain ⟨j, rfl, hat⟩ := hpost
      have hj : j ≤ n := hat.1
      refine lv_istore (lv' := [(4, .int (nI j)), (0, .ref h0), (1, .long id), (3, .int ix)]) hx hb dX1_remove_18 hl (by decide) rfl (fun ls hl => ?_)
      refine lv_aload_n hx hb dX1_remove_20 rfl (lv_at hl 1 rfl) ?_
      refine lv_iload hx hb dX1_remove_21 (lv_at hl 0 rfl) ?_
      refine lv_lload_n hx hb dX1_remove_23 rfl (lv_at hl 2 rfl) ?_
      refine lv_iload_n hx hb dX1_remove_24 rfl (lv_at hl 3 rfl) ?_
      refine nt_calli (va_runV (As := [.int (nI j), .long id, .int ix]) (rest := []) ⟨hx, hb, hml, hown, hts⟩ (kM_is l dC dI h0 q1 q2 q3 _ cL cI cJ f g h n j id ix (by omega) hn) (cwV 3 hts gX1_remove_X1_is rfl rfl rfl (by decide +kernel) ⟨Nat.le_of_ble_eq_true rfl, Nat.le_of_ble_eq_true rfl⟩) (nt_preV rfl hP hK hD [.int (nI j), .long id, .int ix]) rfl rfl hl.1 rfl (lv_room (Nat.le_of_ble_eq_true rfl)) dX1_remove_25 ⟨Nat.zero_le _, Nat.zero_le _⟩) hP hD hS hA (fun r u H locs hpost hP hD hS => ?_)
      obtain ⟨hpost, rfl⟩ := hpost
      have hP : va_P (dC, dI) vwCl (nt_w 1 h0 q1 q2 q3 cL cI cJ f g h n) H := hP
      have hD : va_D A (nt_w 1 h0 q1 q2 q3 cL cI cJ f g h n) := hD
      rcases hpost with ⟨rfl, hd⟩ | ⟨rfl, hd⟩
      · refine lv_if_eq (tgt := 40) hx hb dX1_remove_28 (by decide) (fun h9 => absurd h9 (by decide)) (fun _ => ?_)
        have hjn : j < n := hd.1
        refine lv_aload_n hx hb dX1_remove_31 rfl (lv_at hl 1 rfl) ?_
        refine lv_iload hx hb dX1_remove_32 (lv_at hl 0 rfl) ?_
        refine nt_calli (va_runV (As := [.int (nI j)]) (rest := []) ⟨hx, hb, hml, hown, hts⟩ (kM_go l dC dI h0 q1 q2 q3 _ cL cI cJ f g h n j hjn hn) (cwV 1 hts gX1_remove_X1_go rfl rfl rfl (by decide +kernel) ⟨Nat.le_of_ble_eq_true rfl, Nat.le_of_ble_eq_true rfl⟩) (nt_preV rfl hP hK hD [.int (nI j)]) rfl rfl hl.1 rfl (lv_room (Nat.le_of_ble_eq_true rfl)) dX1_remove_34 ⟨Nat.zero_le _, Nat.zero_le _⟩) hP hD hS hA (fun r u H locs hpost hP hD hS => ?_)
        obtain ⟨rfl, rfl⟩ := Prod.mk.inj hpost
        have hP : va_P (dC, dI) vwCl (nt_w 1 h0 q1 q2 q3 cL cI cJ (nt_del f n j) (nt_del g n j) (nt_del h n j) (n - 1)) H := hP
        have hD : va_D A (nt_w 1 h0 q1 q2 q3 cL cI cJ (nt_del f n j) (nt_del g n j) (nt_del h n j) (n - 1)) := hD
        refine lv_goto (tgt := 42) hx hb dX1_remove_37 (by decide) ?_
        exact W.iret (v := h j) hx hb hr (fun t ht hW => ⟨⟨h j, nt_delS (f, g, h, n) j, rfl, nt_rem_did hg hat hd, by rw [ht]; exact hP, va_K.moved hW.alike hK, hD⟩, hS.F ht⟩) hS.2.2 dX1_remove_42
      · refine lv_if_eq (tgt := 40) hx hb dX1_remove_28 (by decide) (fun _ => ?_) (fun h9 => absurd h9 (by decide))
        refine lv_bipush (v := -2) hx hb dX1_remove_40 (by decide) ?_
        exact W.iret (v := -2) hx hb hr (fun t ht hW => ⟨⟨-2, (f, g, h, n), rfl, nt_rem_none hg hat hd, by rw [ht]; exact hP, va_K.moved hW.alike hK, hD⟩, hS.F ht⟩) hS.2.2 dX1_remove_42
    · refine lv_iconst (v := -1) hx hb dX1_remove_10 (by decide) ?_
      exact W.iret (v := -1) hx hb hr (fun t ht hW => ⟨⟨-1, (f, g, h, n), rfl, nt_rem_bad (Or.inr (Int32.not_le.mp h2)), by rw [ht]; exact hP, va_K.moved hW.alike hK, hD⟩, hS.F ht⟩) hS.2.2 dX1_remove_11
set_option maxHeartbeats 4000000 in
set_option maxRecDepth 100000 in
/-- the reference's get -/
theorem kM_get (l : Launch) (dC : Nat → ClassId) (dI : Nat → Nat → Nat) (h0 q1 q2 q3 sz : Nat) (cL cI cJ : ClassId) (f : Nat → Int64) (g h : Nat → Int32) (n : Nat) (id : Int64) (ix : Int32) (hok : nt_ok (f, g, h, n)) : Met l yX1_get wsX1_get ({ frames := 1, cells := 0, slots := 0, locals := 40 } : Room) (va_Pc [.ref h0, .long id, .int ix] (nt_in dC dI 1 h0 q1 q2 q3 cL cI cJ f g h n sz)) (va_Qi (fun (r : Int32) (u : nt_S) => r = nt_get (f, g, h, n) id ix ∧ u = (f, g, h, n)) (nt_out dC dI 1 h0 q1 q2 q3 cL cI cJ (va_A (nt_w 1 h0 q1 q2 q3 cL cI cJ f g h n) sz)) (va_A (nt_w 1 h0 q1 q2 q3 cL cI cJ f g h n) sz)) 0 0 (va_A (nt_w 1 h0 q1 q2 q3 cL cI cJ f g h n) sz) := by
  refine Met.ofW (cc := cX1_get) (maxL := 5) (ret := (some .int)) (by decide) rfl ?_
  intro p e s m args below meth c s₁ B hml hv
  obtain ⟨rfl, hsz, hP, hK, hD0⟩ := hv
  have hx := B.exec
  have hb := B.bytes
  have hr := B.returns
  have hts := atoms_spec (ws := wsX1_get) B.pre
  have hown : s.vm.findClass RX1 = some m.cls := findClass_of_methodNamed B.named
  have hlocks := B.notSynchronized
  subst hsz
  have hD := hD0.self (sz := s.heap.size)
  generalize hAe : va_A (nt_w 1 h0 q1 q2 q3 cL cI cJ f g h n) s.heap.size = A at hD ⊢
  have hA : ∀ q : Nat, s.heap.size ≤ q → A q := fun q h => by rw [← hAe]; exact Or.inr h
  have hS : va_S A s.heap s.heap [] := va_S.rf
  have hin : ∀ w ∈ u_ws RX1 TX1 4, w ∈ wsX1_get := by decide +kernel
  have hf2 := hts (.fieldLink RX1 17 "NameTableModel" "value" "[I") (by decide +kernel)
  have hl := lv_entry ([.ref h0, .long id, .int ix]) (n := 5) (Nat.le_of_ble_eq_true rfl)
  rw [lg_entry_eq]
  generalize (lg_sl ([.ref h0, .long id, .int ix]) ++ List.replicate (5 - (lg_sl ([.ref h0, .long id, .int ix])).length) Slot.unset).toArray = ls at hl ⊢
  have hl : lv_has ls 5 [(0, .ref h0), (1, .long id), (3, .int ix)] := hl
  have hn : n ≤ 900 := hok.1
  refine lv_iload_n hx hb dX1_get_0 rfl (lv_at hl 2 rfl) ?_
  refine lv_if_lt (tgt := 10) hx hb dX1_get_1 (by decide) (fun h1 => ?_) (fun h1 => ?_)
  · refine lv_iconst (v := -1) hx hb dX1_get_10 (by decide) ?_
    exact W.iret (v := -1) hx hb hr (fun t ht hW => ⟨⟨-1, (f, g, h, n), rfl, ⟨nt_get_bad (Or.inl h1), rfl⟩, by rw [ht]; exact hP, va_K.moved hW.alike hK, hD⟩, hS.F ht⟩) hS.2.2 dX1_get_11
  · refine lv_iload_n hx hb dX1_get_4 rfl (lv_at hl 2 rfl) ?_
    refine lv_bipush (v := 7) hx hb dX1_get_5 (by decide) ?_
    refine lv_icmp_le (tgt := 12) hx hb dX1_get_7 (by decide) (fun h2 => ?_) (fun h2 => ?_)
    · have hg : ¬ (ix < 0 ∨ 7 < ix) := fun h9 => h9.elim h1 (fun h8 => Int32.not_le.mpr h8 h2)
      refine lv_aload_n hx hb dX1_get_12 rfl (lv_at hl 0 rfl) ?_
      refine lv_lload_n hx hb dX1_get_13 rfl (lv_at hl 1 rfl) ?_
      refine lv_iload_n hx hb dX1_get_14 rfl (lv_at hl 2 rfl) ?_
      refine nt_calli (va_runV (As := [.long id, .int ix]) (rest := []) ⟨hx, hb, hml, hown, hts⟩ (kM_place l dC dI h0 q1 q2 q3 _ cL cI cJ f g h n id ix hn) (cwV 2 hts gX1_get_X1_place rfl rfl rfl (by decide +kernel) ⟨Nat.le_of_ble_eq_true rfl, Nat.le_of_ble_eq_true rfl⟩) (nt_preV rfl hP hK hD [.long id, .int ix]) rfl rfl hl.1 rfl (lv_room (Nat.le_of_ble_eq_true rfl)) dX1_get_15 ⟨Nat.zero_le _, Nat.zero_le _⟩) hP hD hS hA (fun r u H locs hpost hP hD hS => ?_)
      obtain ⟨hpost, rfl⟩ := hpost
      have hP : va_P (dC, dI) vwCl (nt_w 1 h0 q1 q2 q3 cL cI cJ f g h n) H := hP
      have hD : va_D A (nt_w 1 h0 q1 q2 q3 cL cI cJ f g h n) := hD
      obtain ⟨j, rfl, hat⟩ := hpost
      have hj : j ≤ n := hat.1
      refine lv_istore (lv' := [(4, .int (nI j)), (0, .ref h0), (1, .long id), (3, .int ix)]) hx hb dX1_get_18 hl (by decide) rfl (fun ls hl => ?_)
      refine lv_aload_n hx hb dX1_get_20 rfl (lv_at hl 1 rfl) ?_
      refine lv_iload hx hb dX1_get_21 (lv_at hl 0 rfl) ?_
      refine lv_lload_n hx hb dX1_get_23 rfl (lv_at hl 2 rfl) ?_
      refine lv_iload_n hx hb dX1_get_24 rfl (lv_at hl 3 rfl) ?_
      refine nt_calli (va_runV (As := [.int (nI j), .long id, .int ix]) (rest := []) ⟨hx, hb, hml, hown, hts⟩ (kM_is l dC dI h0 q1 q2 q3 _ cL cI cJ f g h n j id ix (by omega) hn) (cwV 3 hts gX1_get_X1_is rfl rfl rfl (by decide +kernel) ⟨Nat.le_of_ble_eq_true rfl, Nat.le_of_ble_eq_true rfl⟩) (nt_preV rfl hP hK hD [.int (nI j), .long id, .int ix]) rfl rfl hl.1 rfl (lv_room (Nat.le_of_ble_eq_true rfl)) dX1_get_25 ⟨Nat.zero_le _, Nat.zero_le _⟩) hP hD hS hA (fun r u H locs hpost hP hD hS => ?_)
      obtain ⟨hpost, rfl⟩ := hpost
      have hP : va_P (dC, dI) vwCl (nt_w 1 h0 q1 q2 q3 cL cI cJ f g h n) H := hP
      have hD : va_D A (nt_w 1 h0 q1 q2 q3 cL cI cJ f g h n) := hD
      rcases hpost with ⟨rfl, hd⟩ | ⟨rfl, hd⟩
      · refine lv_if_eq (tgt := 41) hx hb dX1_get_28 (by decide) (fun h9 => absurd h9 (by decide)) (fun _ => ?_)
        have hjn : j < n := hd.1
        refine lv_aload_n hx hb dX1_get_31 rfl (lv_at hl 1 rfl) ?_
        refine va_get (D := (dC, dI)) (ci := 1) (v := .ref q3) (C := RX1) (T := TX1) (N := 4) hx hb hts hin hown hK hP 0 rfl rfl 2 (by decide) hf2 (fun _ h9 => h9) rfl dX1_get_32 ?_
        refine lv_iload hx hb dX1_get_35 (lv_at hl 0 rfl) ?_
        refine nt_iald hx hb hK hP 3 2 rfl rfl (by omega) dX1_get_37 ?_
        refine lv_goto (tgt := 43) hx hb dX1_get_38 (by decide) ?_
        exact W.iret (v := h j) hx hb hr (fun t ht hW => ⟨⟨h j, (f, g, h, n), rfl, ⟨nt_get_is hg hat hd, rfl⟩, by rw [ht]; exact hP, va_K.moved hW.alike hK, hD⟩, hS.F ht⟩) hS.2.2 dX1_get_43
      · refine lv_if_eq (tgt := 41) hx hb dX1_get_28 (by decide) (fun _ => ?_) (fun h9 => absurd h9 (by decide))
        refine lv_bipush (v := -2) hx hb dX1_get_41 (by decide) ?_
        exact W.iret (v := -2) hx hb hr (fun t ht hW => ⟨⟨-2, (f, g, h, n), rfl, ⟨nt_get_none hg hat hd, rfl⟩, by rw [ht]; exact hP, va_K.moved hW.alike hK, hD⟩, hS.F ht⟩) hS.2.2 dX1_get_43
    · refine lv_iconst (v := -1) hx hb dX1_get_10 (by decide) ?_
      exact W.iret (v := -1) hx hb hr (fun t ht hW => ⟨⟨-1, (f, g, h, n), rfl, ⟨nt_get_bad (Or.inr (Int32.not_le.mp h2)), rfl⟩, by rw [ht]; exact hP, va_K.moved hW.alike hK, hD⟩, hS.F ht⟩) hS.2.2 dX1_get_11
set_option maxHeartbeats 4000000 in
set_option maxRecDepth 100000 in
/-- the reference's take -/
theorem kM_take (l : Launch) (dC : Nat → ClassId) (dI : Nat → Nat → Nat) (h0 q1 q2 q3 sz : Nat) (cL cI cJ : ClassId) (f : Nat → Int64) (g h : Nat → Int32) (n : Nat) (k : Int32) (hn : n ≤ 900) : Met l yX1_take wsX1_take ({ frames := 1, cells := 0, slots := 0, locals := 40 } : Room) (va_Pc [.ref h0, .int k] (nt_in dC dI 1 h0 q1 q2 q3 cL cI cJ f g h n sz)) (va_Qi (fun (r : Int32) (u : nt_S) => (r, u) = nt_take (f, g, h, n) k) (nt_out dC dI 1 h0 q1 q2 q3 cL cI cJ (va_A (nt_w 1 h0 q1 q2 q3 cL cI cJ f g h n) sz)) (va_A (nt_w 1 h0 q1 q2 q3 cL cI cJ f g h n) sz)) 0 0 (va_A (nt_w 1 h0 q1 q2 q3 cL cI cJ f g h n) sz) := by
  refine Met.ofW (cc := cX1_take) (maxL := 2) (ret := (some .int)) (by decide) rfl ?_
  intro p e s m args below meth c s₁ B hml hv
  obtain ⟨rfl, hsz, hP, hK, hD0⟩ := hv
  have hx := B.exec
  have hb := B.bytes
  have hr := B.returns
  have hts := atoms_spec (ws := wsX1_take) B.pre
  have hown : s.vm.findClass RX1 = some m.cls := findClass_of_methodNamed B.named
  have hlocks := B.notSynchronized
  subst hsz
  have hD := hD0.self (sz := s.heap.size)
  generalize hAe : va_A (nt_w 1 h0 q1 q2 q3 cL cI cJ f g h n) s.heap.size = A at hD ⊢
  have hA : ∀ q : Nat, s.heap.size ≤ q → A q := fun q h => by rw [← hAe]; exact Or.inr h
  have hS : va_S A s.heap s.heap [] := va_S.rf
  have hin : ∀ w ∈ u_ws RX1 TX1 4, w ∈ wsX1_take := by decide +kernel
  have hf3 := hts (.fieldLink RX1 20 "NameTableModel" "count" "I") (by decide +kernel)
  have hl := lv_entry ([.ref h0, .int k]) (n := 2) (Nat.le_of_ble_eq_true rfl)
  rw [lg_entry_eq]
  generalize (lg_sl ([.ref h0, .int k]) ++ List.replicate (2 - (lg_sl ([.ref h0, .int k])).length) Slot.unset).toArray = ls at hl ⊢
  have hl : lv_has ls 2 [(0, .ref h0), (1, .int k)] := hl
  refine lv_iload_n hx hb dX1_take_0 rfl (lv_at hl 1 rfl) ?_
  refine lv_if_lt (tgt := 12) hx hb dX1_take_1 (by decide) (fun h1 => ?_) (fun h1 => ?_)
  · refine lv_bipush (v := -2) hx hb dX1_take_12 (by decide) ?_
    refine lv_goto (tgt := 22) hx hb dX1_take_14 (by decide) ?_
    exact W.iret (v := -2) hx hb hr (fun t ht hW => ⟨⟨-2, (f, g, h, n), rfl, nt_take_none (st := (f, g, h, n)) (Or.inl h1), by rw [ht]; exact hP, va_K.moved hW.alike hK, hD⟩, hS.F ht⟩) hS.2.2 dX1_take_22
  · refine lv_iload_n hx hb dX1_take_4 rfl (lv_at hl 1 rfl) ?_
    refine lv_aload_n hx hb dX1_take_5 rfl (lv_at hl 0 rfl) ?_
    refine va_get (D := (dC, dI)) (ci := 1) (v := .int (nI n)) (C := RX1) (T := TX1) (N := 4) hx hb hts hin hown hK hP 0 rfl rfl 3 (by decide) hf3 (fun _ h9 => h9) rfl dX1_take_6 ?_
    refine lv_icmp_lt (tgt := 17) hx hb dX1_take_9 (by decide) (fun h2 => ?_) (fun h2 => ?_)
    · obtain ⟨j, hj, rfl⟩ : ∃ j : Nat, j < n ∧ k = nI j := (pk_ix k (show n < 2 ^ 31 by omega)).elim (fun h9 => absurd h9 h1) (fun h9 => h9.elim (fun h8 => absurd h2 (Int32.not_lt.mpr h8)) id)
      refine lv_aload_n hx hb dX1_take_17 rfl (lv_at hl 0 rfl) ?_
      refine lv_iload_n hx hb dX1_take_18 rfl (lv_at hl 1 rfl) ?_
      refine nt_calli (va_runV (As := [.int (nI j)]) (rest := []) ⟨hx, hb, hml, hown, hts⟩ (kM_go l dC dI h0 q1 q2 q3 _ cL cI cJ f g h n j hj hn) (cwV 1 hts gX1_take_X1_go rfl rfl rfl (by decide +kernel) ⟨Nat.le_of_ble_eq_true rfl, Nat.le_of_ble_eq_true rfl⟩) (nt_preV rfl hP hK hD [.int (nI j)]) rfl rfl hl.1 rfl (lv_room (Nat.le_of_ble_eq_true rfl)) dX1_take_19 ⟨Nat.zero_le _, Nat.zero_le _⟩) hP hD hS hA (fun r u H locs hpost hP hD hS => ?_)
      obtain ⟨rfl, rfl⟩ := Prod.mk.inj hpost
      have hP : va_P (dC, dI) vwCl (nt_w 1 h0 q1 q2 q3 cL cI cJ (nt_del f n j) (nt_del g n j) (nt_del h n j) (n - 1)) H := hP
      have hD : va_D A (nt_w 1 h0 q1 q2 q3 cL cI cJ (nt_del f n j) (nt_del g n j) (nt_del h n j) (n - 1)) := hD
      exact W.iret (v := h j) hx hb hr (fun t ht hW => ⟨⟨h j, nt_delS (f, g, h, n) j, rfl, nt_take_did (st := (f, g, h, n)) hn hj rfl, by rw [ht]; exact hP, va_K.moved hW.alike hK, hD⟩, hS.F ht⟩) hS.2.2 dX1_take_22
    · refine lv_bipush (v := -2) hx hb dX1_take_12 (by decide) ?_
      refine lv_goto (tgt := 22) hx hb dX1_take_14 (by decide) ?_
      exact W.iret (v := -2) hx hb hr (fun t ht hW => ⟨⟨-2, (f, g, h, n), rfl, nt_take_none (st := (f, g, h, n)) (Or.inr (Int32.not_lt.mp h2)), by rw [ht]; exact hP, va_K.moved hW.alike hK, hD⟩, hS.F ht⟩) hS.2.2 dX1_take_22
set_option maxHeartbeats 4000000 in
set_option maxRecDepth 100000 in
/-- the reference's name -/
theorem kM_name (l : Launch) (dC : Nat → ClassId) (dI : Nat → Nat → Nat) (h0 q1 q2 q3 sz : Nat) (cL cI cJ : ClassId) (f : Nat → Int64) (g h : Nat → Int32) (n : Nat) (k : Int32) (hn : n ≤ 900) : Met l yX1_name wsX1_name ({ frames := 0, cells := 0, slots := 0, locals := 0 } : Room) (va_Pc [.ref h0, .int k] (nt_in dC dI 1 h0 q1 q2 q3 cL cI cJ f g h n sz)) (va_Ql (fun (r : Int64) (u : nt_S) => r = nt_name (f, g, h, n) k ∧ u = (f, g, h, n)) (nt_out dC dI 1 h0 q1 q2 q3 cL cI cJ (va_A (nt_w 1 h0 q1 q2 q3 cL cI cJ f g h n) sz)) (va_A (nt_w 1 h0 q1 q2 q3 cL cI cJ f g h n) sz)) 0 0 (va_A (nt_w 1 h0 q1 q2 q3 cL cI cJ f g h n) sz) := by
  refine Met.ofW (cc := cX1_name) (maxL := 2) (ret := (some .long)) (by decide) rfl ?_
  intro p e s m args below meth c s₁ B hml hv
  obtain ⟨rfl, hsz, hP, hK, hD0⟩ := hv
  have hx := B.exec
  have hb := B.bytes
  have hr := B.returns
  have hts := atoms_spec (ws := wsX1_name) B.pre
  have hown : s.vm.findClass RX1 = some m.cls := findClass_of_methodNamed B.named
  have hlocks := B.notSynchronized
  subst hsz
  have hD := hD0.self (sz := s.heap.size)
  generalize hAe : va_A (nt_w 1 h0 q1 q2 q3 cL cI cJ f g h n) s.heap.size = A at hD ⊢
  have hA : ∀ q : Nat, s.heap.size ≤ q → A q := fun q h => by rw [← hAe]; exact Or.inr h
  have hS : va_S A s.heap s.heap [] := va_S.rf
  have hin : ∀ w ∈ u_ws RX1 TX1 4, w ∈ wsX1_name := by decide +kernel
  have hf0 := hts (.fieldLink RX1 9 "NameTableModel" "id" "[J") (by decide +kernel)
  have hf3 := hts (.fieldLink RX1 20 "NameTableModel" "count" "I") (by decide +kernel)
  have hl := lv_entry ([.ref h0, .int k]) (n := 2) (Nat.le_of_ble_eq_true rfl)
  rw [lg_entry_eq]
  generalize (lg_sl ([.ref h0, .int k]) ++ List.replicate (2 - (lg_sl ([.ref h0, .int k])).length) Slot.unset).toArray = ls at hl ⊢
  have hl : lv_has ls 2 [(0, .ref h0), (1, .int k)] := hl
  refine lv_iload_n hx hb dX1_name_0 rfl (lv_at hl 1 rfl) ?_
  refine lv_if_lt (tgt := 12) hx hb dX1_name_1 (by decide) (fun h1 => ?_) (fun h1 => ?_)
  · refine lv_lconst (v := 0) hx hb dX1_name_12 (by decide) ?_
    refine lv_goto (tgt := 22) hx hb dX1_name_13 (by decide) ?_
    exact W.lret (v := 0) hx hb hr (fun t ht hW => ⟨⟨0, (f, g, h, n), rfl, ⟨nt_name_none (st := (f, g, h, n)) (Or.inl h1), rfl⟩, by rw [ht]; exact hP, va_K.moved hW.alike hK, hD⟩, hS.F ht⟩) hS.2.2 dX1_name_22
  · refine lv_iload_n hx hb dX1_name_4 rfl (lv_at hl 1 rfl) ?_
    refine lv_aload_n hx hb dX1_name_5 rfl (lv_at hl 0 rfl) ?_
    refine va_get (D := (dC, dI)) (ci := 1) (v := .int (nI n)) (C := RX1) (T := TX1) (N := 4) hx hb hts hin hown hK hP 0 rfl rfl 3 (by decide) hf3 (fun _ h9 => h9) rfl dX1_name_6 ?_
    refine lv_icmp_lt (tgt := 16) hx hb dX1_name_9 (by decide) (fun h2 => ?_) (fun h2 => ?_)
    · obtain ⟨j, hj, rfl⟩ : ∃ j : Nat, j < n ∧ k = nI j := (pk_ix k (show n < 2 ^ 31 by omega)).elim (fun h9 => absurd h9 h1) (fun h9 => h9.elim (fun h8 => absurd h2 (Int32.not_lt.mpr h8)) id)
      refine lv_aload_n hx hb dX1_name_16 rfl (lv_at hl 0 rfl) ?_
      refine va_get (D := (dC, dI)) (ci := 1) (v := .ref q1) (C := RX1) (T := TX1) (N := 4) hx hb hts hin hown hK hP 0 rfl rfl 0 (by decide) hf0 (fun _ h9 => h9) rfl dX1_name_17 ?_
      refine lv_iload_n hx hb dX1_name_20 rfl (lv_at hl 1 rfl) ?_
      refine nt_lald hx hb hK hP 1 0 rfl rfl (by omega) dX1_name_21 ?_
      exact W.lret (v := f j) hx hb hr (fun t ht hW => ⟨⟨f j, (f, g, h, n), rfl, ⟨nt_name_is (st := (f, g, h, n)) hn hj rfl, rfl⟩, by rw [ht]; exact hP, va_K.moved hW.alike hK, hD⟩, hS.F ht⟩) hS.2.2 dX1_name_22
    · refine lv_lconst (v := 0) hx hb dX1_name_12 (by decide) ?_
      refine lv_goto (tgt := 22) hx hb dX1_name_13 (by decide) ?_
      exact W.lret (v := 0) hx hb hr (fun t ht hW => ⟨⟨0, (f, g, h, n), rfl, ⟨nt_name_none (st := (f, g, h, n)) (Or.inr (Int32.not_lt.mp h2)), rfl⟩, by rw [ht]; exact hP, va_K.moved hW.alike hK, hD⟩, hS.F ht⟩) hS.2.2 dX1_name_22
set_option maxHeartbeats 4000000 in
set_option maxRecDepth 100000 in
/-- the reference's index -/
theorem kM_index (l : Launch) (dC : Nat → ClassId) (dI : Nat → Nat → Nat) (h0 q1 q2 q3 sz : Nat) (cL cI cJ : ClassId) (f : Nat → Int64) (g h : Nat → Int32) (n : Nat) (k : Int32) (hn : n ≤ 900) : Met l yX1_index wsX1_index ({ frames := 0, cells := 0, slots := 0, locals := 0 } : Room) (va_Pc [.ref h0, .int k] (nt_in dC dI 1 h0 q1 q2 q3 cL cI cJ f g h n sz)) (va_Qi (fun (r : Int32) (u : nt_S) => r = nt_index (f, g, h, n) k ∧ u = (f, g, h, n)) (nt_out dC dI 1 h0 q1 q2 q3 cL cI cJ (va_A (nt_w 1 h0 q1 q2 q3 cL cI cJ f g h n) sz)) (va_A (nt_w 1 h0 q1 q2 q3 cL cI cJ f g h n) sz)) 0 0 (va_A (nt_w 1 h0 q1 q2 q3 cL cI cJ f g h n) sz) := by
  refine Met.ofW (cc := cX1_index) (maxL := 2) (ret := (some .int)) (by decide) rfl ?_
  intro p e s m args below meth c s₁ B hml hv
  obtain ⟨rfl, hsz, hP, hK, hD0⟩ := hv
  have hx := B.exec
  have hb := B.bytes
  have hr := B.returns
  have hts := atoms_spec (ws := wsX1_index) B.pre
  have hown : s.vm.findClass RX1 = some m.cls := findClass_of_methodNamed B.named
  have hlocks := B.notSynchronized
  subst hsz
  have hD := hD0.self (sz := s.heap.size)
  generalize hAe : va_A (nt_w 1 h0 q1 q2 q3 cL cI cJ f g h n) s.heap.size = A at hD ⊢
  have hA : ∀ q : Nat, s.heap.size ≤ q → A q := fun q h => by rw [← hAe]; exact Or.inr h
  have hS : va_S A s.heap s.heap [] := va_S.rf
  have hin : ∀ w ∈ u_ws RX1 TX1 4, w ∈ wsX1_index := by decide +kernel
  have hf1 := hts (.fieldLink RX1 13 "NameTableModel" "index" "[I") (by decide +kernel)
  have hf3 := hts (.fieldLink RX1 20 "NameTableModel" "count" "I") (by decide +kernel)
  have hl := lv_entry ([.ref h0, .int k]) (n := 2) (Nat.le_of_ble_eq_true rfl)
  rw [lg_entry_eq]
  generalize (lg_sl ([.ref h0, .int k]) ++ List.replicate (2 - (lg_sl ([.ref h0, .int k])).length) Slot.unset).toArray = ls at hl ⊢
  have hl : lv_has ls 2 [(0, .ref h0), (1, .int k)] := hl
  refine lv_iload_n hx hb dX1_index_0 rfl (lv_at hl 1 rfl) ?_
  refine lv_if_lt (tgt := 12) hx hb dX1_index_1 (by decide) (fun h1 => ?_) (fun h1 => ?_)
  · refine lv_bipush (v := -2) hx hb dX1_index_12 (by decide) ?_
    refine lv_goto (tgt := 23) hx hb dX1_index_14 (by decide) ?_
    exact W.iret (v := -2) hx hb hr (fun t ht hW => ⟨⟨-2, (f, g, h, n), rfl, ⟨nt_index_none (st := (f, g, h, n)) (Or.inl h1), rfl⟩, by rw [ht]; exact hP, va_K.moved hW.alike hK, hD⟩, hS.F ht⟩) hS.2.2 dX1_index_23
  · refine lv_iload_n hx hb dX1_index_4 rfl (lv_at hl 1 rfl) ?_
    refine lv_aload_n hx hb dX1_index_5 rfl (lv_at hl 0 rfl) ?_
    refine va_get (D := (dC, dI)) (ci := 1) (v := .int (nI n)) (C := RX1) (T := TX1) (N := 4) hx hb hts hin hown hK hP 0 rfl rfl 3 (by decide) hf3 (fun _ h9 => h9) rfl dX1_index_6 ?_
    refine lv_icmp_lt (tgt := 17) hx hb dX1_index_9 (by decide) (fun h2 => ?_) (fun h2 => ?_)
    · obtain ⟨j, hj, rfl⟩ : ∃ j : Nat, j < n ∧ k = nI j := (pk_ix k (show n < 2 ^ 31 by omega)).elim (fun h9 => absurd h9 h1) (fun h9 => h9.elim (fun h8 => absurd h2 (Int32.not_lt.mpr h8)) id)
      refine lv_aload_n hx hb dX1_index_17 rfl (lv_at hl 0 rfl) ?_
      refine va_get (D := (dC, dI)) (ci := 1) (v := .ref q2) (C := RX1) (T := TX1) (N := 4) hx hb hts hin hown hK hP 0 rfl rfl 1 (by decide) hf1 (fun _ h9 => h9) rfl dX1_index_18 ?_
      refine lv_iload_n hx hb dX1_index_21 rfl (lv_at hl 1 rfl) ?_
      refine nt_iald hx hb hK hP 2 1 rfl rfl (by omega) dX1_index_22 ?_
      exact W.iret (v := g j) hx hb hr (fun t ht hW => ⟨⟨g j, (f, g, h, n), rfl, ⟨nt_index_is (st := (f, g, h, n)) hn hj rfl, rfl⟩, by rw [ht]; exact hP, va_K.moved hW.alike hK, hD⟩, hS.F ht⟩) hS.2.2 dX1_index_23
    · refine lv_bipush (v := -2) hx hb dX1_index_12 (by decide) ?_
      refine lv_goto (tgt := 23) hx hb dX1_index_14 (by decide) ?_
      exact W.iret (v := -2) hx hb hr (fun t ht hW => ⟨⟨-2, (f, g, h, n), rfl, ⟨nt_index_none (st := (f, g, h, n)) (Or.inr (Int32.not_lt.mp h2)), rfl⟩, by rw [ht]; exact hP, va_K.moved hW.alike hK, hD⟩, hS.F ht⟩) hS.2.2 dX1_index_23
set_option maxHeartbeats 4000000 in
set_option maxRecDepth 100000 in
/-- promise 9 -/
theorem kM_many (l : Launch) (dC : Nat → ClassId) (dI : Nat → Nat → Nat) (h0 q1 q2 q3 sz : Nat) (cL cI cJ : ClassId) (f : Nat → Int64) (g h : Nat → Int32) (n : Nat)  : Met l yX1_many wsX1_many ({ frames := 0, cells := 0, slots := 0, locals := 0 } : Room) (va_Pc [.ref h0] (nt_in dC dI 1 h0 q1 q2 q3 cL cI cJ f g h n sz)) (va_Qi (fun (r : Int32) (u : nt_S) => r = nI n ∧ u = (f, g, h, n)) (nt_out dC dI 1 h0 q1 q2 q3 cL cI cJ (va_A (nt_w 1 h0 q1 q2 q3 cL cI cJ f g h n) sz)) (va_A (nt_w 1 h0 q1 q2 q3 cL cI cJ f g h n) sz)) 0 0 (va_A (nt_w 1 h0 q1 q2 q3 cL cI cJ f g h n) sz) := by
  refine Met.ofW (cc := cX1_many) (maxL := 1) (ret := (some .int)) (by decide) rfl ?_
  intro p e s m args below meth c s₁ B hml hv
  obtain ⟨rfl, hsz, hP, hK, hD0⟩ := hv
  have hx := B.exec
  have hb := B.bytes
  have hr := B.returns
  have hts := atoms_spec (ws := wsX1_many) B.pre
  have hown : s.vm.findClass RX1 = some m.cls := findClass_of_methodNamed B.named
  have hlocks := B.notSynchronized
  subst hsz
  have hD := hD0.self (sz := s.heap.size)
  generalize hAe : va_A (nt_w 1 h0 q1 q2 q3 cL cI cJ f g h n) s.heap.size = A at hD ⊢
  have hA : ∀ q : Nat, s.heap.size ≤ q → A q := fun q h => by rw [← hAe]; exact Or.inr h
  have hS : va_S A s.heap s.heap [] := va_S.rf
  have hin : ∀ w ∈ u_ws RX1 TX1 4, w ∈ wsX1_many := by decide +kernel
  have hf3 := hts (.fieldLink RX1 20 "NameTableModel" "count" "I") (by decide +kernel)
  have hl := lv_entry ([.ref h0]) (n := 1) (Nat.le_of_ble_eq_true rfl)
  rw [lg_entry_eq]
  generalize (lg_sl ([.ref h0]) ++ List.replicate (1 - (lg_sl ([.ref h0])).length) Slot.unset).toArray = ls at hl ⊢
  have hl : lv_has ls 1 [(0, .ref h0)] := hl
  refine lv_aload_n hx hb dX1_many_0 rfl (lv_at hl 0 rfl) ?_
  refine va_get (D := (dC, dI)) (ci := 1) (v := .int (nI n)) (C := RX1) (T := TX1) (N := 4) hx hb hts hin hown hK hP 0 rfl rfl 3 (by decide) hf3 (fun _ h9 => h9) rfl dX1_many_1 ?_
  exact W.iret (v := nI n) hx hb hr (fun t ht hW => ⟨⟨nI n, (f, g, h, n), rfl, ⟨rfl, rfl⟩, by rw [ht]; exact hP, va_K.moved hW.alike hK, hD⟩, hS.F ht⟩) hS.2.2 dX1_many_4
set_option maxHeartbeats 4000000 in
set_option maxRecDepth 100000 in
/-- promise 10 -/
theorem kM_value (l : Launch) (dC : Nat → ClassId) (dI : Nat → Nat → Nat) (h0 q1 q2 q3 sz : Nat) (cL cI cJ : ClassId) (f : Nat → Int64) (g h : Nat → Int32) (n : Nat) (hn : n ≤ 900) : Met l yX1_value wsX1_value ({ frames := 0, cells := 0, slots := 0, locals := 0 } : Room) (va_Pc [.ref h0] (nt_in dC dI 1 h0 q1 q2 q3 cL cI cJ f g h n sz)) (va_Ql (fun (r : Int64) (u : nt_S) => r = nt_sum h n ∧ u = (f, g, h, n)) (nt_out dC dI 1 h0 q1 q2 q3 cL cI cJ (va_A (nt_w 1 h0 q1 q2 q3 cL cI cJ f g h n) sz)) (va_A (nt_w 1 h0 q1 q2 q3 cL cI cJ f g h n) sz)) 0 0 (va_A (nt_w 1 h0 q1 q2 q3 cL cI cJ f g h n) sz) := by
  refine Met.ofW (cc := cX1_value) (maxL := 4) (ret := (some .long)) (by decide) rfl ?_
  intro p e s m args below meth c s₁ B hml hv
  obtain ⟨rfl, hsz, hP, hK, hD0⟩ := hv
  have hx := B.exec
  have hb := B.bytes
  have hr := B.returns
  have hts := atoms_spec (ws := wsX1_value) B.pre
  have hown : s.vm.findClass RX1 = some m.cls := findClass_of_methodNamed B.named
  have hlocks := B.notSynchronized
  subst hsz
  have hD := hD0.self (sz := s.heap.size)
  generalize hAe : va_A (nt_w 1 h0 q1 q2 q3 cL cI cJ f g h n) s.heap.size = A at hD ⊢
  have hA : ∀ q : Nat, s.heap.size ≤ q → A q := fun q h => by rw [← hAe]; exact Or.inr h
  have hS : va_S A s.heap s.heap [] := va_S.rf
  have hin : ∀ w ∈ u_ws RX1 TX1 4, w ∈ wsX1_value := by decide +kernel
  have hf2 := hts (.fieldLink RX1 17 "NameTableModel" "value" "[I") (by decide +kernel)
  have hf3 := hts (.fieldLink RX1 20 "NameTableModel" "count" "I") (by decide +kernel)
  have hl := lv_entry ([.ref h0]) (n := 4) (Nat.le_of_ble_eq_true rfl)
  rw [lg_entry_eq]
  generalize (lg_sl ([.ref h0]) ++ List.replicate (4 - (lg_sl ([.ref h0])).length) Slot.unset).toArray = ls at hl ⊢
  have hl : lv_has ls 4 [(0, .ref h0)] := hl
  refine lv_lconst (v := 0) hx hb dX1_value_0 (by decide) ?_
  refine lv_lstore_n (lv' := [(1, .long 0), (0, .ref h0)]) hx hb dX1_value_1 rfl hl (by decide) rfl (fun ls hl => ?_)
  refine lv_iconst (v := nI 0) hx hb dX1_value_2 (by decide) ?_
  refine lv_istore_n (lv' := [(3, .int (nI 0)), (1, .long 0), (0, .ref h0)]) hx hb dX1_value_3 rfl hl (by decide) rfl (fun ls hl => ?_)
  refine nt_here (fun Q hQ => ?_)
  have loop : ∀ (d i : Nat), i + d = n → ∀ (ls : Array Slot), lv_has ls 4 [(0, .ref h0), (1, .long (nt_sum h i)), (3, .int (nI i))] → W p l e ({ frames := 0, cells := 0, slots := 0, locals := 0 } : Room) s m ([.ref h0] : List Value).toArray below meth c s.heap [] 0 0 Q (F0 m 4 ls []) := by
    intro d
    induction d with
    | zero =>
      intro i hi ls hl
      have hi : i = n := by omega
      subst hi
      refine lv_iload_n hx hb dX1_value_4 rfl (lv_at hl 2 rfl) ?_
      refine lv_aload_n hx hb dX1_value_5 rfl (lv_at hl 0 rfl) ?_
      refine va_get (D := (dC, dI)) (ci := 1) (v := .int (nI i)) (C := RX1) (T := TX1) (N := 4) hx hb hts hin hown hK hP 0 rfl rfl 3 (by decide) hf3 (fun _ h9 => h9) rfl dX1_value_6 ?_
      refine lv_icmp_ge (tgt := 28) hx hb dX1_value_9 (by decide) (fun hc => ?_) (fun hc => ?_)
      · refine lv_lload_n hx hb dX1_value_28 rfl (lv_at hl 1 rfl) ?_
        subst hQ
        exact W.lret (v := nt_sum h i) hx hb hr (fun t ht hW => ⟨⟨nt_sum h i, (f, g, h, i), rfl, ⟨rfl, rfl⟩, by rw [ht]; exact hP, va_K.moved hW.alike hK, hD⟩, hS.F ht⟩) hS.2.2 dX1_value_29
      · exact absurd (nI_le (Nat.le_refl i) (by omega)) hc
    | succ d ih =>
      intro i hi ls hl
      refine lv_iload_n hx hb dX1_value_4 rfl (lv_at hl 2 rfl) ?_
      refine lv_aload_n hx hb dX1_value_5 rfl (lv_at hl 0 rfl) ?_
      refine va_get (D := (dC, dI)) (ci := 1) (v := .int (nI n)) (C := RX1) (T := TX1) (N := 4) hx hb hts hin hown hK hP 0 rfl rfl 3 (by decide) hf3 (fun _ h9 => h9) rfl dX1_value_6 ?_
      refine lv_icmp_ge (tgt := 28) hx hb dX1_value_9 (by decide) (fun hc => ?_) (fun hc => ?_)
      · exact absurd hc (nI_ge (show i < n by omega) (by omega))
      · refine lv_lload_n hx hb dX1_value_12 rfl (lv_at hl 1 rfl) ?_
        refine lv_aload_n hx hb dX1_value_13 rfl (lv_at hl 0 rfl) ?_
        refine va_get (D := (dC, dI)) (ci := 1) (v := .ref q3) (C := RX1) (T := TX1) (N := 4) hx hb hts hin hown hK hP 0 rfl rfl 2 (by decide) hf2 (fun _ h9 => h9) rfl dX1_value_14 ?_
        refine lv_iload_n hx hb dX1_value_17 rfl (lv_at hl 2 rfl) ?_
        refine nt_iald hx hb hK hP 3 2 rfl rfl (by omega) dX1_value_18 ?_
        refine lv_i2l (v := (h i).toInt64) hx hb dX1_value_19 rfl ?_
        refine lv_ladd hx hb dX1_value_20 ?_
        refine lv_lstore_n (lv' := [(1, .long ((nt_sum h i) + ((h i).toInt64))), (0, .ref h0), (3, .int (nI i))]) hx hb dX1_value_21 rfl hl (by decide) rfl (fun ls hl => ?_)
        refine lv_iinc (k := 2) (v := nI (i + 1)) (lv' := [(3, .int (nI (i + 1))), (1, .long ((nt_sum h i) + ((h i).toInt64))), (0, .ref h0)]) hx hb dX1_value_22 hl rfl (by rw [show Int32.ofInt 1 = 1 by decide]; exact nI_1 _) (by decide) rfl (fun ls hl => ?_)
        refine lv_goto (tgt := 4) hx hb dX1_value_25 (by decide) ?_
        exact ih (i + 1) (by omega) ls (lv_sub hl [2, 1, 0] rfl)
  exact loop n 0 (by omega) ls (lv_sub hl [2, 1, 0] rfl)
