set_option maxHeartbeats 4000000 in
set_option maxRecDepth 100000 in
/-- promise 2 -/
theorem kX_add (l : Launch) (dC : Nat → ClassId) (dI : Nat → Nat → Nat) (h0 q1 q2 q3 sz : Nat) (cL cI cJ : ClassId) (f : Nat → Int64) (g h : Nat → Int32) (n : Nat) (id : Int64) (ix v : Int32) (hok : nt_ok (f, g, h, n)) : Met l yX0_add wsX0_add ({ frames := 3, cells := 0, slots := 0, locals := 120 } : Room) (va_Pc [.ref h0, .long id, .int ix, .int v] (nt_in dC dI 0 h0 q1 q2 q3 cL cI cJ f g h n sz)) (va_Qi (fun (r : Int32) (u : nt_S) => (r, u) = nt_add (f, g, h, n) id ix v) (nt_out dC dI 0 h0 q1 q2 q3 cL cI cJ (va_A (nt_w 0 h0 q1 q2 q3 cL cI cJ f g h n) sz)) (va_A (nt_w 0 h0 q1 q2 q3 cL cI cJ f g h n) sz)) 0 0 (va_A (nt_w 0 h0 q1 q2 q3 cL cI cJ f g h n) sz) := by
  refine Met.ofW (cc := cX0_add) (maxL := 6) (ret := (some .int)) (by decide) rfl ?_
  intro p e s m args below meth c s₁ B hml hv
  obtain ⟨rfl, hsz, hP, hK, hD0⟩ := hv
  have hx := B.exec
  have hb := B.bytes
  have hr := B.returns
  have hts := atoms_spec (ws := wsX0_add) B.pre
  have hown : s.vm.findClass RX0 = some m.cls := findClass_of_methodNamed B.named
  have hlocks := B.notSynchronized
  subst hsz
  have hD := hD0.self (sz := s.heap.size)
  generalize hAe : va_A (nt_w 0 h0 q1 q2 q3 cL cI cJ f g h n) s.heap.size = A at hD ⊢
  have hA : ∀ q : Nat, s.heap.size ≤ q → A q := fun q h => by rw [← hAe]; exact Or.inr h
  have hS : va_S A s.heap s.heap [] := va_S.rf
  have hin : ∀ w ∈ u_ws RX0 TX0 4, w ∈ wsX0_add := by decide +kernel
  have hf3 := hts (.fieldLink RX0 20 "NameTable" "count" "I") (by decide +kernel)
  have hl := lv_entry ([.ref h0, .long id, .int ix, .int v]) (n := 6) (Nat.le_of_ble_eq_true rfl)
  rw [lg_entry_eq]
  generalize (lg_sl ([.ref h0, .long id, .int ix, .int v]) ++ List.replicate (6 - (lg_sl ([.ref h0, .long id, .int ix, .int v])).length) Slot.unset).toArray = ls at hl ⊢
  have hl : lv_has ls 6 [(0, .ref h0), (1, .long id), (3, .int ix), (4, .int v)] := hl
  have hn : n ≤ 900 := hok.1
  refine lv_iload_n hx hb dX0_add_0 rfl (lv_at hl 2 rfl) ?_
  refine nt_calls (va_runS (As := [.int ix]) (rest := []) ⟨hx, hb, hml, hown, hts⟩ (kX_isIndex l _ ix) (va_cwS 1 hts gX0_add_X0_isIndex rfl rfl rfl (by decide +kernel) ⟨Nat.le_of_ble_eq_true rfl, Nat.le_of_ble_eq_true rfl⟩) (nt_preS [.int ix]) rfl rfl hl.1 rfl (lv_room (Nat.le_of_ble_eq_true rfl)) dX0_add_1 ⟨Nat.zero_le _, Nat.zero_le _⟩) hP hD hS hA (fun r H locs hpost hP hD hS => ?_)
  have hP : va_P (dC, dI) vwCl (nt_w 0 h0 q1 q2 q3 cL cI cJ f g h n) H := hP
  have hD : va_D A (nt_w 0 h0 q1 q2 q3 cL cI cJ f g h n) := hD
  rcases hpost with ⟨rfl, hc⟩ | ⟨rfl, hc⟩
  · refine lv_if_eq (tgt := 12) hx hb dX0_add_4 (by decide) (fun h9 => absurd h9 (by decide)) (fun _ => ?_)
    refine lv_iload hx hb dX0_add_7 (lv_at hl 3 rfl) ?_
    refine lv_if_ge (tgt := 14) hx hb dX0_add_9 (by decide) (fun h1 => ?_) (fun h1 => ?_)
    · have hg : ¬ (ix < 0 ∨ 7 < ix ∨ v < 0) := fun h9 => h9.elim (fun h8 => hc (Or.inl h8)) (fun h8 => h8.elim (fun h7 => hc (Or.inr h7)) (fun h7 => Int32.not_le.mpr h7 h1))
      refine lv_aload_n hx hb dX0_add_14 rfl (lv_at hl 0 rfl) ?_
      refine lv_lload_n hx hb dX0_add_15 rfl (lv_at hl 1 rfl) ?_
      refine lv_iload_n hx hb dX0_add_16 rfl (lv_at hl 2 rfl) ?_
      refine nt_calli (va_runV (As := [.long id, .int ix]) (rest := []) ⟨hx, hb, hml, hown, hts⟩ (kX_placeFor l dC dI h0 q1 q2 q3 _ cL cI cJ f g h n id ix hn hok.2) (cwV 2 hts gX0_add_X0_placeFor rfl rfl rfl (by decide +kernel) ⟨Nat.le_of_ble_eq_true rfl, Nat.le_of_ble_eq_true rfl⟩) (nt_preV rfl hP hK hD [.long id, .int ix]) rfl rfl hl.1 rfl (lv_room (Nat.le_of_ble_eq_true rfl)) dX0_add_17 ⟨Nat.zero_le _, Nat.zero_le _⟩) hP hD hS hA (fun r u H locs hpost hP hD hS => ?_)
      obtain ⟨hpost, rfl⟩ := hpost
      have hP : va_P (dC, dI) vwCl (nt_w 0 h0 q1 q2 q3 cL cI cJ f g h n) H := hP
      have hD : va_D A (nt_w 0 h0 q1 q2 q3 cL cI cJ f g h n) := hD
      obtain ⟨j, rfl, hat⟩ := hpost
      have hj : j ≤ n := hat.1
      refine lv_istore (lv' := [(5, .int (nI j)), (0, .ref h0), (1, .long id), (3, .int ix), (4, .int v)]) hx hb dX0_add_20 hl (by decide) rfl (fun ls hl => ?_)
      refine lv_aload_n hx hb dX0_add_22 rfl (lv_at hl 1 rfl) ?_
      refine lv_iload hx hb dX0_add_23 (lv_at hl 0 rfl) ?_
      refine lv_lload_n hx hb dX0_add_25 rfl (lv_at hl 2 rfl) ?_
      refine lv_iload_n hx hb dX0_add_26 rfl (lv_at hl 3 rfl) ?_
      refine nt_calli (va_runV (As := [.int (nI j), .long id, .int ix]) (rest := []) ⟨hx, hb, hml, hown, hts⟩ (kX_isNamed l dC dI h0 q1 q2 q3 _ cL cI cJ f g h n j id ix (by omega) hn) (cwV 3 hts gX0_add_X0_isNamed rfl rfl rfl (by decide +kernel) ⟨Nat.le_of_ble_eq_true rfl, Nat.le_of_ble_eq_true rfl⟩) (nt_preV rfl hP hK hD [.int (nI j), .long id, .int ix]) rfl rfl hl.1 rfl (lv_room (Nat.le_of_ble_eq_true rfl)) dX0_add_27 ⟨Nat.zero_le _, Nat.zero_le _⟩) hP hD hS hA (fun r u H locs hpost hP hD hS => ?_)
      obtain ⟨hpost, rfl⟩ := hpost
      have hP : va_P (dC, dI) vwCl (nt_w 0 h0 q1 q2 q3 cL cI cJ f g h n) H := hP
      have hD : va_D A (nt_w 0 h0 q1 q2 q3 cL cI cJ f g h n) := hD
      rcases hpost with ⟨rfl, hd⟩ | ⟨rfl, hd⟩
      · refine lv_if_eq (tgt := 36) hx hb dX0_add_30 (by decide) (fun h9 => absurd h9 (by decide)) (fun _ => ?_)
        refine lv_bipush (v := -3) hx hb dX0_add_33 (by decide) ?_
        exact W.iret (v := -3) hx hb hr (fun t ht hW => ⟨⟨-3, (f, g, h, n), rfl, nt_add_there hg hat hd, by rw [ht]; exact hP, va_K.moved hW.alike hK, hD⟩, hS.F ht⟩) hS.2.2 dX0_add_35
      · refine lv_if_eq (tgt := 36) hx hb dX0_add_30 (by decide) (fun _ => ?_) (fun h9 => absurd h9 (by decide))
        refine lv_aload_n hx hb dX0_add_36 rfl (lv_at hl 1 rfl) ?_
        refine va_get (D := (dC, dI)) (ci := 0) (v := .int (nI n)) (C := RX0) (T := TX0) (N := 4) hx hb hts hin hown hK hP 0 rfl rfl 3 (by decide) hf3 (fun _ h9 => h9) rfl dX0_add_37 ?_
        refine lv_sipush (v := nI 900) hx hb dX0_add_40 (by decide) ?_
        refine lv_icmp_lt (tgt := 49) hx hb dX0_add_43 (by decide) (fun h2 => ?_) (fun h2 => ?_)
        · have h2 : n < 900 := (nI_ltI (by omega) (by omega)).mp h2
          refine lv_aload_n hx hb dX0_add_49 rfl (lv_at hl 1 rfl) ?_
          refine lv_iload hx hb dX0_add_50 (lv_at hl 0 rfl) ?_
          refine lv_lload_n hx hb dX0_add_52 rfl (lv_at hl 2 rfl) ?_
          refine lv_iload_n hx hb dX0_add_53 rfl (lv_at hl 3 rfl) ?_
          refine lv_iload hx hb dX0_add_54 (lv_at hl 4 rfl) ?_
          refine nt_callv (va_runV (As := [.int (nI j), .long id, .int ix, .int v]) (rest := []) ⟨hx, hb, hml, hown, hts⟩ (kX_insertAt l dC dI h0 q1 q2 q3 _ cL cI cJ f g h n j id ix v hj h2) (cwV 4 hts gX0_add_X0_insertAt rfl rfl rfl (by decide +kernel) ⟨Nat.le_of_ble_eq_true rfl, Nat.le_of_ble_eq_true rfl⟩) (nt_preV rfl hP hK hD [.int (nI j), .long id, .int ix, .int v]) rfl rfl hl.1 rfl (lv_room (Nat.le_of_ble_eq_true rfl)) dX0_add_56 ⟨Nat.zero_le _, Nat.zero_le _⟩) hP hD hS hA (fun u H locs hpost hP hD hS => ?_)
          subst hpost
          have hP : va_P (dC, dI) vwCl (nt_w 0 h0 q1 q2 q3 cL cI cJ (nt_ins f n j id) (nt_ins g n j ix) (nt_ins h n j v) (n + 1)) H := hP
          have hD : va_D A (nt_w 0 h0 q1 q2 q3 cL cI cJ (nt_ins f n j id) (nt_ins g n j ix) (nt_ins h n j v) (n + 1)) := hD
          refine lv_aload_n hx hb dX0_add_59 rfl (lv_at hl 1 rfl) ?_
          refine va_get (D := (dC, dI)) (ci := 0) (v := .int (nI (n + 1))) (C := RX0) (T := TX0) (N := 4) hx hb hts hin hown hK hP 0 rfl rfl 3 (by decide) hf3 (fun _ h9 => h9) rfl dX0_add_60 ?_
          exact W.iret (v := nI (n + 1)) hx hb hr (fun t ht hW => ⟨⟨nI (n + 1), nt_insS (f, g, h, n) j id ix v, rfl, nt_add_new hg hat hd (show ¬ n = 900 by omega), by rw [ht]; exact hP, va_K.moved hW.alike hK, hD⟩, hS.F ht⟩) hS.2.2 dX0_add_63
        · have h2 : ¬ n < 900 := fun h9 => h2 ((nI_ltI (by omega) (by omega)).mpr h9)
          refine lv_bipush (v := -4) hx hb dX0_add_46 (by decide) ?_
          exact W.iret (v := -4) hx hb hr (fun t ht hW => ⟨⟨-4, (f, g, h, n), rfl, nt_add_full hg hat hd (show n = 900 by omega), by rw [ht]; exact hP, va_K.moved hW.alike hK, hD⟩, hS.F ht⟩) hS.2.2 dX0_add_48
    · refine lv_iconst (v := -1) hx hb dX0_add_12 (by decide) ?_
      exact W.iret (v := -1) hx hb hr (fun t ht hW => ⟨⟨-1, (f, g, h, n), rfl, nt_add_bad (Or.inr (Or.inr (Int32.not_le.mp h1))), by rw [ht]; exact hP, va_K.moved hW.alike hK, hD⟩, hS.F ht⟩) hS.2.2 dX0_add_13
  · refine lv_if_eq (tgt := 12) hx hb dX0_add_4 (by decide) (fun _ => ?_) (fun h9 => absurd h9 (by decide))
    refine lv_iconst (v := -1) hx hb dX0_add_12 (by decide) ?_
    exact W.iret (v := -1) hx hb hr (fun t ht hW => ⟨⟨-1, (f, g, h, n), rfl, nt_add_bad ((Classical.not_not.mp hc).elim Or.inl (fun h9 => Or.inr (Or.inl h9))), by rw [ht]; exact hP, va_K.moved hW.alike hK, hD⟩, hS.F ht⟩) hS.2.2 dX0_add_13
set_option maxHeartbeats 4000000 in
set_option maxRecDepth 100000 in
/-- promise 3 -/
theorem kX_some (l : Launch) (dC : Nat → ClassId) (dI : Nat → Nat → Nat) (h0 q1 q2 q3 sz : Nat) (cL cI cJ : ClassId) (f : Nat → Int64) (g h : Nat → Int32) (n : Nat) (id step : Int64) (mm v : Int32) (hok : nt_ok (f, g, h, n)) : Met l yX0_some wsX0_some ({ frames := 4, cells := 0, slots := 0, locals := 160 } : Room) (va_Pc [.ref h0, .long id, .long step, .int mm, .int v] (nt_in dC dI 0 h0 q1 q2 q3 cL cI cJ f g h n sz)) (va_Qi (fun (r : Int32) (u : nt_S) => (r, u) = nt_some (f, g, h, n) id step mm v) (nt_out dC dI 0 h0 q1 q2 q3 cL cI cJ (va_A (nt_w 0 h0 q1 q2 q3 cL cI cJ f g h n) sz)) (va_A (nt_w 0 h0 q1 q2 q3 cL cI cJ f g h n) sz)) 0 0 (va_A (nt_w 0 h0 q1 q2 q3 cL cI cJ f g h n) sz) := by
  refine Met.ofW (cc := cX0_some) (maxL := 9) (ret := (some .int)) (by decide) rfl ?_
  intro p e s m args below meth c s₁ B hml hv
  obtain ⟨rfl, hsz, hP, hK, hD0⟩ := hv
  have hx := B.exec
  have hb := B.bytes
  have hr := B.returns
  have hts := atoms_spec (ws := wsX0_some) B.pre
  have hown : s.vm.findClass RX0 = some m.cls := findClass_of_methodNamed B.named
  have hlocks := B.notSynchronized
  subst hsz
  have hD := hD0.self (sz := s.heap.size)
  generalize hAe : va_A (nt_w 0 h0 q1 q2 q3 cL cI cJ f g h n) s.heap.size = A at hD ⊢
  have hA : ∀ q : Nat, s.heap.size ≤ q → A q := fun q h => by rw [← hAe]; exact Or.inr h
  have hS : va_S A s.heap s.heap [] := va_S.rf
  have hin : ∀ w ∈ u_ws RX0 TX0 4, w ∈ wsX0_some := by decide +kernel
  have hf3 := hts (.fieldLink RX0 20 "NameTable" "count" "I") (by decide +kernel)
  have hl := lv_entry ([.ref h0, .long id, .long step, .int mm, .int v]) (n := 9) (Nat.le_of_ble_eq_true rfl)
  rw [lg_entry_eq]
  generalize (lg_sl ([.ref h0, .long id, .long step, .int mm, .int v]) ++ List.replicate (9 - (lg_sl ([.ref h0, .long id, .long step, .int mm, .int v])).length) Slot.unset).toArray = ls at hl ⊢
  have hl : lv_has ls 9 [(0, .ref h0), (1, .long id), (3, .long step), (5, .int mm), (6, .int v)] := hl
  have hn : n ≤ 900 := hok.1
  refine lv_iload hx hb dX0_some_0 (lv_at hl 3 rfl) ?_
  refine lv_iconst (v := 1) hx hb dX0_some_2 (by decide) ?_
  refine lv_icmp_lt (tgt := 18) hx hb dX0_some_3 (by decide) (fun h1 => ?_) (fun h1 => ?_)
  · refine lv_iconst (v := -1) hx hb dX0_some_18 (by decide) ?_
    exact W.iret (v := -1) hx hb hr (fun t ht hW => ⟨⟨-1, (f, g, h, n), rfl, nt_some_bad (Or.inl h1), by rw [ht]; exact hP, va_K.moved hW.alike hK, hD⟩, hS.F ht⟩) hS.2.2 dX0_some_19
  · refine lv_iload hx hb dX0_some_6 (lv_at hl 3 rfl) ?_
    refine lv_bipush (v := 100) hx hb dX0_some_8 (by decide) ?_
    refine lv_icmp_gt (tgt := 18) hx hb dX0_some_10 (by decide) (fun h2 => ?_) (fun h2 => ?_)
    · refine lv_iconst (v := -1) hx hb dX0_some_18 (by decide) ?_
      exact W.iret (v := -1) hx hb hr (fun t ht hW => ⟨⟨-1, (f, g, h, n), rfl, nt_some_bad (Or.inr (Or.inl h2)), by rw [ht]; exact hP, va_K.moved hW.alike hK, hD⟩, hS.F ht⟩) hS.2.2 dX0_some_19
    · refine lv_iload hx hb dX0_some_13 (lv_at hl 4 rfl) ?_
      refine lv_if_ge (tgt := 20) hx hb dX0_some_15 (by decide) (fun h3 => ?_) (fun h3 => ?_)
      · have hg : ¬ (mm < 1 ∨ 100 < mm ∨ v < 0) := fun h9 => h9.elim h1 (fun h8 => h8.elim h2 (fun h7 => Int32.not_le.mpr h7 h3))
        obtain ⟨k, hk, hk2⟩ := nt_some_k h1 h2
        subst hk2
        refine lv_aload_n hx hb dX0_some_20 rfl (lv_at hl 0 rfl) ?_
        refine va_get (D := (dC, dI)) (ci := 0) (v := .int (nI n)) (C := RX0) (T := TX0) (N := 4) hx hb hts hin hown hK hP 0 rfl rfl 3 (by decide) hf3 (fun _ h9 => h9) rfl dX0_some_21 ?_
        refine lv_istore (lv' := [(7, .int (nI n)), (0, .ref h0), (1, .long id), (3, .long step), (5, .int (nI k)), (6, .int v)]) hx hb dX0_some_24 hl (by decide) rfl (fun ls hl => ?_)
        refine lv_iconst (v := nI 0) hx hb dX0_some_26 (by decide) ?_
        refine lv_istore (lv' := [(8, .int (nI 0)), (7, .int (nI n)), (0, .ref h0), (1, .long id), (3, .long step), (5, .int (nI k)), (6, .int v)]) hx hb dX0_some_27 hl (by decide) rfl (fun ls hl => ?_)
        refine nt_here (fun Q hQ => ?_)
        have loop : ∀ (d i : Nat), i + d = k → ∀ (ls : Array Slot) (H : Heap) (locs : List Loc), lv_has ls 9 [(0, .ref h0), (1, .long id), (3, .long step), (5, .int (nI k)), (6, .int v), (7, .int (nI n)), (8, .int (nI i))] → va_P (dC, dI) vwCl (nt_w 0 h0 q1 q2 q3 cL cI cJ ((nt_sm (f, g, h, n) id step v i).1) ((nt_sm (f, g, h, n) id step v i).2.1) ((nt_sm (f, g, h, n) id step v i).2.2.1) ((nt_sm (f, g, h, n) id step v i).2.2.2)) H → va_D A (nt_w 0 h0 q1 q2 q3 cL cI cJ ((nt_sm (f, g, h, n) id step v i).1) ((nt_sm (f, g, h, n) id step v i).2.1) ((nt_sm (f, g, h, n) id step v i).2.2.1) ((nt_sm (f, g, h, n) id step v i).2.2.2)) → va_S A s.heap H locs → W p l e ({ frames := 4, cells := 0, slots := 0, locals := 160 } : Room) s m ([.ref h0, .long id, .long step, .int (nI k), .int v] : List Value).toArray below meth c H locs 0 0 Q (F0 m 29 ls []) := by
          intro d
          induction d with
          | zero =>
            intro i hi ls H locs hl hP hD hS
            have hsm := nt_sm_ok hok id step v i
            have hm1 : (nt_sm (f, g, h, n) id step v i).2.2.2 ≤ 900 := hsm.1.1
            have hm2 : n ≤ (nt_sm (f, g, h, n) id step v i).2.2.2 := hsm.2
            have hi : i = k := by omega
            refine lv_iload hx hb dX0_some_29 (lv_at hl 6 rfl) ?_
            refine lv_iload hx hb dX0_some_31 (lv_at hl 3 rfl) ?_
            refine lv_icmp_ge (tgt := 61) hx hb dX0_some_33 (by decide) (fun hc => ?_) (fun hc => ?_)
            · refine lv_aload_n hx hb dX0_some_61 rfl (lv_at hl 0 rfl) ?_
              refine va_get (D := (dC, dI)) (ci := 0) (v := .int (nI ((nt_sm (f, g, h, n) id step v i).2.2.2))) (C := RX0) (T := TX0) (N := 4) hx hb hts hin hown hK hP 0 rfl rfl 3 (by decide) hf3 (fun _ h9 => h9) rfl dX0_some_62 ?_
              refine lv_iload hx hb dX0_some_65 (lv_at hl 5 rfl) ?_
              refine lv_isub hx hb dX0_some_67 ?_
              refine nt_top (y := nI ((nt_sm (f, g, h, n) id step v i).2.2.2 - n)) (pk_sub hm2) ?_
              subst hQ
              subst hi
              exact W.iret (v := nI ((nt_sm (f, g, h, n) id step v i).2.2.2 - n)) hx hb hr (fun t ht hW => ⟨⟨nI ((nt_sm (f, g, h, n) id step v i).2.2.2 - n), (nt_sm (f, g, h, n) id step v i), rfl, nt_some_did hg rfl hk, by rw [ht]; exact hP, va_K.moved hW.alike hK, hD⟩, hS.F ht⟩) hS.2.2 dX0_some_68
            · exact absurd (nI_le (show k ≤ i by omega) (by omega)) hc
          | succ d ih =>
            intro i hi ls H locs hl hP hD hS
            have hsm := nt_sm_ok hok id step v i
            have hm1 : (nt_sm (f, g, h, n) id step v i).2.2.2 ≤ 900 := hsm.1.1
            have hm2 : n ≤ (nt_sm (f, g, h, n) id step v i).2.2.2 := hsm.2
            refine lv_iload hx hb dX0_some_29 (lv_at hl 6 rfl) ?_
            refine lv_iload hx hb dX0_some_31 (lv_at hl 3 rfl) ?_
            refine lv_icmp_ge (tgt := 61) hx hb dX0_some_33 (by decide) (fun hc => ?_) (fun hc => ?_)
            · exact absurd hc (nI_ge (show i < k by omega) (by omega))
            · refine lv_aload_n hx hb dX0_some_36 rfl (lv_at hl 0 rfl) ?_
              refine lv_lload_n hx hb dX0_some_37 rfl (lv_at hl 1 rfl) ?_
              refine lv_iload hx hb dX0_some_38 (lv_at hl 6 rfl) ?_
              refine lv_i2l (v := (nI i).toInt64) hx hb dX0_some_40 rfl ?_
              refine lv_lload_n hx hb dX0_some_41 rfl (lv_at hl 2 rfl) ?_
              refine lv_lmul hx hb dX0_some_42 ?_
              refine lv_ladd hx hb dX0_some_43 ?_
              refine lv_iload hx hb dX0_some_44 (lv_at hl 6 rfl) ?_
              refine lv_bipush (v := 8) hx hb dX0_some_46 (by decide) ?_
              refine lv_irem hx hb dX0_some_48 (by decide) ?_
              refine lv_iload hx hb dX0_some_49 (lv_at hl 4 rfl) ?_
              refine nt_calli (va_runV (As := [.long (id + (((nI i).toInt64) * step)), .int ((nI i) - (nI i) / 8 * 8), .int v]) (rest := []) ⟨hx, hb, hml, hown, hts⟩ (kX_add l dC dI h0 q1 q2 q3 _ cL cI cJ ((nt_sm (f, g, h, n) id step v i).1) ((nt_sm (f, g, h, n) id step v i).2.1) ((nt_sm (f, g, h, n) id step v i).2.2.1) ((nt_sm (f, g, h, n) id step v i).2.2.2) (id + (nI i).toInt64 * step) (nI i - nI i / 8 * 8) v hsm.1) (cwV 3 hts gX0_some_X0_add rfl rfl rfl (by decide +kernel) ⟨Nat.le_of_ble_eq_true rfl, Nat.le_of_ble_eq_true rfl⟩) (nt_preV rfl hP hK hD [.long (id + (((nI i).toInt64) * step)), .int ((nI i) - (nI i) / 8 * 8), .int v]) rfl rfl hl.1 rfl (lv_room (Nat.le_of_ble_eq_true rfl)) dX0_some_51 ⟨Nat.zero_le _, Nat.zero_le _⟩) hP hD hS hA (fun r u H locs hpost hP hD hS => ?_)
              have hu : u = (nt_sm (f, g, h, n) id step v (i + 1)) := congrArg Prod.snd hpost
              subst hu
              have hP : va_P (dC, dI) vwCl (nt_w 0 h0 q1 q2 q3 cL cI cJ ((nt_sm (f, g, h, n) id step v (i + 1)).1) ((nt_sm (f, g, h, n) id step v (i + 1)).2.1) ((nt_sm (f, g, h, n) id step v (i + 1)).2.2.1) ((nt_sm (f, g, h, n) id step v (i + 1)).2.2.2)) H := hP
              have hD : va_D A (nt_w 0 h0 q1 q2 q3 cL cI cJ ((nt_sm (f, g, h, n) id step v (i + 1)).1) ((nt_sm (f, g, h, n) id step v (i + 1)).2.1) ((nt_sm (f, g, h, n) id step v (i + 1)).2.2.1) ((nt_sm (f, g, h, n) id step v (i + 1)).2.2.2)) := hD
              refine lv_pop hx hb dX0_some_54 rfl ?_
              refine lv_iinc (k := 6) (v := nI (i + 1)) (lv' := [(8, .int (nI (i + 1))), (0, .ref h0), (1, .long id), (3, .long step), (5, .int (nI k)), (6, .int v), (7, .int (nI n))]) hx hb dX0_some_55 hl rfl (by rw [show Int32.ofInt 1 = 1 by decide]; exact nI_1 _) (by decide) rfl (fun ls hl => ?_)
              refine lv_goto (tgt := 29) hx hb dX0_some_58 (by decide) ?_
              exact ih (i + 1) (by omega) ls H locs (lv_sub hl [1, 2, 3, 4, 5, 6, 0] rfl) hP hD hS
        exact loop k 0 (by omega) ls s.heap [] (lv_sub hl [2, 3, 4, 5, 6, 1, 0] rfl) hP hD hS
      · refine lv_iconst (v := -1) hx hb dX0_some_18 (by decide) ?_
        exact W.iret (v := -1) hx hb hr (fun t ht hW => ⟨⟨-1, (f, g, h, n), rfl, nt_some_bad (Or.inr (Or.inr (Int32.not_le.mp h3))), by rw [ht]; exact hP, va_K.moved hW.alike hK, hD⟩, hS.F ht⟩) hS.2.2 dX0_some_19
