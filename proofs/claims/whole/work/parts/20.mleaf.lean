set_option maxHeartbeats 4000000 in
set_option maxRecDepth 100000 in
/-- the reference's place, from below -/
theorem kM_place (l : Launch) (dC : Nat → ClassId) (dI : Nat → Nat → Nat) (h0 q1 q2 q3 sz : Nat) (cL cI cJ : ClassId) (f : Nat → Int64) (g h : Nat → Int32) (n : Nat) (id : Int64) (ix : Int32) (hn : n ≤ 900) : Met l yX1_place wsX1_place ({ frames := 0, cells := 0, slots := 0, locals := 0 } : Room) (va_Pc [.ref h0, .long id, .int ix] (nt_in dC dI 1 h0 q1 q2 q3 cL cI cJ f g h n sz)) (va_Qi (fun (r : Int32) (u : nt_S) => (∃ pl : Nat, r = nI pl ∧ nt_at (f, g, h, n) (nt_k id ix) pl) ∧ u = (f, g, h, n)) (nt_out dC dI 1 h0 q1 q2 q3 cL cI cJ (va_A (nt_w 1 h0 q1 q2 q3 cL cI cJ f g h n) sz)) (va_A (nt_w 1 h0 q1 q2 q3 cL cI cJ f g h n) sz)) 0 0 (va_A (nt_w 1 h0 q1 q2 q3 cL cI cJ f g h n) sz) := by
  refine Met.ofW (cc := cX1_place) (maxL := 5) (ret := (some .int)) (by decide) rfl ?_
  intro p e s m args below meth c s₁ B hml hv
  obtain ⟨rfl, hsz, hP, hK, hD0⟩ := hv
  have hx := B.exec
  have hb := B.bytes
  have hr := B.returns
  have hts := atoms_spec (ws := wsX1_place) B.pre
  have hown : s.vm.findClass RX1 = some m.cls := findClass_of_methodNamed B.named
  have hlocks := B.notSynchronized
  subst hsz
  have hD := hD0.self (sz := s.heap.size)
  generalize hAe : va_A (nt_w 1 h0 q1 q2 q3 cL cI cJ f g h n) s.heap.size = A at hD ⊢
  have hA : ∀ q : Nat, s.heap.size ≤ q → A q := fun q h => by rw [← hAe]; exact Or.inr h
  have hS : va_S A s.heap s.heap [] := va_S.rf
  have hin : ∀ w ∈ u_ws RX1 TX1 4, w ∈ wsX1_place := by decide +kernel
  have hf0 := hts (.fieldLink RX1 9 "NameTableModel" "id" "[J") (by decide +kernel)
  have hf1 := hts (.fieldLink RX1 13 "NameTableModel" "index" "[I") (by decide +kernel)
  have hf3 := hts (.fieldLink RX1 20 "NameTableModel" "count" "I") (by decide +kernel)
  have hl := lv_entry ([.ref h0, .long id, .int ix]) (n := 5) (Nat.le_of_ble_eq_true rfl)
  rw [lg_entry_eq]
  generalize (lg_sl ([.ref h0, .long id, .int ix]) ++ List.replicate (5 - (lg_sl ([.ref h0, .long id, .int ix])).length) Slot.unset).toArray = ls at hl ⊢
  have hl : lv_has ls 5 [(0, .ref h0), (1, .long id), (3, .int ix)] := hl
  refine lv_iconst (v := nI 0) hx hb dX1_place_0 (by decide) ?_
  refine lv_istore (lv' := [(4, .int (nI 0)), (0, .ref h0), (1, .long id), (3, .int ix)]) hx hb dX1_place_1 hl (by decide) rfl (fun ls hl => ?_)
  refine nt_here (fun Q hQ => ?_)
  have loop : ∀ (d i : Nat), i + d = n → (∀ j, j < i → nt_K (f, g, h, n) j < nt_k id ix) → ∀ (ls : Array Slot), lv_has ls 5 [(0, .ref h0), (1, .long id), (3, .int ix), (4, .int (nI i))] → W p l e ({ frames := 0, cells := 0, slots := 0, locals := 0 } : Room) s m ([.ref h0, .long id, .int ix] : List Value).toArray below meth c s.heap [] 0 0 Q (F0 m 3 ls []) := by
    intro d
    induction d with
    | zero =>
      intro i hi hlo ls hl
      refine lv_iload hx hb dX1_place_3 (lv_at hl 3 rfl) ?_
      refine lv_aload_n hx hb dX1_place_5 rfl (lv_at hl 0 rfl) ?_
      refine va_get (D := (dC, dI)) (ci := 1) (v := .int (nI n)) (C := RX1) (T := TX1) (N := 4) hx hb hts hin hown hK hP 0 rfl rfl 3 (by decide) hf3 (fun _ h9 => h9) rfl dX1_place_6 ?_
      refine lv_icmp_ge (tgt := 53) hx hb dX1_place_9 (by decide) (fun hc => ?_) (fun hc => ?_)
      · refine lv_iload hx hb dX1_place_53 (lv_at hl 3 rfl) ?_
        subst hQ
        exact W.iret (v := nI i) hx hb hr (fun t ht hW => ⟨⟨nI i, (f, g, h, n), rfl, ⟨⟨i, rfl, by show i ≤ n; omega, hlo, fun h9 => absurd h9 (by show ¬ i < n; omega)⟩, rfl⟩, by rw [ht]; exact hP, va_K.moved hW.alike hK, hD⟩, hS.F ht⟩) hS.2.2 dX1_place_55
      · exact absurd (nI_le (show n ≤ i by omega) (by omega)) hc
    | succ d ih =>
      intro i hi hlo ls hl
      have hk : nt_K (f, g, h, n) i < nt_k id ix ↔ (f i < id ∨ (f i = id ∧ g i < ix)) := nt_k_lt _ _ _ _
      refine lv_iload hx hb dX1_place_3 (lv_at hl 3 rfl) ?_
      refine lv_aload_n hx hb dX1_place_5 rfl (lv_at hl 0 rfl) ?_
      refine va_get (D := (dC, dI)) (ci := 1) (v := .int (nI n)) (C := RX1) (T := TX1) (N := 4) hx hb hts hin hown hK hP 0 rfl rfl 3 (by decide) hf3 (fun _ h9 => h9) rfl dX1_place_6 ?_
      refine lv_icmp_ge (tgt := 53) hx hb dX1_place_9 (by decide) (fun hc => ?_) (fun hc => ?_)
      · exact absurd hc (nI_ge (show i < n by omega) (by omega))
      · refine lv_aload_n hx hb dX1_place_12 rfl (lv_at hl 0 rfl) ?_
        refine va_get (D := (dC, dI)) (ci := 1) (v := .ref q1) (C := RX1) (T := TX1) (N := 4) hx hb hts hin hown hK hP 0 rfl rfl 0 (by decide) hf0 (fun _ h9 => h9) rfl dX1_place_13 ?_
        refine lv_iload hx hb dX1_place_16 (lv_at hl 3 rfl) ?_
        refine nt_lald hx hb hK hP 1 0 rfl rfl (by omega) dX1_place_18 ?_
        refine lv_lload_n hx hb dX1_place_19 rfl (lv_at hl 1 rfl) ?_
        refine W.lcmp hx hb dX1_place_20 ?_
        refine lv_if_lt (tgt := 47) hx hb dX1_place_21 (by decide) (fun h1 => ?_) (fun h1 => ?_)
        · have hlt : nt_K (f, g, h, n) i < nt_k id ix := hk.mpr (Or.inl ((lg_cmp_lt _ _).mp h1))
          refine lv_iinc (k := 3) (v := nI (i + 1)) (lv' := [(4, .int (nI (i + 1))), (0, .ref h0), (1, .long id), (3, .int ix)]) hx hb dX1_place_47 hl rfl (by rw [show Int32.ofInt 1 = 1 by decide]; exact nI_1 _) (by decide) rfl (fun ls hl => ?_)
          refine lv_goto (tgt := 3) hx hb dX1_place_50 (by decide) ?_
          exact ih (i + 1) (by omega) (lt_s hlo hlt) ls (lv_sub hl [1, 2, 3, 0] rfl)
        · have h1 : ¬ f i < id := fun h9 => h1 ((lg_cmp_lt _ _).mpr h9)
          refine lv_aload_n hx hb dX1_place_24 rfl (lv_at hl 0 rfl) ?_
          refine va_get (D := (dC, dI)) (ci := 1) (v := .ref q1) (C := RX1) (T := TX1) (N := 4) hx hb hts hin hown hK hP 0 rfl rfl 0 (by decide) hf0 (fun _ h9 => h9) rfl dX1_place_25 ?_
          refine lv_iload hx hb dX1_place_28 (lv_at hl 3 rfl) ?_
          refine nt_lald hx hb hK hP 1 0 rfl rfl (by omega) dX1_place_30 ?_
          refine lv_lload_n hx hb dX1_place_31 rfl (lv_at hl 1 rfl) ?_
          refine W.lcmp hx hb dX1_place_32 ?_
          refine lv_if_ne (tgt := 53) hx hb dX1_place_33 (by decide) (fun h2 => ?_) (fun h2 => ?_)
          · refine lv_iload hx hb dX1_place_53 (lv_at hl 3 rfl) ?_
            subst hQ
            exact W.iret (v := nI i) hx hb hr (fun t ht hW => ⟨⟨nI i, (f, g, h, n), rfl, ⟨⟨i, rfl, by show i ≤ n; omega, hlo, fun _ => Int.not_lt.mp (fun h9 => (hk.mp h9).elim h1 (fun h8 => h2 ((lg_cmp_eq _ _).mpr h8.1)))⟩, rfl⟩, by rw [ht]; exact hP, va_K.moved hW.alike hK, hD⟩, hS.F ht⟩) hS.2.2 dX1_place_55
          · have h2 : f i = id := (lg_cmp_eq _ _).mp h2
            refine lv_aload_n hx hb dX1_place_36 rfl (lv_at hl 0 rfl) ?_
            refine va_get (D := (dC, dI)) (ci := 1) (v := .ref q2) (C := RX1) (T := TX1) (N := 4) hx hb hts hin hown hK hP 0 rfl rfl 1 (by decide) hf1 (fun _ h9 => h9) rfl dX1_place_37 ?_
            refine lv_iload hx hb dX1_place_40 (lv_at hl 3 rfl) ?_
            refine nt_iald hx hb hK hP 2 1 rfl rfl (by omega) dX1_place_42 ?_
            refine lv_iload_n hx hb dX1_place_43 rfl (lv_at hl 2 rfl) ?_
            refine lv_icmp_ge (tgt := 53) hx hb dX1_place_44 (by decide) (fun h3 => ?_) (fun h3 => ?_)
            · refine lv_iload hx hb dX1_place_53 (lv_at hl 3 rfl) ?_
              subst hQ
              exact W.iret (v := nI i) hx hb hr (fun t ht hW => ⟨⟨nI i, (f, g, h, n), rfl, ⟨⟨i, rfl, by show i ≤ n; omega, hlo, fun _ => Int.not_lt.mp (fun h9 => (hk.mp h9).elim h1 (fun h8 => Int32.not_le.mpr h8.2 h3))⟩, rfl⟩, by rw [ht]; exact hP, va_K.moved hW.alike hK, hD⟩, hS.F ht⟩) hS.2.2 dX1_place_55
            · have hlt : nt_K (f, g, h, n) i < nt_k id ix := hk.mpr (Or.inr ⟨h2, Int32.not_le.mp h3⟩)
              refine lv_iinc (k := 3) (v := nI (i + 1)) (lv' := [(4, .int (nI (i + 1))), (0, .ref h0), (1, .long id), (3, .int ix)]) hx hb dX1_place_47 hl rfl (by rw [show Int32.ofInt 1 = 1 by decide]; exact nI_1 _) (by decide) rfl (fun ls hl => ?_)
              refine lv_goto (tgt := 3) hx hb dX1_place_50 (by decide) ?_
              exact ih (i + 1) (by omega) (lt_s hlo hlt) ls (lv_sub hl [1, 2, 3, 0] rfl)
  exact loop n 0 (by omega) (fun j h9 => absurd h9 (Nat.not_lt_zero j)) ls (lv_sub hl [1, 2, 3, 0] rfl)
set_option maxHeartbeats 4000000 in
set_option maxRecDepth 100000 in
/-- has the coin at j this name -/
theorem kM_is (l : Launch) (dC : Nat → ClassId) (dI : Nat → Nat → Nat) (h0 q1 q2 q3 sz : Nat) (cL cI cJ : ClassId) (f : Nat → Int64) (g h : Nat → Int32) (n : Nat) (j : Nat) (id : Int64) (ix : Int32) (hj : j ≤ 900) (hn : n ≤ 900) : Met l yX1_is wsX1_is ({ frames := 0, cells := 0, slots := 0, locals := 0 } : Room) (va_Pc [.ref h0, .int (nI j), .long id, .int ix] (nt_in dC dI 1 h0 q1 q2 q3 cL cI cJ f g h n sz)) (va_Qi (fun (r : Int32) (u : nt_S) => nt_b r (nt_is (f, g, h, n) id ix j) ∧ u = (f, g, h, n)) (nt_out dC dI 1 h0 q1 q2 q3 cL cI cJ (va_A (nt_w 1 h0 q1 q2 q3 cL cI cJ f g h n) sz)) (va_A (nt_w 1 h0 q1 q2 q3 cL cI cJ f g h n) sz)) 0 0 (va_A (nt_w 1 h0 q1 q2 q3 cL cI cJ f g h n) sz) := by
  refine Met.ofW (cc := cX1_is) (maxL := 5) (ret := (some .boolean)) (by decide) rfl ?_
  intro p e s m args below meth c s₁ B hml hv
  obtain ⟨rfl, hsz, hP, hK, hD0⟩ := hv
  have hx := B.exec
  have hb := B.bytes
  have hr := B.returns
  have hts := atoms_spec (ws := wsX1_is) B.pre
  have hown : s.vm.findClass RX1 = some m.cls := findClass_of_methodNamed B.named
  have hlocks := B.notSynchronized
  subst hsz
  have hD := hD0.self (sz := s.heap.size)
  generalize hAe : va_A (nt_w 1 h0 q1 q2 q3 cL cI cJ f g h n) s.heap.size = A at hD ⊢
  have hA : ∀ q : Nat, s.heap.size ≤ q → A q := fun q h => by rw [← hAe]; exact Or.inr h
  have hS : va_S A s.heap s.heap [] := va_S.rf
  have hin : ∀ w ∈ u_ws RX1 TX1 4, w ∈ wsX1_is := by decide +kernel
  have hf0 := hts (.fieldLink RX1 9 "NameTableModel" "id" "[J") (by decide +kernel)
  have hf1 := hts (.fieldLink RX1 13 "NameTableModel" "index" "[I") (by decide +kernel)
  have hf3 := hts (.fieldLink RX1 20 "NameTableModel" "count" "I") (by decide +kernel)
  have hl := lv_entry ([.ref h0, .int (nI j), .long id, .int ix]) (n := 5) (Nat.le_of_ble_eq_true rfl)
  rw [lg_entry_eq]
  generalize (lg_sl ([.ref h0, .int (nI j), .long id, .int ix]) ++ List.replicate (5 - (lg_sl ([.ref h0, .int (nI j), .long id, .int ix])).length) Slot.unset).toArray = ls at hl ⊢
  have hl : lv_has ls 5 [(0, .ref h0), (1, .int (nI j)), (2, .long id), (4, .int ix)] := hl
  refine lv_iload_n hx hb dX1_is_0 rfl (lv_at hl 1 rfl) ?_
  refine lv_aload_n hx hb dX1_is_1 rfl (lv_at hl 0 rfl) ?_
  refine va_get (D := (dC, dI)) (ci := 1) (v := .int (nI n)) (C := RX1) (T := TX1) (N := 4) hx hb hts hin hown hK hP 0 rfl rfl 3 (by decide) hf3 (fun _ h9 => h9) rfl dX1_is_2 ?_
  refine lv_icmp_ge (tgt := 34) hx hb dX1_is_5 (by decide) (fun hc => ?_) (fun hc => ?_)
  · refine lv_iconst (v := 0) hx hb dX1_is_34 (by decide) ?_
    exact W.zret (v := 0) hx hb hr narrow_b0 (fun t ht hW => ⟨⟨0, (f, g, h, n), rfl, ⟨Or.inr ⟨rfl, fun h9 => nI_ge h9.1 (show n < 2 ^ 31 by omega) hc⟩, rfl⟩, by rw [ht]; exact hP, va_K.moved hW.alike hK, hD⟩, hS.F ht⟩) hS.2.2 dX1_is_35
  · have hjn : j < n := Nat.lt_of_not_le (fun h9 => hc (nI_le h9 (by omega)))
    refine lv_aload_n hx hb dX1_is_8 rfl (lv_at hl 0 rfl) ?_
    refine va_get (D := (dC, dI)) (ci := 1) (v := .ref q1) (C := RX1) (T := TX1) (N := 4) hx hb hts hin hown hK hP 0 rfl rfl 0 (by decide) hf0 (fun _ h9 => h9) rfl dX1_is_9 ?_
    refine lv_iload_n hx hb dX1_is_12 rfl (lv_at hl 1 rfl) ?_
    refine nt_lald hx hb hK hP 1 0 rfl rfl (by omega) dX1_is_13 ?_
    refine lv_lload_n hx hb dX1_is_14 rfl (lv_at hl 2 rfl) ?_
    refine W.lcmp hx hb dX1_is_15 ?_
    refine lv_if_ne (tgt := 34) hx hb dX1_is_16 (by decide) (fun h1 => ?_) (fun h1 => ?_)
    · refine lv_iconst (v := 0) hx hb dX1_is_34 (by decide) ?_
      exact W.zret (v := 0) hx hb hr narrow_b0 (fun t ht hW => ⟨⟨0, (f, g, h, n), rfl, ⟨Or.inr ⟨rfl, fun h9 => h1 ((lg_cmp_eq _ _).mpr h9.2.1)⟩, rfl⟩, by rw [ht]; exact hP, va_K.moved hW.alike hK, hD⟩, hS.F ht⟩) hS.2.2 dX1_is_35
    · have h1 : f j = id := (lg_cmp_eq _ _).mp h1
      refine lv_aload_n hx hb dX1_is_19 rfl (lv_at hl 0 rfl) ?_
      refine va_get (D := (dC, dI)) (ci := 1) (v := .ref q2) (C := RX1) (T := TX1) (N := 4) hx hb hts hin hown hK hP 0 rfl rfl 1 (by decide) hf1 (fun _ h9 => h9) rfl dX1_is_20 ?_
      refine lv_iload_n hx hb dX1_is_23 rfl (lv_at hl 1 rfl) ?_
      refine nt_iald hx hb hK hP 2 1 rfl rfl (by omega) dX1_is_24 ?_
      refine lv_iload hx hb dX1_is_25 (lv_at hl 3 rfl) ?_
      refine lv_icmp_ne (tgt := 34) hx hb dX1_is_27 (by decide) (fun h2 => ?_) (fun h2 => ?_)
      · refine lv_iconst (v := 0) hx hb dX1_is_34 (by decide) ?_
        exact W.zret (v := 0) hx hb hr narrow_b0 (fun t ht hW => ⟨⟨0, (f, g, h, n), rfl, ⟨Or.inr ⟨rfl, fun h9 => h2 h9.2.2⟩, rfl⟩, by rw [ht]; exact hP, va_K.moved hW.alike hK, hD⟩, hS.F ht⟩) hS.2.2 dX1_is_35
      · refine lv_iconst (v := 1) hx hb dX1_is_30 (by decide) ?_
        refine lv_goto (tgt := 35) hx hb dX1_is_31 (by decide) ?_
        exact W.zret (v := 1) hx hb hr narrow_b1 (fun t ht hW => ⟨⟨1, (f, g, h, n), rfl, ⟨Or.inl ⟨rfl, hjn, h1, h2⟩, rfl⟩, by rw [ht]; exact hP, va_K.moved hW.alike hK, hD⟩, hS.F ht⟩) hS.2.2 dX1_is_35
set_option maxHeartbeats 4000000 in
set_option maxRecDepth 100000 in
/-- the coin at place j goes -/
theorem kM_go (l : Launch) (dC : Nat → ClassId) (dI : Nat → Nat → Nat) (h0 q1 q2 q3 sz : Nat) (cL cI cJ : ClassId) (f : Nat → Int64) (g h : Nat → Int32) (n : Nat) (j : Nat) (hj : j < n) (hn : n ≤ 900) : Met l yX1_go wsX1_go ({ frames := 0, cells := 0, slots := 0, locals := 0 } : Room) (va_Pc [.ref h0, .int (nI j)] (nt_in dC dI 1 h0 q1 q2 q3 cL cI cJ f g h n sz)) (va_Qi (fun (r : Int32) (u : nt_S) => (r, u) = (h j, nt_delS (f, g, h, n) j)) (nt_out dC dI 1 h0 q1 q2 q3 cL cI cJ (va_A (nt_w 1 h0 q1 q2 q3 cL cI cJ f g h n) sz)) (va_A (nt_w 1 h0 q1 q2 q3 cL cI cJ f g h n) sz)) 0 0 (va_A (nt_w 1 h0 q1 q2 q3 cL cI cJ f g h n) sz) := by
  refine Met.ofW (cc := cX1_go) (maxL := 4) (ret := (some .int)) (by decide) rfl ?_
  intro p e s m args below meth c s₁ B hml hv
  obtain ⟨rfl, hsz, hP, hK, hD0⟩ := hv
  have hx := B.exec
  have hb := B.bytes
  have hr := B.returns
  have hts := atoms_spec (ws := wsX1_go) B.pre
  have hown : s.vm.findClass RX1 = some m.cls := findClass_of_methodNamed B.named
  have hlocks := B.notSynchronized
  subst hsz
  have hD := hD0.self (sz := s.heap.size)
  generalize hAe : va_A (nt_w 1 h0 q1 q2 q3 cL cI cJ f g h n) s.heap.size = A at hD ⊢
  have hA : ∀ q : Nat, s.heap.size ≤ q → A q := fun q h => by rw [← hAe]; exact Or.inr h
  have hS : va_S A s.heap s.heap [] := va_S.rf
  have hin : ∀ w ∈ u_ws RX1 TX1 4, w ∈ wsX1_go := by decide +kernel
  have hf0 := hts (.fieldLink RX1 9 "NameTableModel" "id" "[J") (by decide +kernel)
  have hf1 := hts (.fieldLink RX1 13 "NameTableModel" "index" "[I") (by decide +kernel)
  have hf2 := hts (.fieldLink RX1 17 "NameTableModel" "value" "[I") (by decide +kernel)
  have hf3 := hts (.fieldLink RX1 20 "NameTableModel" "count" "I") (by decide +kernel)
  have hl := lv_entry ([.ref h0, .int (nI j)]) (n := 4) (Nat.le_of_ble_eq_true rfl)
  rw [lg_entry_eq]
  generalize (lg_sl ([.ref h0, .int (nI j)]) ++ List.replicate (4 - (lg_sl ([.ref h0, .int (nI j)])).length) Slot.unset).toArray = ls at hl ⊢
  have hl : lv_has ls 4 [(0, .ref h0), (1, .int (nI j))] := hl
  refine lv_aload_n hx hb dX1_go_0 rfl (lv_at hl 0 rfl) ?_
  refine va_get (D := (dC, dI)) (ci := 1) (v := .ref q3) (C := RX1) (T := TX1) (N := 4) hx hb hts hin hown hK hP 0 rfl rfl 2 (by decide) hf2 (fun _ h9 => h9) rfl dX1_go_1 ?_
  refine lv_iload_n hx hb dX1_go_4 rfl (lv_at hl 1 rfl) ?_
  refine nt_iald hx hb hK hP 3 2 rfl rfl (by omega) dX1_go_5 ?_
  refine lv_istore_n (lv' := [(2, .int (h j)), (0, .ref h0), (1, .int (nI j))]) hx hb dX1_go_6 rfl hl (by decide) rfl (fun ls hl => ?_)
  refine lv_aload_n hx hb dX1_go_7 rfl (lv_at hl 1 rfl) ?_
  refine lv_dup hx hb dX1_go_8 rfl ?_
  refine va_get (D := (dC, dI)) (ci := 1) (v := .int (nI n)) (C := RX1) (T := TX1) (N := 4) hx hb hts hin hown hK hP 0 rfl rfl 3 (by decide) hf3 (fun _ h9 => h9) rfl dX1_go_9 ?_
  refine lv_iconst (v := 1) hx hb dX1_go_12 (by decide) ?_
  refine lv_isub hx hb dX1_go_13 ?_
  refine nt_top (y := nI (n - 1)) (pk_sub (a := n) (b := 1) (by omega)) ?_
  refine va_put (D := (dC, dI)) (ci := 1) (v := .int (nI (n - 1))) (ty := .int) (C := RX1) (T := TX1) (N := 4) hx hb hts hin tyX1 tyX1_ok nmX1 hown hK hP hD hS 0 rfl rfl 3 (by decide) hf3 (fun _ h9 => h9) rfl (by decide +kernel) rfl rfl (Nat.le_of_ble_eq_true rfl) dX1_go_14 (fun H locs hP hD hS => ?_)
  have hP : va_P (dC, dI) vwCl (nt_w 1 h0 q1 q2 q3 cL cI cJ f g h (n - 1)) H := hP
  have hD : va_D A (nt_w 1 h0 q1 q2 q3 cL cI cJ f g h (n - 1)) := hD
  refine lv_iload_n hx hb dX1_go_17 rfl (lv_at hl 2 rfl) ?_
  refine lv_istore_n (lv' := [(3, .int (nI j)), (2, .int (h j)), (0, .ref h0), (1, .int (nI j))]) hx hb dX1_go_18 rfl hl (by decide) rfl (fun ls hl => ?_)
  refine nt_here (fun Q hQ => ?_)
  have loop : ∀ (d i : Nat), i + d = n - 1 → j ≤ i → ∀ (ls : Array Slot) (H : Heap) (locs : List Loc), lv_has ls 4 [(0, .ref h0), (2, .int (h j)), (3, .int (nI i))] → va_P (dC, dI) vwCl (nt_w 1 h0 q1 q2 q3 cL cI cJ (nt_sl f j i) (nt_sl g j i) (nt_sl h j i) (n - 1)) H → va_D A (nt_w 1 h0 q1 q2 q3 cL cI cJ (nt_sl f j i) (nt_sl g j i) (nt_sl h j i) (n - 1)) → va_S A s.heap H locs → W p l e ({ frames := 0, cells := 0, slots := 0, locals := 0 } : Room) s m ([.ref h0, .int (nI j)] : List Value).toArray below meth c H locs 0 0 Q (F0 m 19 ls []) := by
    intro d
    induction d with
    | zero =>
      intro i hi hji ls H locs hl hP hD hS
      refine lv_iload_n hx hb dX1_go_19 rfl (lv_at hl 2 rfl) ?_
      refine lv_aload_n hx hb dX1_go_20 rfl (lv_at hl 0 rfl) ?_
      refine va_get (D := (dC, dI)) (ci := 1) (v := .int (nI (n - 1))) (C := RX1) (T := TX1) (N := 4) hx hb hts hin hown hK hP 0 rfl rfl 3 (by decide) hf3 (fun _ h9 => h9) rfl dX1_go_21 ?_
      refine lv_icmp_ge (tgt := 75) hx hb dX1_go_24 (by decide) (fun hc => ?_) (fun hc => ?_)
      · refine lv_iload_n hx hb dX1_go_75 rfl (lv_at hl 1 rfl) ?_
        subst hQ
        have hi : i = n - 1 := by omega
        subst hi
        rw [nt_sl_e, nt_sl_e, nt_sl_e] at hP hD
        exact W.iret (v := h j) hx hb hr (fun t ht hW => ⟨⟨h j, nt_delS (f, g, h, n) j, rfl, rfl, by rw [ht]; exact hP, va_K.moved hW.alike hK, hD⟩, hS.F ht⟩) hS.2.2 dX1_go_76
      · exact absurd (nI_le (show n - 1 ≤ i by omega) (by omega)) hc
    | succ d ih =>
      intro i hi hji ls H locs hl hP hD hS
      refine lv_iload_n hx hb dX1_go_19 rfl (lv_at hl 2 rfl) ?_
      refine lv_aload_n hx hb dX1_go_20 rfl (lv_at hl 0 rfl) ?_
      refine va_get (D := (dC, dI)) (ci := 1) (v := .int (nI (n - 1))) (C := RX1) (T := TX1) (N := 4) hx hb hts hin hown hK hP 0 rfl rfl 3 (by decide) hf3 (fun _ h9 => h9) rfl dX1_go_21 ?_
      refine lv_icmp_ge (tgt := 75) hx hb dX1_go_24 (by decide) (fun hc => ?_) (fun hc => ?_)
      · exact absurd hc (nI_ge (show i < n - 1 by omega) (by omega))
      · refine lv_aload_n hx hb dX1_go_27 rfl (lv_at hl 0 rfl) ?_
        refine va_get (D := (dC, dI)) (ci := 1) (v := .ref q1) (C := RX1) (T := TX1) (N := 4) hx hb hts hin hown hK hP 0 rfl rfl 0 (by decide) hf0 (fun _ h9 => h9) rfl dX1_go_28 ?_
        refine lv_iload_n hx hb dX1_go_31 rfl (lv_at hl 2 rfl) ?_
        refine lv_aload_n hx hb dX1_go_32 rfl (lv_at hl 0 rfl) ?_
        refine va_get (D := (dC, dI)) (ci := 1) (v := .ref q1) (C := RX1) (T := TX1) (N := 4) hx hb hts hin hown hK hP 0 rfl rfl 0 (by decide) hf0 (fun _ h9 => h9) rfl dX1_go_33 ?_
        refine lv_iload_n hx hb dX1_go_36 rfl (lv_at hl 2 rfl) ?_
        refine lv_iconst (v := 1) hx hb dX1_go_37 (by decide) ?_
        refine lv_iadd hx hb dX1_go_38 ?_
        refine nt_top (y := nI (i + 1)) (nI_1 _) ?_
        refine nt_lald hx hb hK hP 1 0 rfl rfl (by omega) dX1_go_39 ?_
        refine nt_last hx hb hK hP hD hS 1 0 rfl rfl (by omega) dX1_go_40 (fun H locs hP hD hS => ?_)
        have hP : va_P (dC, dI) vwCl (nt_w 1 h0 q1 q2 q3 cL cI cJ (nt_up (nt_sl f j i) i ((nt_sl f j i) (i + 1))) (nt_sl g j i) (nt_sl h j i) (n - 1)) H := hP
        have hD : va_D A (nt_w 1 h0 q1 q2 q3 cL cI cJ (nt_up (nt_sl f j i) i ((nt_sl f j i) (i + 1))) (nt_sl g j i) (nt_sl h j i) (n - 1)) := hD
        refine lv_aload_n hx hb dX1_go_41 rfl (lv_at hl 0 rfl) ?_
        refine va_get (D := (dC, dI)) (ci := 1) (v := .ref q2) (C := RX1) (T := TX1) (N := 4) hx hb hts hin hown hK hP 0 rfl rfl 1 (by decide) hf1 (fun _ h9 => h9) rfl dX1_go_42 ?_
        refine lv_iload_n hx hb dX1_go_45 rfl (lv_at hl 2 rfl) ?_
        refine lv_aload_n hx hb dX1_go_46 rfl (lv_at hl 0 rfl) ?_
        refine va_get (D := (dC, dI)) (ci := 1) (v := .ref q2) (C := RX1) (T := TX1) (N := 4) hx hb hts hin hown hK hP 0 rfl rfl 1 (by decide) hf1 (fun _ h9 => h9) rfl dX1_go_47 ?_
        refine lv_iload_n hx hb dX1_go_50 rfl (lv_at hl 2 rfl) ?_
        refine lv_iconst (v := 1) hx hb dX1_go_51 (by decide) ?_
        refine lv_iadd hx hb dX1_go_52 ?_
        refine nt_top (y := nI (i + 1)) (nI_1 _) ?_
        refine nt_iald hx hb hK hP 2 1 rfl rfl (by omega) dX1_go_53 ?_
        refine nt_iast hx hb hK hP hD hS 2 1 rfl rfl (by omega) dX1_go_54 (fun H locs hP hD hS => ?_)
        have hP : va_P (dC, dI) vwCl (nt_w 1 h0 q1 q2 q3 cL cI cJ (nt_up (nt_sl f j i) i ((nt_sl f j i) (i + 1))) (nt_up (nt_sl g j i) i ((nt_sl g j i) (i + 1))) (nt_sl h j i) (n - 1)) H := hP
        have hD : va_D A (nt_w 1 h0 q1 q2 q3 cL cI cJ (nt_up (nt_sl f j i) i ((nt_sl f j i) (i + 1))) (nt_up (nt_sl g j i) i ((nt_sl g j i) (i + 1))) (nt_sl h j i) (n - 1)) := hD
        refine lv_aload_n hx hb dX1_go_55 rfl (lv_at hl 0 rfl) ?_
        refine va_get (D := (dC, dI)) (ci := 1) (v := .ref q3) (C := RX1) (T := TX1) (N := 4) hx hb hts hin hown hK hP 0 rfl rfl 2 (by decide) hf2 (fun _ h9 => h9) rfl dX1_go_56 ?_
        refine lv_iload_n hx hb dX1_go_59 rfl (lv_at hl 2 rfl) ?_
        refine lv_aload_n hx hb dX1_go_60 rfl (lv_at hl 0 rfl) ?_
        refine va_get (D := (dC, dI)) (ci := 1) (v := .ref q3) (C := RX1) (T := TX1) (N := 4) hx hb hts hin hown hK hP 0 rfl rfl 2 (by decide) hf2 (fun _ h9 => h9) rfl dX1_go_61 ?_
        refine lv_iload_n hx hb dX1_go_64 rfl (lv_at hl 2 rfl) ?_
        refine lv_iconst (v := 1) hx hb dX1_go_65 (by decide) ?_
        refine lv_iadd hx hb dX1_go_66 ?_
        refine nt_top (y := nI (i + 1)) (nI_1 _) ?_
        refine nt_iald hx hb hK hP 3 2 rfl rfl (by omega) dX1_go_67 ?_
        refine nt_iast hx hb hK hP hD hS 3 2 rfl rfl (by omega) dX1_go_68 (fun H locs hP hD hS => ?_)
        have hP : va_P (dC, dI) vwCl (nt_w 1 h0 q1 q2 q3 cL cI cJ (nt_up (nt_sl f j i) i ((nt_sl f j i) (i + 1))) (nt_up (nt_sl g j i) i ((nt_sl g j i) (i + 1))) (nt_up (nt_sl h j i) i ((nt_sl h j i) (i + 1))) (n - 1)) H := hP
        have hD : va_D A (nt_w 1 h0 q1 q2 q3 cL cI cJ (nt_up (nt_sl f j i) i ((nt_sl f j i) (i + 1))) (nt_up (nt_sl g j i) i ((nt_sl g j i) (i + 1))) (nt_up (nt_sl h j i) i ((nt_sl h j i) (i + 1))) (n - 1)) := hD
        refine lv_iinc (k := 2) (v := nI (i + 1)) (lv' := [(3, .int (nI (i + 1))), (0, .ref h0), (2, .int (h j))]) hx hb dX1_go_69 hl rfl (by rw [show Int32.ofInt 1 = 1 by decide]; exact nI_1 _) (by decide) rfl (fun ls hl => ?_)
        refine lv_goto (tgt := 19) hx hb dX1_go_72 (by decide) ?_
        rw [nt_sl_s f hji, nt_sl_s g hji, nt_sl_s h hji] at hP hD
        exact ih (i + 1) (by omega) (by omega) ls H locs (lv_sub hl [1, 2, 0] rfl) hP hD hS
  have hP : va_P (dC, dI) vwCl (nt_w 1 h0 q1 q2 q3 cL cI cJ (nt_sl f j j) (nt_sl g j j) (nt_sl h j j) (n - 1)) H := by rw [nt_sl_0, nt_sl_0, nt_sl_0]; exact hP
  have hD : va_D A (nt_w 1 h0 q1 q2 q3 cL cI cJ (nt_sl f j j) (nt_sl g j j) (nt_sl h j j) (n - 1)) := by rw [nt_sl_0, nt_sl_0, nt_sl_0]; exact hD
  exact loop (n - 1 - j) j (by omega) (Nat.le_refl j) ls H locs (lv_sub hl [2, 1, 0] rfl) hP hD hS
