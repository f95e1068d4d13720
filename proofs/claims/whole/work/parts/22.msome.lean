set_option maxHeartbeats 4000000 in
set_option maxRecDepth 100000 in
/-- the reference's some -/
theorem kM_some (l : Launch) (dC : Nat → ClassId) (dI : Nat → Nat → Nat) (h0 q1 q2 q3 sz : Nat) (cL cI cJ : ClassId) (f : Nat → Int64) (g h : Nat → Int32) (n : Nat) (id step : Int64) (mm v : Int32) (hok : nt_ok (f, g, h, n)) : Met l yX1_some wsX1_some ({ frames := 2, cells := 0, slots := 0, locals := 80 } : Room) (va_Pc [.ref h0, .long id, .long step, .int mm, .int v] (nt_in dC dI 1 h0 q1 q2 q3 cL cI cJ f g h n sz)) (va_Qi (fun (r : Int32) (u : nt_S) => (r, u) = nt_some (f, g, h, n) id step mm v) (nt_out dC dI 1 h0 q1 q2 q3 cL cI cJ (va_A (nt_w 1 h0 q1 q2 q3 cL cI cJ f g h n) sz)) (va_A (nt_w 1 h0 q1 q2 q3 cL cI cJ f g h n) sz)) 0 0 (va_A (nt_w 1 h0 q1 q2 q3 cL cI cJ f g h n) sz) := by
  refine Met.ofW (cc := cX1_some) (maxL := 9) (ret := (some .int)) (by decide) rfl ?_
  intro p e s m args below meth c s₁ B hml hv
  obtain ⟨rfl, hsz, hP, hK, hD0⟩ := hv
  have hx := B.exec
  have hb := B.bytes
  have hr := B.returns
  have hts := atoms_spec (ws := wsX1_some) B.pre
  have hown : s.vm.findClass RX1 = some m.cls := findClass_of_methodNamed B.named
  have hlocks := B.notSynchronized
  subst hsz
  have hD := hD0.self (sz := s.heap.size)
  generalize hAe : va_A (nt_w 1 h0 q1 q2 q3 cL cI cJ f g h n) s.heap.size = A at hD ⊢
  have hA : ∀ q : Nat, s.heap.size ≤ q → A q := fun q h => by rw [← hAe]; exact Or.inr h
  have hS : va_S A s.heap s.heap [] := va_S.rf
  have hl := lv_entry ([.ref h0, .long id, .long step, .int mm, .int v]) (n := 9) (Nat.le_of_ble_eq_true rfl)
  rw [lg_entry_eq]
  generalize (lg_sl ([.ref h0, .long id, .long step, .int mm, .int v]) ++ List.replicate (9 - (lg_sl ([.ref h0, .long id, .long step, .int mm, .int v])).length) Slot.unset).toArray = ls at hl ⊢
  have hl : lv_has ls 9 [(0, .ref h0), (1, .long id), (3, .long step), (5, .int mm), (6, .int v)] := hl
  have hn : n ≤ 900 := hok.1
  refine lv_iload hx hb dX1_some_0 (lv_at hl 3 rfl) ?_
  refine lv_iconst (v := 1) hx hb dX1_some_2 (by decide) ?_
  refine lv_icmp_lt (tgt := 18) hx hb dX1_some_3 (by decide) (fun h1 => ?_) (fun h1 => ?_)
  · refine lv_iconst (v := -1) hx hb dX1_some_18 (by decide) ?_
    exact W.iret (v := -1) hx hb hr (fun t ht hW => ⟨⟨-1, (f, g, h, n), rfl, nt_some_bad (Or.inl h1), by rw [ht]; exact hP, va_K.moved hW.alike hK, hD⟩, hS.F ht⟩) hS.2.2 dX1_some_19
  · refine lv_iload hx hb dX1_some_6 (lv_at hl 3 rfl) ?_
    refine lv_bipush (v := 100) hx hb dX1_some_8 (by decide) ?_
    refine lv_icmp_gt (tgt := 18) hx hb dX1_some_10 (by decide) (fun h2 => ?_) (fun h2 => ?_)
    · refine lv_iconst (v := -1) hx hb dX1_some_18 (by decide) ?_
      exact W.iret (v := -1) hx hb hr (fun t ht hW => ⟨⟨-1, (f, g, h, n), rfl, nt_some_bad (Or.inr (Or.inl h2)), by rw [ht]; exact hP, va_K.moved hW.alike hK, hD⟩, hS.F ht⟩) hS.2.2 dX1_some_19
    · refine lv_iload hx hb dX1_some_13 (lv_at hl 4 rfl) ?_
      refine lv_if_ge (tgt := 20) hx hb dX1_some_15 (by decide) (fun h3 => ?_) (fun h3 => ?_)
      · have hg : ¬ (mm < 1 ∨ 100 < mm ∨ v < 0) := fun h9 => h9.elim h1 (fun h8 => h8.elim h2 (fun h7 => Int32.not_le.mpr h7 h3))
        obtain ⟨k, hk, hk2⟩ := nt_some_k h1 h2
        subst hk2
        refine lv_iconst (v := nI 0) hx hb dX1_some_20 (by decide) ?_
        refine lv_istore (lv' := [(7, .int (nI 0)), (0, .ref h0), (1, .long id), (3, .long step), (5, .int (nI k)), (6, .int v)]) hx hb dX1_some_21 hl (by decide) rfl (fun ls hl => ?_)
        refine lv_iconst (v := nI 0) hx hb dX1_some_23 (by decide) ?_
        refine lv_istore (lv' := [(8, .int (nI 0)), (7, .int (nI 0)), (0, .ref h0), (1, .long id), (3, .long step), (5, .int (nI k)), (6, .int v)]) hx hb dX1_some_24 hl (by decide) rfl (fun ls hl => ?_)
        refine nt_here (fun Q hQ => ?_)
        have loop : ∀ (d i : Nat), i + d = k → ∀ (ls : Array Slot) (H : Heap) (locs : List Loc), lv_has ls 9 [(0, .ref h0), (1, .long id), (3, .long step), (5, .int (nI k)), (6, .int v), (7, .int (nI ((nt_sm (f, g, h, n) id step v i).2.2.2 - n))), (8, .int (nI i))] → va_P (dC, dI) vwCl (nt_w 1 h0 q1 q2 q3 cL cI cJ ((nt_sm (f, g, h, n) id step v i).1) ((nt_sm (f, g, h, n) id step v i).2.1) ((nt_sm (f, g, h, n) id step v i).2.2.1) ((nt_sm (f, g, h, n) id step v i).2.2.2)) H → va_D A (nt_w 1 h0 q1 q2 q3 cL cI cJ ((nt_sm (f, g, h, n) id step v i).1) ((nt_sm (f, g, h, n) id step v i).2.1) ((nt_sm (f, g, h, n) id step v i).2.2.1) ((nt_sm (f, g, h, n) id step v i).2.2.2)) → va_S A s.heap H locs → W p l e ({ frames := 2, cells := 0, slots := 0, locals := 80 } : Room) s m ([.ref h0, .long id, .long step, .int (nI k), .int v] : List Value).toArray below meth c H locs 0 0 Q (F0 m 26 ls []) := by
          intro d
          induction d with
          | zero =>
            intro i hi ls H locs hl hP hD hS
            have hsm := nt_sm_ok hok id step v i
            have hm1 : (nt_sm (f, g, h, n) id step v i).2.2.2 ≤ 900 := hsm.1.1
            have hm2 : n ≤ (nt_sm (f, g, h, n) id step v i).2.2.2 := hsm.2
            have hi : i = k := by omega
            refine lv_iload hx hb dX1_some_26 (lv_at hl 6 rfl) ?_
            refine lv_iload hx hb dX1_some_28 (lv_at hl 3 rfl) ?_
            refine lv_icmp_ge (tgt := 63) hx hb dX1_some_30 (by decide) (fun hc => ?_) (fun hc => ?_)
            · refine lv_iload hx hb dX1_some_63 (lv_at hl 5 rfl) ?_
              subst hQ
              subst hi
              exact W.iret (v := nI ((nt_sm (f, g, h, n) id step v i).2.2.2 - n)) hx hb hr (fun t ht hW => ⟨⟨nI ((nt_sm (f, g, h, n) id step v i).2.2.2 - n), (nt_sm (f, g, h, n) id step v i), rfl, nt_some_did hg rfl hk, by rw [ht]; exact hP, va_K.moved hW.alike hK, hD⟩, hS.F ht⟩) hS.2.2 dX1_some_65
            · exact absurd (nI_le (show k ≤ i by omega) (by omega)) hc
          | succ d ih =>
            intro i hi ls H locs hl hP hD hS
            have hsm := nt_sm_ok hok id step v i
            have hm1 : (nt_sm (f, g, h, n) id step v i).2.2.2 ≤ 900 := hsm.1.1
            have hm2 : n ≤ (nt_sm (f, g, h, n) id step v i).2.2.2 := hsm.2
            refine lv_iload hx hb dX1_some_26 (lv_at hl 6 rfl) ?_
            refine lv_iload hx hb dX1_some_28 (lv_at hl 3 rfl) ?_
            refine lv_icmp_ge (tgt := 63) hx hb dX1_some_30 (by decide) (fun hc => ?_) (fun hc => ?_)
            · exact absurd hc (nI_ge (show i < k by omega) (by omega))
            · refine lv_aload_n hx hb dX1_some_33 rfl (lv_at hl 0 rfl) ?_
              refine lv_lload_n hx hb dX1_some_34 rfl (lv_at hl 1 rfl) ?_
              refine lv_iload hx hb dX1_some_35 (lv_at hl 6 rfl) ?_
              refine lv_i2l (v := (nI i).toInt64) hx hb dX1_some_37 rfl ?_
              refine lv_lload_n hx hb dX1_some_38 rfl (lv_at hl 2 rfl) ?_
              refine lv_lmul hx hb dX1_some_39 ?_
              refine lv_ladd hx hb dX1_some_40 ?_
              refine lv_iload hx hb dX1_some_41 (lv_at hl 6 rfl) ?_
              refine lv_bipush (v := 8) hx hb dX1_some_43 (by decide) ?_
              refine lv_irem hx hb dX1_some_45 (by decide) ?_
              refine lv_iload hx hb dX1_some_46 (lv_at hl 4 rfl) ?_
              refine nt_calli (va_runV (As := [.long (id + (((nI i).toInt64) * step)), .int ((nI i) - (nI i) / 8 * 8), .int v]) (rest := []) ⟨hx, hb, hml, hown, hts⟩ (kM_add l dC dI h0 q1 q2 q3 _ cL cI cJ ((nt_sm (f, g, h, n) id step v i).1) ((nt_sm (f, g, h, n) id step v i).2.1) ((nt_sm (f, g, h, n) id step v i).2.2.1) ((nt_sm (f, g, h, n) id step v i).2.2.2) (id + (nI i).toInt64 * step) (nI i - nI i / 8 * 8) v hsm.1) (cwV 3 hts gX1_some_X1_add rfl rfl rfl (by decide +kernel) ⟨Nat.le_of_ble_eq_true rfl, Nat.le_of_ble_eq_true rfl⟩) (nt_preV rfl hP hK hD [.long (id + (((nI i).toInt64) * step)), .int ((nI i) - (nI i) / 8 * 8), .int v]) rfl rfl hl.1 rfl (lv_room (Nat.le_of_ble_eq_true rfl)) dX1_some_48 ⟨Nat.zero_le _, Nat.zero_le _⟩) hP hD hS hA (fun r u H locs hpost hP hD hS => ?_)
              have hu : u = (nt_sm (f, g, h, n) id step v (i + 1)) := congrArg Prod.snd hpost
              subst hu
              have hP : va_P (dC, dI) vwCl (nt_w 1 h0 q1 q2 q3 cL cI cJ ((nt_sm (f, g, h, n) id step v (i + 1)).1) ((nt_sm (f, g, h, n) id step v (i + 1)).2.1) ((nt_sm (f, g, h, n) id step v (i + 1)).2.2.1) ((nt_sm (f, g, h, n) id step v (i + 1)).2.2.2)) H := hP
              have hD : va_D A (nt_w 1 h0 q1 q2 q3 cL cI cJ ((nt_sm (f, g, h, n) id step v (i + 1)).1) ((nt_sm (f, g, h, n) id step v (i + 1)).2.1) ((nt_sm (f, g, h, n) id step v (i + 1)).2.2.1) ((nt_sm (f, g, h, n) id step v (i + 1)).2.2.2)) := hD
              have hr2 : r = (nt_add (nt_sm (f, g, h, n) id step v i) (id + (nI i).toInt64 * step) (nI i - nI i / 8 * 8) v).1 := congrArg Prod.fst hpost
              have hcs := nt_add_cases (nt_sm (f, g, h, n) id step v i) (id + (nI i).toInt64 * step) (nI i - nI i / 8 * 8) v hm1
              rw [← hr2] at hcs
              refine lv_if_le (tgt := 57) hx hb dX1_some_51 (by decide) (fun h1 => ?_) (fun h1 => ?_)
              · have he : (nt_sm (f, g, h, n) id step v (i + 1)).2.2.2 = (nt_sm (f, g, h, n) id step v i).2.2.2 := hcs.elim (fun h9 => congrArg (fun x : nt_S => x.2.2.2) h9.1) (fun h9 => absurd h9.2.2 (Int32.not_lt.mpr h1))
                refine lv_iinc (k := 6) (v := nI (i + 1)) (lv' := [(8, .int (nI (i + 1))), (0, .ref h0), (1, .long id), (3, .long step), (5, .int (nI k)), (6, .int v), (7, .int (nI ((nt_sm (f, g, h, n) id step v i).2.2.2 - n)))]) hx hb dX1_some_57 hl rfl (by rw [show Int32.ofInt 1 = 1 by decide]; exact nI_1 _) (by decide) rfl (fun ls hl => ?_)
                refine lv_goto (tgt := 26) hx hb dX1_some_60 (by decide) ?_
                rw [← he] at hl
                exact ih (i + 1) (by omega) ls H locs (lv_sub hl [1, 2, 3, 4, 5, 6, 0] rfl) hP hD hS
              · have he : (nt_sm (f, g, h, n) id step v (i + 1)).2.2.2 = (nt_sm (f, g, h, n) id step v i).2.2.2 + 1 := hcs.elim (fun h9 => absurd (Int32.not_le.mp h1) h9.2) (fun h9 => congrArg (fun x : nt_S => x.2.2.2) h9.2.1)
                refine lv_iinc (k := 5) (v := nI ((nt_sm (f, g, h, n) id step v (i + 1)).2.2.2 - n)) (lv' := [(7, .int (nI ((nt_sm (f, g, h, n) id step v (i + 1)).2.2.2 - n))), (0, .ref h0), (1, .long id), (3, .long step), (5, .int (nI k)), (6, .int v), (8, .int (nI i))]) hx hb dX1_some_54 hl rfl (by rw [he, show (nt_sm (f, g, h, n) id step v i).2.2.2 + 1 - n = (nt_sm (f, g, h, n) id step v i).2.2.2 - n + 1 by omega, show Int32.ofInt 1 = 1 by decide]; exact nI_1 _) (by decide) rfl (fun ls hl => ?_)
                refine lv_iinc (k := 6) (v := nI (i + 1)) (lv' := [(8, .int (nI (i + 1))), (7, .int (nI ((nt_sm (f, g, h, n) id step v (i + 1)).2.2.2 - n))), (0, .ref h0), (1, .long id), (3, .long step), (5, .int (nI k)), (6, .int v)]) hx hb dX1_some_57 hl rfl (by rw [show Int32.ofInt 1 = 1 by decide]; exact nI_1 _) (by decide) rfl (fun ls hl => ?_)
                refine lv_goto (tgt := 26) hx hb dX1_some_60 (by decide) ?_
                exact ih (i + 1) (by omega) ls H locs (lv_sub hl [2, 3, 4, 5, 6, 1, 0] rfl) hP hD hS
        have hl : lv_has ls 9 [(8, .int (nI 0)), (7, .int (nI ((nt_sm (f, g, h, n) id step v 0).2.2.2 - n))), (0, .ref h0), (1, .long id), (3, .long step), (5, .int (nI k)), (6, .int v)] := by rw [show (nt_sm (f, g, h, n) id step v 0).2.2.2 - n = 0 from Nat.sub_self n]; exact hl
        exact loop k 0 (by omega) ls s.heap [] (lv_sub hl [2, 3, 4, 5, 6, 1, 0] rfl) hP hD hS
      · refine lv_iconst (v := -1) hx hb dX1_some_18 (by decide) ?_
        exact W.iret (v := -1) hx hb hr (fun t ht hW => ⟨⟨-1, (f, g, h, n), rfl, nt_some_bad (Or.inr (Or.inr (Int32.not_le.mp h3))), by rw [ht]; exact hP, va_K.moved hW.alike hK, hD⟩, hS.F ht⟩) hS.2.2 dX1_some_19
