set_option maxHeartbeats 4000000 in
set_option maxRecDepth 100000 in
/-- the reference's add -/
theorem kM_add (l : Launch) (dC : Nat → ClassId) (dI : Nat → Nat → Nat) (h0 q1 q2 q3 sz : Nat) (cL cI cJ : ClassId) (f : Nat → Int64) (g h : Nat → Int32) (n : Nat) (id : Int64) (ix v : Int32) (hok : nt_ok (f, g, h, n)) : Met l yX1_add wsX1_add ({ frames := 1, cells := 0, slots := 0, locals := 40 } : Room) (va_Pc [.ref h0, .long id, .int ix, .int v] (nt_in dC dI 1 h0 q1 q2 q3 cL cI cJ f g h n sz)) (va_Qi (fun (r : Int32) (u : nt_S) => (r, u) = nt_add (f, g, h, n) id ix v) (nt_out dC dI 1 h0 q1 q2 q3 cL cI cJ (va_A (nt_w 1 h0 q1 q2 q3 cL cI cJ f g h n) sz)) (va_A (nt_w 1 h0 q1 q2 q3 cL cI cJ f g h n) sz)) 0 0 (va_A (nt_w 1 h0 q1 q2 q3 cL cI cJ f g h n) sz) := by
  refine Met.ofW (cc := cX1_add) (maxL := 7) (ret := (some .int)) (by decide) rfl ?_
  intro p e s m args below meth c s₁ B hml hv
  obtain ⟨rfl, hsz, hP, hK, hD0⟩ := hv
  have hx := B.exec
  have hb := B.bytes
  have hr := B.returns
  have hts := atoms_spec (ws := wsX1_add) B.pre
  have hown : s.vm.findClass RX1 = some m.cls := findClass_of_methodNamed B.named
  have hlocks := B.notSynchronized
  subst hsz
  have hD := hD0.self (sz := s.heap.size)
  generalize hAe : va_A (nt_w 1 h0 q1 q2 q3 cL cI cJ f g h n) s.heap.size = A at hD ⊢
  have hA : ∀ q : Nat, s.heap.size ≤ q → A q := fun q h => by rw [← hAe]; exact Or.inr h
  have hS : va_S A s.heap s.heap [] := va_S.rf
  have hin : ∀ w ∈ u_ws RX1 TX1 4, w ∈ wsX1_add := by decide +kernel
  have hf0 := hts (.fieldLink RX1 9 "NameTableModel" "id" "[J") (by decide +kernel)
  have hf1 := hts (.fieldLink RX1 13 "NameTableModel" "index" "[I") (by decide +kernel)
  have hf2 := hts (.fieldLink RX1 17 "NameTableModel" "value" "[I") (by decide +kernel)
  have hf3 := hts (.fieldLink RX1 20 "NameTableModel" "count" "I") (by decide +kernel)
  have hl := lv_entry ([.ref h0, .long id, .int ix, .int v]) (n := 7) (Nat.le_of_ble_eq_true rfl)
  rw [lg_entry_eq]
  generalize (lg_sl ([.ref h0, .long id, .int ix, .int v]) ++ List.replicate (7 - (lg_sl ([.ref h0, .long id, .int ix, .int v])).length) Slot.unset).toArray = ls at hl ⊢
  have hl : lv_has ls 7 [(0, .ref h0), (1, .long id), (3, .int ix), (4, .int v)] := hl
  have hn : n ≤ 900 := hok.1
  refine lv_iload_n hx hb dX1_add_0 rfl (lv_at hl 2 rfl) ?_
  refine lv_if_lt (tgt := 15) hx hb dX1_add_1 (by decide) (fun h1 => ?_) (fun h1 => ?_)
  · refine lv_iconst (v := -1) hx hb dX1_add_15 (by decide) ?_
    exact W.iret (v := -1) hx hb hr (fun t ht hW => ⟨⟨-1, (f, g, h, n), rfl, nt_add_bad (Or.inl h1), by rw [ht]; exact hP, va_K.moved hW.alike hK, hD⟩, hS.F ht⟩) hS.2.2 dX1_add_16
  · refine lv_iload_n hx hb dX1_add_4 rfl (lv_at hl 2 rfl) ?_
    refine lv_bipush (v := 7) hx hb dX1_add_5 (by decide) ?_
    refine lv_icmp_gt (tgt := 15) hx hb dX1_add_7 (by decide) (fun h2 => ?_) (fun h2 => ?_)
    · refine lv_iconst (v := -1) hx hb dX1_add_15 (by decide) ?_
      exact W.iret (v := -1) hx hb hr (fun t ht hW => ⟨⟨-1, (f, g, h, n), rfl, nt_add_bad (Or.inr (Or.inl h2)), by rw [ht]; exact hP, va_K.moved hW.alike hK, hD⟩, hS.F ht⟩) hS.2.2 dX1_add_16
    · refine lv_iload hx hb dX1_add_10 (lv_at hl 3 rfl) ?_
      refine lv_if_ge (tgt := 17) hx hb dX1_add_12 (by decide) (fun h3 => ?_) (fun h3 => ?_)
      · have hg : ¬ (ix < 0 ∨ 7 < ix ∨ v < 0) := fun h9 => h9.elim h1 (fun h8 => h8.elim h2 (fun h7 => Int32.not_le.mpr h7 h3))
        refine lv_aload_n hx hb dX1_add_17 rfl (lv_at hl 0 rfl) ?_
        refine lv_lload_n hx hb dX1_add_18 rfl (lv_at hl 1 rfl) ?_
        refine lv_iload_n hx hb dX1_add_19 rfl (lv_at hl 2 rfl) ?_
        refine nt_calli (va_runV (As := [.long id, .int ix]) (rest := []) ⟨hx, hb, hml, hown, hts⟩ (kM_place l dC dI h0 q1 q2 q3 _ cL cI cJ f g h n id ix hn) (cwV 2 hts gX1_add_X1_place rfl rfl rfl (by decide +kernel) ⟨Nat.le_of_ble_eq_true rfl, Nat.le_of_ble_eq_true rfl⟩) (nt_preV rfl hP hK hD [.long id, .int ix]) rfl rfl hl.1 rfl (lv_room (Nat.le_of_ble_eq_true rfl)) dX1_add_20 ⟨Nat.zero_le _, Nat.zero_le _⟩) hP hD hS hA (fun r u H locs hpost hP hD hS => ?_)
        obtain ⟨hpost, rfl⟩ := hpost
        have hP : va_P (dC, dI) vwCl (nt_w 1 h0 q1 q2 q3 cL cI cJ f g h n) H := hP
        have hD : va_D A (nt_w 1 h0 q1 q2 q3 cL cI cJ f g h n) := hD
        obtain ⟨j, rfl, hat⟩ := hpost
        have hj : j ≤ n := hat.1
        refine lv_istore (lv' := [(5, .int (nI j)), (0, .ref h0), (1, .long id), (3, .int ix), (4, .int v)]) hx hb dX1_add_23 hl (by decide) rfl (fun ls hl => ?_)
        refine lv_aload_n hx hb dX1_add_25 rfl (lv_at hl 1 rfl) ?_
        refine lv_iload hx hb dX1_add_26 (lv_at hl 0 rfl) ?_
        refine lv_lload_n hx hb dX1_add_28 rfl (lv_at hl 2 rfl) ?_
        refine lv_iload_n hx hb dX1_add_29 rfl (lv_at hl 3 rfl) ?_
        refine nt_calli (va_runV (As := [.int (nI j), .long id, .int ix]) (rest := []) ⟨hx, hb, hml, hown, hts⟩ (kM_is l dC dI h0 q1 q2 q3 _ cL cI cJ f g h n j id ix (by omega) hn) (cwV 3 hts gX1_add_X1_is rfl rfl rfl (by decide +kernel) ⟨Nat.le_of_ble_eq_true rfl, Nat.le_of_ble_eq_true rfl⟩) (nt_preV rfl hP hK hD [.int (nI j), .long id, .int ix]) rfl rfl hl.1 rfl (lv_room (Nat.le_of_ble_eq_true rfl)) dX1_add_30 ⟨Nat.zero_le _, Nat.zero_le _⟩) hP hD hS hA (fun r u H locs hpost hP hD hS => ?_)
        obtain ⟨hpost, rfl⟩ := hpost
        have hP : va_P (dC, dI) vwCl (nt_w 1 h0 q1 q2 q3 cL cI cJ f g h n) H := hP
        have hD : va_D A (nt_w 1 h0 q1 q2 q3 cL cI cJ f g h n) := hD
        rcases hpost with ⟨rfl, hd⟩ | ⟨rfl, hd⟩
        · refine lv_if_eq (tgt := 39) hx hb dX1_add_33 (by decide) (fun h9 => absurd h9 (by decide)) (fun _ => ?_)
          refine lv_bipush (v := -3) hx hb dX1_add_36 (by decide) ?_
          exact W.iret (v := -3) hx hb hr (fun t ht hW => ⟨⟨-3, (f, g, h, n), rfl, nt_add_there hg hat hd, by rw [ht]; exact hP, va_K.moved hW.alike hK, hD⟩, hS.F ht⟩) hS.2.2 dX1_add_38
        · refine lv_if_eq (tgt := 39) hx hb dX1_add_33 (by decide) (fun _ => ?_) (fun h9 => absurd h9 (by decide))
          refine lv_aload_n hx hb dX1_add_39 rfl (lv_at hl 1 rfl) ?_
          refine va_get (D := (dC, dI)) (ci := 1) (v := .int (nI n)) (C := RX1) (T := TX1) (N := 4) hx hb hts hin hown hK hP 0 rfl rfl 3 (by decide) hf3 (fun _ h9 => h9) rfl dX1_add_40 ?_
          refine lv_sipush (v := nI 900) hx hb dX1_add_43 (by decide) ?_
          refine lv_icmp_ne (tgt := 52) hx hb dX1_add_46 (by decide) (fun h4 => ?_) (fun h4 => ?_)
          · have h4 : ¬ n = 900 := fun h9 => h4 (by rw [h9])
            have hn9 : n < 900 := by omega
            refine lv_aload_n hx hb dX1_add_52 rfl (lv_at hl 1 rfl) ?_
            refine va_get (D := (dC, dI)) (ci := 1) (v := .int (nI n)) (C := RX1) (T := TX1) (N := 4) hx hb hts hin hown hK hP 0 rfl rfl 3 (by decide) hf3 (fun _ h9 => h9) rfl dX1_add_53 ?_
            refine lv_istore (lv' := [(6, .int (nI n)), (5, .int (nI j)), (0, .ref h0), (1, .long id), (3, .int ix), (4, .int v)]) hx hb dX1_add_56 hl (by decide) rfl (fun ls hl => ?_)
            refine nt_here (fun Q hQ => ?_)
            have loop : ∀ (d i : Nat), j + d = i → i ≤ n → ∀ (ls : Array Slot) (H : Heap) (locs : List Loc), lv_has ls 7 [(0, .ref h0), (1, .long id), (3, .int ix), (4, .int v), (5, .int (nI j)), (6, .int (nI i))] → va_P (dC, dI) vwCl (nt_w 1 h0 q1 q2 q3 cL cI cJ (nt_sh f n i) (nt_sh g n i) (nt_sh h n i) n) H → va_D A (nt_w 1 h0 q1 q2 q3 cL cI cJ (nt_sh f n i) (nt_sh g n i) (nt_sh h n i) n) → va_S A s.heap H locs → W p l e ({ frames := 1, cells := 0, slots := 0, locals := 40 } : Room) s m ([.ref h0, .long id, .int ix, .int v] : List Value).toArray below meth c H locs 0 0 Q (F0 m 58 ls []) := by
              intro d
              induction d with
              | zero =>
                intro i hi hin2 ls H locs hl hP hD hS
                have hi : i = j := by omega
                subst hi
                refine lv_iload hx hb dX1_add_58 (lv_at hl 5 rfl) ?_
                refine lv_iload hx hb dX1_add_60 (lv_at hl 4 rfl) ?_
                refine lv_icmp_le (tgt := 119) hx hb dX1_add_62 (by decide) (fun hc => ?_) (fun hc => ?_)
                · refine lv_aload_n hx hb dX1_add_119 rfl (lv_at hl 0 rfl) ?_
                  refine va_get (D := (dC, dI)) (ci := 1) (v := .ref q1) (C := RX1) (T := TX1) (N := 4) hx hb hts hin hown hK hP 0 rfl rfl 0 (by decide) hf0 (fun _ h9 => h9) rfl dX1_add_120 ?_
                  refine lv_iload hx hb dX1_add_123 (lv_at hl 4 rfl) ?_
                  refine lv_lload_n hx hb dX1_add_125 rfl (lv_at hl 1 rfl) ?_
                  refine nt_last hx hb hK hP hD hS 1 0 rfl rfl (by omega) dX1_add_126 (fun H locs hP hD hS => ?_)
                  have hP : va_P (dC, dI) vwCl (nt_w 1 h0 q1 q2 q3 cL cI cJ (nt_up (nt_sh f n i) i id) (nt_sh g n i) (nt_sh h n i) n) H := hP
                  have hD : va_D A (nt_w 1 h0 q1 q2 q3 cL cI cJ (nt_up (nt_sh f n i) i id) (nt_sh g n i) (nt_sh h n i) n) := hD
                  refine lv_aload_n hx hb dX1_add_127 rfl (lv_at hl 0 rfl) ?_
                  refine va_get (D := (dC, dI)) (ci := 1) (v := .ref q2) (C := RX1) (T := TX1) (N := 4) hx hb hts hin hown hK hP 0 rfl rfl 1 (by decide) hf1 (fun _ h9 => h9) rfl dX1_add_128 ?_
                  refine lv_iload hx hb dX1_add_131 (lv_at hl 4 rfl) ?_
                  refine lv_iload_n hx hb dX1_add_133 rfl (lv_at hl 2 rfl) ?_
                  refine nt_iast hx hb hK hP hD hS 2 1 rfl rfl (by omega) dX1_add_134 (fun H locs hP hD hS => ?_)
                  have hP : va_P (dC, dI) vwCl (nt_w 1 h0 q1 q2 q3 cL cI cJ (nt_up (nt_sh f n i) i id) (nt_up (nt_sh g n i) i ix) (nt_sh h n i) n) H := hP
                  have hD : va_D A (nt_w 1 h0 q1 q2 q3 cL cI cJ (nt_up (nt_sh f n i) i id) (nt_up (nt_sh g n i) i ix) (nt_sh h n i) n) := hD
                  refine lv_aload_n hx hb dX1_add_135 rfl (lv_at hl 0 rfl) ?_
                  refine va_get (D := (dC, dI)) (ci := 1) (v := .ref q3) (C := RX1) (T := TX1) (N := 4) hx hb hts hin hown hK hP 0 rfl rfl 2 (by decide) hf2 (fun _ h9 => h9) rfl dX1_add_136 ?_
                  refine lv_iload hx hb dX1_add_139 (lv_at hl 4 rfl) ?_
                  refine lv_iload hx hb dX1_add_141 (lv_at hl 3 rfl) ?_
                  refine nt_iast hx hb hK hP hD hS 3 2 rfl rfl (by omega) dX1_add_143 (fun H locs hP hD hS => ?_)
                  have hP : va_P (dC, dI) vwCl (nt_w 1 h0 q1 q2 q3 cL cI cJ (nt_up (nt_sh f n i) i id) (nt_up (nt_sh g n i) i ix) (nt_up (nt_sh h n i) i v) n) H := hP
                  have hD : va_D A (nt_w 1 h0 q1 q2 q3 cL cI cJ (nt_up (nt_sh f n i) i id) (nt_up (nt_sh g n i) i ix) (nt_up (nt_sh h n i) i v) n) := hD
                  refine lv_aload_n hx hb dX1_add_144 rfl (lv_at hl 0 rfl) ?_
                  refine lv_dup hx hb dX1_add_145 rfl ?_
                  refine va_get (D := (dC, dI)) (ci := 1) (v := .int (nI n)) (C := RX1) (T := TX1) (N := 4) hx hb hts hin hown hK hP 0 rfl rfl 3 (by decide) hf3 (fun _ h9 => h9) rfl dX1_add_146 ?_
                  refine lv_iconst (v := 1) hx hb dX1_add_149 (by decide) ?_
                  refine lv_iadd hx hb dX1_add_150 ?_
                  refine nt_top (y := nI (n + 1)) (nI_1 _) ?_
                  refine va_put (D := (dC, dI)) (ci := 1) (v := .int (nI (n + 1))) (ty := .int) (C := RX1) (T := TX1) (N := 4) hx hb hts hin tyX1 tyX1_ok nmX1 hown hK hP hD hS 0 rfl rfl 3 (by decide) hf3 (fun _ h9 => h9) rfl (by decide +kernel) rfl rfl (Nat.le_of_ble_eq_true rfl) dX1_add_151 (fun H locs hP hD hS => ?_)
                  have hP : va_P (dC, dI) vwCl (nt_w 1 h0 q1 q2 q3 cL cI cJ (nt_up (nt_sh f n i) i id) (nt_up (nt_sh g n i) i ix) (nt_up (nt_sh h n i) i v) (n + 1)) H := hP
                  have hD : va_D A (nt_w 1 h0 q1 q2 q3 cL cI cJ (nt_up (nt_sh f n i) i id) (nt_up (nt_sh g n i) i ix) (nt_up (nt_sh h n i) i v) (n + 1)) := hD
                  refine lv_aload_n hx hb dX1_add_154 rfl (lv_at hl 0 rfl) ?_
                  refine va_get (D := (dC, dI)) (ci := 1) (v := .int (nI (n + 1))) (C := RX1) (T := TX1) (N := 4) hx hb hts hin hown hK hP 0 rfl rfl 3 (by decide) hf3 (fun _ h9 => h9) rfl dX1_add_155 ?_
                  subst hQ
                  exact W.iret (v := nI (n + 1)) hx hb hr (fun t ht hW => ⟨⟨nI (n + 1), nt_insS (f, g, h, n) i id ix v, rfl, nt_add_new hg hat hd h4, by rw [ht]; exact hP, va_K.moved hW.alike hK, hD⟩, hS.F ht⟩) hS.2.2 dX1_add_158
                · exact absurd (nI_le (Nat.le_refl i) (by omega)) hc
              | succ d ih =>
                intro i hi hin2 ls H locs hl hP hD hS
                obtain ⟨i, rfl⟩ : ∃ k, i = k + 1 := ⟨i - 1, by omega⟩
                refine lv_iload hx hb dX1_add_58 (lv_at hl 5 rfl) ?_
                refine lv_iload hx hb dX1_add_60 (lv_at hl 4 rfl) ?_
                refine lv_icmp_le (tgt := 119) hx hb dX1_add_62 (by decide) (fun hc => ?_) (fun hc => ?_)
                · exact absurd hc (nI_ge (show j < i + 1 by omega) (by omega))
                · refine lv_aload_n hx hb dX1_add_65 rfl (lv_at hl 0 rfl) ?_
                  refine va_get (D := (dC, dI)) (ci := 1) (v := .ref q1) (C := RX1) (T := TX1) (N := 4) hx hb hts hin hown hK hP 0 rfl rfl 0 (by decide) hf0 (fun _ h9 => h9) rfl dX1_add_66 ?_
                  refine lv_iload hx hb dX1_add_69 (lv_at hl 5 rfl) ?_
                  refine lv_aload_n hx hb dX1_add_71 rfl (lv_at hl 0 rfl) ?_
                  refine va_get (D := (dC, dI)) (ci := 1) (v := .ref q1) (C := RX1) (T := TX1) (N := 4) hx hb hts hin hown hK hP 0 rfl rfl 0 (by decide) hf0 (fun _ h9 => h9) rfl dX1_add_72 ?_
                  refine lv_iload hx hb dX1_add_75 (lv_at hl 5 rfl) ?_
                  refine lv_iconst (v := 1) hx hb dX1_add_77 (by decide) ?_
                  refine lv_isub hx hb dX1_add_78 ?_
                  refine nt_top (y := nI i) (nI_pred _) ?_
                  refine nt_lald hx hb hK hP 1 0 rfl rfl (by omega) dX1_add_79 ?_
                  refine nt_last hx hb hK hP hD hS 1 0 rfl rfl (by omega) dX1_add_80 (fun H locs hP hD hS => ?_)
                  have hP : va_P (dC, dI) vwCl (nt_w 1 h0 q1 q2 q3 cL cI cJ (nt_up (nt_sh f n (i + 1)) (i + 1) ((nt_sh f n (i + 1)) i)) (nt_sh g n (i + 1)) (nt_sh h n (i + 1)) n) H := hP
                  have hD : va_D A (nt_w 1 h0 q1 q2 q3 cL cI cJ (nt_up (nt_sh f n (i + 1)) (i + 1) ((nt_sh f n (i + 1)) i)) (nt_sh g n (i + 1)) (nt_sh h n (i + 1)) n) := hD
                  refine lv_aload_n hx hb dX1_add_81 rfl (lv_at hl 0 rfl) ?_
                  refine va_get (D := (dC, dI)) (ci := 1) (v := .ref q2) (C := RX1) (T := TX1) (N := 4) hx hb hts hin hown hK hP 0 rfl rfl 1 (by decide) hf1 (fun _ h9 => h9) rfl dX1_add_82 ?_
                  refine lv_iload hx hb dX1_add_85 (lv_at hl 5 rfl) ?_
                  refine lv_aload_n hx hb dX1_add_87 rfl (lv_at hl 0 rfl) ?_
                  refine va_get (D := (dC, dI)) (ci := 1) (v := .ref q2) (C := RX1) (T := TX1) (N := 4) hx hb hts hin hown hK hP 0 rfl rfl 1 (by decide) hf1 (fun _ h9 => h9) rfl dX1_add_88 ?_
                  refine lv_iload hx hb dX1_add_91 (lv_at hl 5 rfl) ?_
                  refine lv_iconst (v := 1) hx hb dX1_add_93 (by decide) ?_
                  refine lv_isub hx hb dX1_add_94 ?_
                  refine nt_top (y := nI i) (nI_pred _) ?_
                  refine nt_iald hx hb hK hP 2 1 rfl rfl (by omega) dX1_add_95 ?_
                  refine nt_iast hx hb hK hP hD hS 2 1 rfl rfl (by omega) dX1_add_96 (fun H locs hP hD hS => ?_)
                  have hP : va_P (dC, dI) vwCl (nt_w 1 h0 q1 q2 q3 cL cI cJ (nt_up (nt_sh f n (i + 1)) (i + 1) ((nt_sh f n (i + 1)) i)) (nt_up (nt_sh g n (i + 1)) (i + 1) ((nt_sh g n (i + 1)) i)) (nt_sh h n (i + 1)) n) H := hP
                  have hD : va_D A (nt_w 1 h0 q1 q2 q3 cL cI cJ (nt_up (nt_sh f n (i + 1)) (i + 1) ((nt_sh f n (i + 1)) i)) (nt_up (nt_sh g n (i + 1)) (i + 1) ((nt_sh g n (i + 1)) i)) (nt_sh h n (i + 1)) n) := hD
                  refine lv_aload_n hx hb dX1_add_97 rfl (lv_at hl 0 rfl) ?_
                  refine va_get (D := (dC, dI)) (ci := 1) (v := .ref q3) (C := RX1) (T := TX1) (N := 4) hx hb hts hin hown hK hP 0 rfl rfl 2 (by decide) hf2 (fun _ h9 => h9) rfl dX1_add_98 ?_
                  refine lv_iload hx hb dX1_add_101 (lv_at hl 5 rfl) ?_
                  refine lv_aload_n hx hb dX1_add_103 rfl (lv_at hl 0 rfl) ?_
                  refine va_get (D := (dC, dI)) (ci := 1) (v := .ref q3) (C := RX1) (T := TX1) (N := 4) hx hb hts hin hown hK hP 0 rfl rfl 2 (by decide) hf2 (fun _ h9 => h9) rfl dX1_add_104 ?_
                  refine lv_iload hx hb dX1_add_107 (lv_at hl 5 rfl) ?_
                  refine lv_iconst (v := 1) hx hb dX1_add_109 (by decide) ?_
                  refine lv_isub hx hb dX1_add_110 ?_
                  refine nt_top (y := nI i) (nI_pred _) ?_
                  refine nt_iald hx hb hK hP 3 2 rfl rfl (by omega) dX1_add_111 ?_
                  refine nt_iast hx hb hK hP hD hS 3 2 rfl rfl (by omega) dX1_add_112 (fun H locs hP hD hS => ?_)
                  have hP : va_P (dC, dI) vwCl (nt_w 1 h0 q1 q2 q3 cL cI cJ (nt_up (nt_sh f n (i + 1)) (i + 1) ((nt_sh f n (i + 1)) i)) (nt_up (nt_sh g n (i + 1)) (i + 1) ((nt_sh g n (i + 1)) i)) (nt_up (nt_sh h n (i + 1)) (i + 1) ((nt_sh h n (i + 1)) i)) n) H := hP
                  have hD : va_D A (nt_w 1 h0 q1 q2 q3 cL cI cJ (nt_up (nt_sh f n (i + 1)) (i + 1) ((nt_sh f n (i + 1)) i)) (nt_up (nt_sh g n (i + 1)) (i + 1) ((nt_sh g n (i + 1)) i)) (nt_up (nt_sh h n (i + 1)) (i + 1) ((nt_sh h n (i + 1)) i)) n) := hD
                  refine lv_iinc (k := 5) (v := nI i) (lv' := [(6, .int (nI i)), (0, .ref h0), (1, .long id), (3, .int ix), (4, .int v), (5, .int (nI j))]) hx hb dX1_add_113 hl rfl (by rw [show Int32.ofInt (-1) = -1 by decide]; exact pk_m1 _) (by decide) rfl (fun ls hl => ?_)
                  refine lv_goto (tgt := 58) hx hb dX1_add_116 (by decide) ?_
                  rw [nt_sh_s f hin2, nt_sh_s g hin2, nt_sh_s h hin2] at hP hD
                  exact ih i (by omega) (by omega) ls H locs (lv_sub hl [1, 2, 3, 4, 5, 0] rfl) hP hD hS
            have hP : va_P (dC, dI) vwCl (nt_w 1 h0 q1 q2 q3 cL cI cJ (nt_sh f n n) (nt_sh g n n) (nt_sh h n n) n) H := by rw [nt_sh_0, nt_sh_0, nt_sh_0]; exact hP
            have hD : va_D A (nt_w 1 h0 q1 q2 q3 cL cI cJ (nt_sh f n n) (nt_sh g n n) (nt_sh h n n) n) := by rw [nt_sh_0, nt_sh_0, nt_sh_0]; exact hD
            exact loop (n - j) n (by omega) (Nat.le_refl n) ls H locs (lv_sub hl [2, 3, 4, 5, 1, 0] rfl) hP hD hS
          · have h4 : n = 900 := (nI_eq (by omega) (by omega)).mp h4
            refine lv_bipush (v := -4) hx hb dX1_add_49 (by decide) ?_
            exact W.iret (v := -4) hx hb hr (fun t ht hW => ⟨⟨-4, (f, g, h, n), rfl, nt_add_full hg hat hd h4, by rw [ht]; exact hP, va_K.moved hW.alike hK, hD⟩, hS.F ht⟩) hS.2.2 dX1_add_51
      · refine lv_iconst (v := -1) hx hb dX1_add_15 (by decide) ?_
        exact W.iret (v := -1) hx hb hr (fun t ht hW => ⟨⟨-1, (f, g, h, n), rfl, nt_add_bad (Or.inr (Or.inr (Int32.not_le.mp h3))), by rw [ht]; exact hP, va_K.moved hW.alike hK, hD⟩, hS.F ht⟩) hS.2.2 dX1_add_16
