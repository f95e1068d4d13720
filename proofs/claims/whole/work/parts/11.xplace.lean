set_option maxHeartbeats 4000000 in
set_option maxRecDepth 100000 in
/-- the place of a name, by halving strides -/
theorem kX_placeFor (l : Launch) (dC : Nat → ClassId) (dI : Nat → Nat → Nat) (h0 q1 q2 q3 sz : Nat) (cL cI cJ : ClassId) (f : Nat → Int64) (g h : Nat → Int32) (n : Nat) (id : Int64) (ix : Int32) (hn : n ≤ 900) (hsr : nt_srt (f, g, h, n)) : Met l yX0_placeFor wsX0_placeFor ({ frames := 1, cells := 0, slots := 0, locals := 40 } : Room) (va_Pc [.ref h0, .long id, .int ix] (nt_in dC dI 0 h0 q1 q2 q3 cL cI cJ f g h n sz)) (va_Qi (fun (r : Int32) (u : nt_S) => (∃ pl : Nat, r = nI pl ∧ nt_at (f, g, h, n) (nt_k id ix) pl) ∧ u = (f, g, h, n)) (nt_out dC dI 0 h0 q1 q2 q3 cL cI cJ (va_A (nt_w 0 h0 q1 q2 q3 cL cI cJ f g h n) sz)) (va_A (nt_w 0 h0 q1 q2 q3 cL cI cJ f g h n) sz)) 0 0 (va_A (nt_w 0 h0 q1 q2 q3 cL cI cJ f g h n) sz) := by
  refine Met.ofW (cc := cX0_placeFor) (maxL := 7) (ret := (some .int)) (by decide) rfl ?_
  intro p e s m args below meth c s₁ B hml hv
  obtain ⟨rfl, hsz, hP, hK, hD0⟩ := hv
  have hx := B.exec
  have hb := B.bytes
  have hr := B.returns
  have hts := atoms_spec (ws := wsX0_placeFor) B.pre
  have hown : s.vm.findClass RX0 = some m.cls := findClass_of_methodNamed B.named
  have hlocks := B.notSynchronized
  subst hsz
  have hD := hD0.self (sz := s.heap.size)
  generalize hAe : va_A (nt_w 0 h0 q1 q2 q3 cL cI cJ f g h n) s.heap.size = A at hD ⊢
  have hA : ∀ q : Nat, s.heap.size ≤ q → A q := fun q h => by rw [← hAe]; exact Or.inr h
  have hS : va_S A s.heap s.heap [] := va_S.rf
  have hin : ∀ w ∈ u_ws RX0 TX0 4, w ∈ wsX0_placeFor := by decide +kernel
  have hf3 := hts (.fieldLink RX0 20 "NameTable" "count" "I") (by decide +kernel)
  have hl := lv_entry ([.ref h0, .long id, .int ix]) (n := 7) (Nat.le_of_ble_eq_true rfl)
  rw [lg_entry_eq]
  generalize (lg_sl ([.ref h0, .long id, .int ix]) ++ List.replicate (7 - (lg_sl ([.ref h0, .long id, .int ix])).length) Slot.unset).toArray = ls at hl ⊢
  have hl : lv_has ls 7 [(0, .ref h0), (1, .long id), (3, .int ix)] := hl
  refine lv_iconst (v := nI 0) hx hb dX0_placeFor_0 (by decide) ?_
  refine lv_istore (lv' := [(4, .int (nI 0)), (0, .ref h0), (1, .long id), (3, .int ix)]) hx hb dX0_placeFor_1 hl (by decide) rfl (fun ls hl => ?_)
  refine lv_sipush (v := nI 512) hx hb dX0_placeFor_3 (by decide) ?_
  refine lv_istore (lv' := [(5, .int (nI 512)), (4, .int (nI 0)), (0, .ref h0), (1, .long id), (3, .int ix)]) hx hb dX0_placeFor_6 hl (by decide) rfl (fun ls hl => ?_)
  refine nt_here (fun Q hQ => ?_)
  have loop : ∀ (i : Nat), i ≤ 10 → ∀ (pl : Nat) (ls : Array Slot) (H : Heap) (locs : List Loc), pl ≤ n → (∀ j, j < pl → nt_K (f, g, h, n) j < nt_k id ix) → (∀ j, pl + 2 ^ i - 1 ≤ j → j < n → nt_k id ix ≤ nt_K (f, g, h, n) j) → lv_has ls 7 [(0, .ref h0), (1, .long id), (3, .int ix), (4, .int (nI pl)), (5, .int (nI (2 ^ i / 2)))] → va_P (dC, dI) vwCl (nt_w 0 h0 q1 q2 q3 cL cI cJ f g h n) H → va_D A (nt_w 0 h0 q1 q2 q3 cL cI cJ f g h n) → va_S A s.heap H locs → W p l e ({ frames := 1, cells := 0, slots := 0, locals := 40 } : Room) s m ([.ref h0, .long id, .int ix] : List Value).toArray below meth c H locs 0 0 Q (F0 m 8 ls []) := by
    intro i
    induction i with
    | zero =>
      intro hi pl ls H locs hp1 hp2 hp3 hl hP hD hS
      refine lv_iload hx hb dX0_placeFor_8 (lv_at hl 4 rfl) ?_
      refine lv_if_le (tgt := 55) hx hb dX0_placeFor_10 (by decide) (fun hc => ?_) (fun hc => ?_)
      · refine lv_iload hx hb dX0_placeFor_55 (lv_at hl 3 rfl) ?_
        subst hQ
        exact W.iret (v := nI pl) hx hb hr (fun t ht hW => ⟨⟨nI pl, (f, g, h, n), rfl, ⟨⟨pl, rfl, hp1, hp2, fun h9 => hp3 pl (by simp) h9⟩, rfl⟩, by rw [ht]; exact hP, va_K.moved hW.alike hK, hD⟩, hS.F ht⟩) hS.2.2 dX0_placeFor_57
      · exact absurd (show nI (2 ^ 0 / 2) ≤ 0 by decide) hc
    | succ i ih =>
      intro hi pl ls H locs hp1 hp2 hp3 hl hP hD hS
      have e2 : 2 ^ (i + 1) / 2 = 2 ^ i := by rw [Nat.pow_succ]; omega
      have e3 : 2 ^ (i + 1) = 2 * 2 ^ i := by rw [Nat.pow_succ]; omega
      have hw1 : 1 ≤ 2 ^ i := Nat.one_le_two_pow
      have hw2 : 2 ^ i ≤ 512 := Nat.le_trans (Nat.pow_le_pow_right (by decide) (show i ≤ 9 by omega)) (by decide)
      rw [e2] at hl
      rw [e3] at hp3
      refine lv_iload hx hb dX0_placeFor_8 (lv_at hl 4 rfl) ?_
      refine lv_if_le (tgt := 55) hx hb dX0_placeFor_10 (by decide) (fun h1 => ?_) (fun h1 => ?_)
      · exact absurd h1 (nI_nle (by omega) (by omega))
      · refine lv_iload hx hb dX0_placeFor_13 (lv_at hl 3 rfl) ?_
        refine lv_iload hx hb dX0_placeFor_15 (lv_at hl 4 rfl) ?_
        refine lv_iadd hx hb dX0_placeFor_17 ?_
        refine nt_top (y := nI (pl + 2 ^ i)) (nI_add _ _) ?_
        refine lv_istore (lv' := [(6, .int (nI (pl + 2 ^ i))), (0, .ref h0), (1, .long id), (3, .int ix), (4, .int (nI pl)), (5, .int (nI (2 ^ i)))]) hx hb dX0_placeFor_18 hl (by decide) rfl (fun ls hl => ?_)
        refine lv_iload hx hb dX0_placeFor_20 (lv_at hl 0 rfl) ?_
        refine lv_aload_n hx hb dX0_placeFor_22 rfl (lv_at hl 1 rfl) ?_
        refine va_get (D := (dC, dI)) (ci := 0) (v := .int (nI n)) (C := RX0) (T := TX0) (N := 4) hx hb hts hin hown hK hP 0 rfl rfl 3 (by decide) hf3 (fun _ h9 => h9) rfl dX0_placeFor_23 ?_
        refine lv_icmp_gt (tgt := 46) hx hb dX0_placeFor_26 (by decide) (fun hc => ?_) (fun hc => ?_)
        · have hc : n < pl + 2 ^ i := (nI_ltI (by omega) (by omega)).mp hc
          refine lv_iload hx hb dX0_placeFor_46 (lv_at hl 5 rfl) ?_
          refine lv_iconst (v := 2) hx hb dX0_placeFor_48 (by decide) ?_
          refine lv_idiv hx hb dX0_placeFor_49 (by decide) ?_
          refine nt_top (y := nI (2 ^ i / 2)) (pk_div (a := 2 ^ i) (d := 2) (by omega) (by decide) (by decide)) ?_
          refine lv_istore (lv' := [(5, .int (nI (2 ^ i / 2))), (6, .int (nI (pl + 2 ^ i))), (0, .ref h0), (1, .long id), (3, .int ix), (4, .int (nI pl))]) hx hb dX0_placeFor_50 hl (by decide) rfl (fun ls hl => ?_)
          refine lv_goto (tgt := 8) hx hb dX0_placeFor_52 (by decide) ?_
          exact ih (by omega) pl ls H locs (hp1) (hp2) (fun j h1 h2 => absurd h2 (by omega)) (lv_sub hl [2, 3, 4, 5, 0] rfl) hP hD hS
        · have hc : ¬ n < pl + 2 ^ i := fun h9 => hc ((nI_ltI (by omega) (by omega)).mpr h9)
          refine lv_aload_n hx hb dX0_placeFor_29 rfl (lv_at hl 1 rfl) ?_
          refine lv_iload hx hb dX0_placeFor_30 (lv_at hl 0 rfl) ?_
          refine lv_iconst (v := 1) hx hb dX0_placeFor_32 (by decide) ?_
          refine lv_isub hx hb dX0_placeFor_33 ?_
          refine nt_top (y := nI (pl + 2 ^ i - 1)) (pk_sub (a := pl + 2 ^ i) (b := 1) (by omega)) ?_
          refine lv_lload_n hx hb dX0_placeFor_34 rfl (lv_at hl 2 rfl) ?_
          refine lv_iload_n hx hb dX0_placeFor_35 rfl (lv_at hl 3 rfl) ?_
          refine nt_calli (va_runV (As := [.int (nI (pl + 2 ^ i - 1)), .long id, .int ix]) (rest := []) ⟨hx, hb, hml, hown, hts⟩ (kX_isBefore l dC dI h0 q1 q2 q3 _ cL cI cJ f g h n (pl + 2 ^ i - 1) id ix (by omega)) (cwV 3 hts gX0_placeFor_X0_isBefore rfl rfl rfl (by decide +kernel) ⟨Nat.le_of_ble_eq_true rfl, Nat.le_of_ble_eq_true rfl⟩) (nt_preV rfl hP hK hD [.int (nI (pl + 2 ^ i - 1)), .long id, .int ix]) rfl rfl hl.1 rfl (lv_room (Nat.le_of_ble_eq_true rfl)) dX0_placeFor_36 ⟨Nat.zero_le _, Nat.zero_le _⟩) hP hD hS hA (fun r u H locs hpost hP hD hS => ?_)
          obtain ⟨hpost, rfl⟩ := hpost
          have hP : va_P (dC, dI) vwCl (nt_w 0 h0 q1 q2 q3 cL cI cJ f g h n) H := hP
          have hD : va_D A (nt_w 0 h0 q1 q2 q3 cL cI cJ f g h n) := hD
          rcases hpost with ⟨rfl, hd⟩ | ⟨rfl, hd⟩
          · refine lv_if_eq (tgt := 46) hx hb dX0_placeFor_39 (by decide) (fun h9 => absurd h9 (by decide)) (fun _ => ?_)
            refine lv_iload hx hb dX0_placeFor_42 (lv_at hl 0 rfl) ?_
            refine lv_istore (lv' := [(4, .int (nI (pl + 2 ^ i))), (6, .int (nI (pl + 2 ^ i))), (0, .ref h0), (1, .long id), (3, .int ix), (5, .int (nI (2 ^ i)))]) hx hb dX0_placeFor_44 hl (by decide) rfl (fun ls hl => ?_)
            refine lv_iload hx hb dX0_placeFor_46 (lv_at hl 5 rfl) ?_
            refine lv_iconst (v := 2) hx hb dX0_placeFor_48 (by decide) ?_
            refine lv_idiv hx hb dX0_placeFor_49 (by decide) ?_
            refine nt_top (y := nI (2 ^ i / 2)) (pk_div (a := 2 ^ i) (d := 2) (by omega) (by decide) (by decide)) ?_
            refine lv_istore (lv' := [(5, .int (nI (2 ^ i / 2))), (4, .int (nI (pl + 2 ^ i))), (6, .int (nI (pl + 2 ^ i))), (0, .ref h0), (1, .long id), (3, .int ix)]) hx hb dX0_placeFor_50 hl (by decide) rfl (fun ls hl => ?_)
            refine lv_goto (tgt := 8) hx hb dX0_placeFor_52 (by decide) ?_
            exact ih (by omega) (pl + 2 ^ i) ls H locs (by omega) (fun j h9 => Int.lt_of_le_of_lt (hsr j (pl + 2 ^ i - 1) (by omega) (by show pl + 2 ^ i - 1 < n; omega)) hd) (fun j h1 h2 => hp3 j (by omega) h2) (lv_sub hl [3, 4, 5, 1, 0] rfl) hP hD hS
          · refine lv_if_eq (tgt := 46) hx hb dX0_placeFor_39 (by decide) (fun _ => ?_) (fun h9 => absurd h9 (by decide))
            refine lv_iload hx hb dX0_placeFor_46 (lv_at hl 5 rfl) ?_
            refine lv_iconst (v := 2) hx hb dX0_placeFor_48 (by decide) ?_
            refine lv_idiv hx hb dX0_placeFor_49 (by decide) ?_
            refine nt_top (y := nI (2 ^ i / 2)) (pk_div (a := 2 ^ i) (d := 2) (by omega) (by decide) (by decide)) ?_
            refine lv_istore (lv' := [(5, .int (nI (2 ^ i / 2))), (6, .int (nI (pl + 2 ^ i))), (0, .ref h0), (1, .long id), (3, .int ix), (4, .int (nI pl))]) hx hb dX0_placeFor_50 hl (by decide) rfl (fun ls hl => ?_)
            refine lv_goto (tgt := 8) hx hb dX0_placeFor_52 (by decide) ?_
            exact ih (by omega) pl ls H locs (hp1) (hp2) (fun j h1 h2 => Int.le_trans (Int.not_lt.mp hd) (hsr (pl + 2 ^ i - 1) j (by omega) h2)) (lv_sub hl [2, 3, 4, 5, 0] rfl) hP hD hS
  exact loop 10 (by omega) 0 ls s.heap [] (Nat.zero_le _) (fun j h9 => absurd h9 (Nat.not_lt_zero j)) (fun j h1 h2 => absurd h2 (by omega)) (lv_sub hl [2, 3, 4, 1, 0] rfl) hP hD hS
