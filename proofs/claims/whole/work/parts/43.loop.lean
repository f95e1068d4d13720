set_option maxHeartbeats 4000000 in
set_option maxRecDepth 100000 in
/-- the law's loop: both objects hold the same table, in order -/
theorem lw_loop {p : Program} {e : Env} {s : State} {m : MethodId} {below : List Frame} {meth : Method} {c : Code} (l : Launch) {b L : Nat} {xs : Nat → Int32} (hL : L ≤ 3584) (C0 : lw_At p s m meth c b L xs) {dC : Nat → ClassId} {dI : Nat → Nat → Nat} {h0 q1 q2 q3 j0 k1 k2 k3 : Nat} {cL cI cJ eL eI eJ : ClassId} (hK : va_K (dC, dI) vwCl (nt_ty cL cI cJ ++ nt_ty eL eI eJ) s) {A : Nat → Prop} (hA : ∀ q : Nat, s.heap.size ≤ q → A q) (hA2 : ∀ q : Nat, A q → s.heap.size ≤ q) (hbA : ¬ A b) : ∀ (d i : Nat), L ≤ i + d → i ≤ L → ∀ (u : nt_S) (H : Heap) (locs : List Loc) (ls : Array Slot), nt_ok u → lv_has ls 4 [(0, .ref b), (1, .ref h0), (2, .ref j0), (3, .int (nI i))] → va_P (dC, dI) vwCl (nt_w 0 h0 q1 q2 q3 cL cI cJ u.1 u.2.1 u.2.2.1 u.2.2.2 ++ nt_w 1 j0 k1 k2 k3 eL eI eJ u.1 u.2.1 u.2.2.1 u.2.2.2) H → va_D A (nt_w 0 h0 q1 q2 q3 cL cI cJ u.1 u.2.1 u.2.2.1 u.2.2.2 ++ nt_w 1 j0 k1 k2 k3 eL eI eJ u.1 u.2.1 u.2.2.1 u.2.2.2) → va_S A s.heap H locs → W p l e room_1 s m #[Value.ref b] below meth c H locs 8 5408 (lw_Z below #[Value.ref b] s) (F0 m 18 ls []) := by
  have C1 := C0
  obtain ⟨hx, hb, hr, hml, hown, -, hX, hbl, hlocks, -⟩ := C0
  intro d
  induction d with
  | zero =>
    intro i hd hi u H locs ls hok hl hP hD hS
    have hcmp : (nI L - nI 7 < nI i) ↔ L < i + 7 := by
      rw [Int32.lt_iff_toInt_lt, pk_sub_toInt (by omega) (by omega), nI_toInt (by omega)]
      omega
    refine lv_iload_n hx hb dL_law_18 rfl (lv_at hl 3 rfl) ?_
    refine lv_aload_n hx hb dL_law_19 rfl (lv_at hl 0 rfl) ?_
    refine va_slen hx hb hX hbl hbA hS dL_law_20 ?_
    refine nt_top (y := nI L) rfl ?_
    refine lv_bipush (v := nI 7) hx hb dL_law_21 (by decide) ?_
    refine lv_isub hx hb dL_law_23 ?_
    refine lv_icmp_gt (tgt := 501) hx hb dL_law_24 (by decide) (fun hc => ?_) (fun hc => ?_)
    · refine lv_iconst (v := 1) hx hb dL_law_501 (by decide) ?_
      refine va_forget (fun q hq => hA2 _ (hS.2.2 q hq)) ?_
      refine W.widen (k := 8) (n := 5408) (Nat.le_of_ble_eq_true rfl) (Nat.le_of_ble_eq_true rfl) ?_
      exact lw_ret hx hb hr hlocks dL_law_502
    · exact absurd (hcmp.mpr (by omega)) hc
  | succ d ih =>
    intro i hd hi u H locs ls hok hl hP hD hS
    have hcmp : (nI L - nI 7 < nI i) ↔ L < i + 7 := by
      rw [Int32.lt_iff_toInt_lt, pk_sub_toInt (by omega) (by omega), nI_toInt (by omega)]
      omega
    refine lv_iload_n hx hb dL_law_18 rfl (lv_at hl 3 rfl) ?_
    refine lv_aload_n hx hb dL_law_19 rfl (lv_at hl 0 rfl) ?_
    refine va_slen hx hb hX hbl hbA hS dL_law_20 ?_
    refine nt_top (y := nI L) rfl ?_
    refine lv_bipush (v := nI 7) hx hb dL_law_21 (by decide) ?_
    refine lv_isub hx hb dL_law_23 ?_
    refine lv_icmp_gt (tgt := 501) hx hb dL_law_24 (by decide) (fun hc => ?_) (fun hc => ?_)
    · refine lv_iconst (v := 1) hx hb dL_law_501 (by decide) ?_
      refine va_forget (fun q hq => hA2 _ (hS.2.2 q hq)) ?_
      refine W.widen (k := 8) (n := 5408) (Nat.le_of_ble_eq_true rfl) (Nat.le_of_ble_eq_true rfl) ?_
      exact lw_ret hx hb hr hlocks dL_law_502
    · have hi7 : i + 7 ≤ L := Nat.le_of_not_lt (fun h9 => hc (hcmp.mpr h9))
      have nx : ∀ (u : nt_S) (H : Heap) (locs : List Loc), nt_ok u → va_P (dC, dI) vwCl (nt_w 0 h0 q1 q2 q3 cL cI cJ u.1 u.2.1 u.2.2.1 u.2.2.2 ++ nt_w 1 j0 k1 k2 k3 eL eI eJ u.1 u.2.1 u.2.2.1 u.2.2.2) H → va_D A (nt_w 0 h0 q1 q2 q3 cL cI cJ u.1 u.2.1 u.2.2.1 u.2.2.2 ++ nt_w 1 j0 k1 k2 k3 eL eI eJ u.1 u.2.1 u.2.2.1 u.2.2.2) → va_S A s.heap H locs → W p l e room_1 s m #[Value.ref b] below meth c H locs 8 5408 (lw_Z below #[Value.ref b] s) (F0 m 495 ls []) := by
        intro u H locs hok hP hD hS
        refine lv_iinc (k := 3) (v := nI (i + 7)) (lv' := [(3, .int (nI (i + 7))), (0, .ref b), (1, .ref h0), (2, .ref j0)]) hx hb dL_law_495 hl rfl (by rw [show Int32.ofInt 7 = nI 7 by decide]; exact nI_add i 7) (by decide) rfl (fun ls hl => ?_)
        refine lv_goto (tgt := 18) hx hb dL_law_498 (by decide) ?_
        exact ih (i + 7) (by omega) (by omega) u H locs ls hok (lv_sub hl [1, 2, 3, 0] rfl) hP hD hS
      refine lv_aload_n hx hb dL_law_27 rfl (lv_at hl 0 rfl) ?_
      refine lv_iload_n hx hb dL_law_28 rfl (lv_at hl 3 rfl) ?_
      refine nt_sld hx hb hX hbl hbA hS (j := i) (by omega) hL dL_law_29 ?_
      obtain ⟨j, hj, hje⟩ := pk_andE (xs i) (m := 15) 4 (by decide)
      refine lv_bipush (v := 15) hx hb dL_law_30 (by decide) ?_
      refine lv_iand hx hb dL_law_32 ?_
      refine nt_top (y := nI j) hje ?_
      obtain ⟨f, g, h, n⟩ := u
      have hcs : j = 0 ∨ j = 1 ∨ j = 2 ∨ j = 3 ∨ j = 4 ∨ j = 5 ∨ j = 6 ∨ j = 7 ∨ j = 8 ∨ 9 ≤ j := by omega
      rcases hcs with rfl | rfl | rfl | rfl | rfl | rfl | rfl | rfl | rfl | h9
      · refine lv_tableIn (off := 51) (tgt := 84) hx hb dL_law_33 (by decide) (by decide) (by decide) (by decide) ?_
        exact lc_0 l hL C1 hok hK hA hbA hi7 hl hP hD hS nx
      · refine lv_tableIn (off := 124) (tgt := 157) hx hb dL_law_33 (by decide) (by decide) (by decide) (by decide) ?_
        exact lc_1 l hL C1 hok hK hA hbA hi7 hl hP hD hS nx
      · refine lv_tableIn (off := 239) (tgt := 272) hx hb dL_law_33 (by decide) (by decide) (by decide) (by decide) ?_
        exact lc_2 l hL C1 hok hK hA hbA hi7 hl hP hD hS nx
      · refine lv_tableIn (off := 302) (tgt := 335) hx hb dL_law_33 (by decide) (by decide) (by decide) (by decide) ?_
        exact lc_3 l hL C1 hok hK hA hbA hi7 hl hP hD hS nx
      · refine lv_tableIn (off := 325) (tgt := 358) hx hb dL_law_33 (by decide) (by decide) (by decide) (by decide) ?_
        exact lc_4 l hL C1 hok hK hA hbA hi7 hl hP hD hS nx
      · refine lv_tableIn (off := 388) (tgt := 421) hx hb dL_law_33 (by decide) (by decide) (by decide) (by decide) ?_
        exact lc_5 l hL C1 hok hK hA hbA hi7 hl hP hD hS nx
      · refine lv_tableIn (off := 412) (tgt := 445) hx hb dL_law_33 (by decide) (by decide) (by decide) (by decide) ?_
        exact lc_6 l hL C1 hok hK hA hbA hi7 hl hP hD hS nx
      · refine lv_tableIn (off := 435) (tgt := 468) hx hb dL_law_33 (by decide) (by decide) (by decide) (by decide) ?_
        exact lc_7 l hL C1 hok hK hA hbA hi7 hl hP hD hS nx
      · refine lv_tableIn (off := 448) (tgt := 481) hx hb dL_law_33 (by decide) (by decide) (by decide) (by decide) ?_
        exact lc_8 l hL C1 hok hK hA hbA hi7 hl hP hD hS nx
      · refine lv_tableOut (tgt := 495) hx hb dL_law_33 (Or.inr (by rw [nI_toInt (by omega)]; omega)) (by decide) ?_
        exact nx (f, g, h, n) H locs hok hP hD hS
