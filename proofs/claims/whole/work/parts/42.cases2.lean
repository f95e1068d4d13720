set_option maxHeartbeats 4000000 in
set_option maxRecDepth 100000 in
theorem lc_2 {p : Program} {e : Env} {s : State} {m : MethodId} {below : List Frame} {meth : Method} {c : Code} (l : Launch) {b L : Nat} {xs : Nat → Int32} (hL : L ≤ 3584) (C0 : lw_At p s m meth c b L xs) {dC : Nat → ClassId} {dI : Nat → Nat → Nat} {h0 q1 q2 q3 j0 k1 k2 k3 : Nat} {cL cI cJ eL eI eJ : ClassId} {f : Nat → Int64} {g h : Nat → Int32} {n : Nat} (hok : nt_ok (f, g, h, n)) (hK : va_K (dC, dI) vwCl (nt_ty cL cI cJ ++ nt_ty eL eI eJ) s) {A : Nat → Prop} (hA : ∀ q : Nat, s.heap.size ≤ q → A q) (hbA : ¬ A b) {H : Heap} {locs : List Loc} {ls : Array Slot} {i : Nat} (hi : i + 7 ≤ L) (hl : lv_has ls 4 [(0, .ref b), (1, .ref h0), (2, .ref j0), (3, .int (nI i))]) (hP : va_P (dC, dI) vwCl (nt_w 0 h0 q1 q2 q3 cL cI cJ f g h n ++ nt_w 1 j0 k1 k2 k3 eL eI eJ f g h n) H) (hD : va_D A (nt_w 0 h0 q1 q2 q3 cL cI cJ f g h n ++ nt_w 1 j0 k1 k2 k3 eL eI eJ f g h n)) (hS : va_S A s.heap H locs) {Q : State → Prop} (nx : ∀ (u : nt_S) (H : Heap) (locs : List Loc), nt_ok u → va_P (dC, dI) vwCl (nt_w 0 h0 q1 q2 q3 cL cI cJ u.1 u.2.1 u.2.2.1 u.2.2.2 ++ nt_w 1 j0 k1 k2 k3 eL eI eJ u.1 u.2.1 u.2.2.1 u.2.2.2) H → va_D A (nt_w 0 h0 q1 q2 q3 cL cI cJ u.1 u.2.1 u.2.2.1 u.2.2.2 ++ nt_w 1 j0 k1 k2 k3 eL eI eJ u.1 u.2.1 u.2.2.1 u.2.2.2) → va_S A s.heap H locs → W p l e room_1 s m #[Value.ref b] below meth c H locs 8 5408 Q (F0 m 495 ls [])) : W p l e room_1 s m #[Value.ref b] below meth c H locs 8 5408 Q (F0 m 272 ls []) := by
  obtain ⟨hx, hb, -, hml, hown, hts, hX, hbl, -, -⟩ := C0
  have hts := fun w h => hts w (wsL_law_in w h)
  have hn : n ≤ 900 := hok.1
  have hKX : va_K (dC, dI) vwCl (nt_ty cL cI cJ) s := hK.sub [0, 1, 2] rfl
  have hKM : va_K (dC, dI) vwCl (nt_ty eL eI eJ) s := hK.sub [3, 4, 5] rfl
  have hc13 := hts (.constantLong RL 13 4294967295) (by decide +kernel)
  refine lv_aload_n hx hb dL_law_272 rfl (lv_at hl 1 rfl) ?_
  refine lv_aload_n hx hb dL_law_273 rfl (lv_at hl 0 rfl) ?_
  refine lv_iload_n hx hb dL_law_274 rfl (lv_at hl 3 rfl) ?_
  refine lv_iconst (v := nI 1) hx hb dL_law_275 (by decide) ?_
  refine lv_iadd hx hb dL_law_276 ?_
  refine nt_top (y := nI (i + 1)) (nI_add i 1) ?_
  refine nt_sld hx hb hX hbl hbA hS (j := (i + 1)) (by omega) hL dL_law_277 ?_
  refine lv_i2l (v := (xs (i + 1)).toInt64) hx hb dL_law_278 rfl ?_
  refine lv_bipush (v := 32) hx hb dL_law_279 (by decide) ?_
  refine lv_lshl (v := ((xs (i + 1)).toInt64) <<< ((32 : Int32).toInt64 &&& 63)) hx hb dL_law_281 rfl ?_
  refine lv_aload_n hx hb dL_law_282 rfl (lv_at hl 0 rfl) ?_
  refine lv_iload_n hx hb dL_law_283 rfl (lv_at hl 3 rfl) ?_
  refine lv_iconst (v := nI 2) hx hb dL_law_284 (by decide) ?_
  refine lv_iadd hx hb dL_law_285 ?_
  refine nt_top (y := nI (i + 2)) (nI_add i 2) ?_
  refine nt_sld hx hb hX hbl hbA hS (j := (i + 2)) (by omega) hL dL_law_286 ?_
  refine lv_i2l (v := (xs (i + 2)).toInt64) hx hb dL_law_287 rfl ?_
  refine lv_ldc2 (v := 4294967295) hx hb hown hc13 dL_law_288 ?_
  refine lv_land hx hb dL_law_291 ?_
  refine lv_lor hx hb dL_law_292 ?_
  refine lv_aload_n hx hb dL_law_293 rfl (lv_at hl 0 rfl) ?_
  refine lv_iload_n hx hb dL_law_294 rfl (lv_at hl 3 rfl) ?_
  refine lv_iconst (v := nI 3) hx hb dL_law_295 (by decide) ?_
  refine lv_iadd hx hb dL_law_296 ?_
  refine nt_top (y := nI (i + 3)) (nI_add i 3) ?_
  refine nt_sld hx hb hX hbl hbA hS (j := (i + 3)) (by omega) hL dL_law_297 ?_
  have hPc : va_P (dC, dI) vwCl (nt_w 0 h0 q1 q2 q3 cL cI cJ f g h n) H := hP.sub [0, 1, 2, 3] rfl
  have hDc : va_D A (nt_w 0 h0 q1 q2 q3 cL cI cJ f g h n) := hD.sub [0, 1, 2, 3] (by decide) rfl
  refine nt_calli2 (va_runV (As := [.long ((((xs (i + 1)).toInt64) <<< ((32 : Int32).toInt64 &&& 63)) ||| (((xs (i + 2)).toInt64) &&& 4294967295)), .int (xs (i + 3))]) (rest := []) ⟨hx, hb, hml, hown, hts⟩ (kX_remove l dC dI h0 q1 q2 q3 _ cL cI cJ f g h n ((((xs (i + 1)).toInt64) <<< ((32 : Int32).toInt64 &&& 63)) ||| (((xs (i + 2)).toInt64) &&& 4294967295)) (xs (i + 3)) hok) (cwV 2 hts gL_law_X0_remove rfl rfl rfl (by decide +kernel) ⟨Nat.le_of_ble_eq_true rfl, Nat.le_of_ble_eq_true rfl⟩) (nt_preV rfl hPc hKX hDc [.long ((((xs (i + 1)).toInt64) <<< ((32 : Int32).toInt64 &&& 63)) ||| (((xs (i + 2)).toInt64) &&& 4294967295)), .int (xs (i + 3))]) rfl rfl hl.1 rfl (lv_room (Nat.le_of_ble_eq_true rfl)) dL_law_298 ⟨Nat.le_of_ble_eq_true rfl, Nat.le_of_ble_eq_true rfl⟩) hP hD hS hA (fun r1 u1 H locs hp1 hP hD hS => ?_)
  refine lv_aload_n hx hb dL_law_301 rfl (lv_at hl 2 rfl) ?_
  refine lv_aload_n hx hb dL_law_302 rfl (lv_at hl 0 rfl) ?_
  refine lv_iload_n hx hb dL_law_303 rfl (lv_at hl 3 rfl) ?_
  refine lv_iconst (v := nI 1) hx hb dL_law_304 (by decide) ?_
  refine lv_iadd hx hb dL_law_305 ?_
  refine nt_top (y := nI (i + 1)) (nI_add i 1) ?_
  refine nt_sld hx hb hX hbl hbA hS (j := (i + 1)) (by omega) hL dL_law_306 ?_
  refine lv_i2l (v := (xs (i + 1)).toInt64) hx hb dL_law_307 rfl ?_
  refine lv_bipush (v := 32) hx hb dL_law_308 (by decide) ?_
  refine lv_lshl (v := ((xs (i + 1)).toInt64) <<< ((32 : Int32).toInt64 &&& 63)) hx hb dL_law_310 rfl ?_
  refine lv_aload_n hx hb dL_law_311 rfl (lv_at hl 0 rfl) ?_
  refine lv_iload_n hx hb dL_law_312 rfl (lv_at hl 3 rfl) ?_
  refine lv_iconst (v := nI 2) hx hb dL_law_313 (by decide) ?_
  refine lv_iadd hx hb dL_law_314 ?_
  refine nt_top (y := nI (i + 2)) (nI_add i 2) ?_
  refine nt_sld hx hb hX hbl hbA hS (j := (i + 2)) (by omega) hL dL_law_315 ?_
  refine lv_i2l (v := (xs (i + 2)).toInt64) hx hb dL_law_316 rfl ?_
  refine lv_ldc2 (v := 4294967295) hx hb hown hc13 dL_law_317 ?_
  refine lv_land hx hb dL_law_320 ?_
  refine lv_lor hx hb dL_law_321 ?_
  refine lv_aload_n hx hb dL_law_322 rfl (lv_at hl 0 rfl) ?_
  refine lv_iload_n hx hb dL_law_323 rfl (lv_at hl 3 rfl) ?_
  refine lv_iconst (v := nI 3) hx hb dL_law_324 (by decide) ?_
  refine lv_iadd hx hb dL_law_325 ?_
  refine nt_top (y := nI (i + 3)) (nI_add i 3) ?_
  refine nt_sld hx hb hX hbl hbA hS (j := (i + 3)) (by omega) hL dL_law_326 ?_
  have hPc : va_P (dC, dI) vwCl (nt_w 1 j0 k1 k2 k3 eL eI eJ f g h n) H := hP.sub [0, 1, 2, 3] rfl
  have hDc : va_D A (nt_w 1 j0 k1 k2 k3 eL eI eJ f g h n) := hD.sub [0, 1, 2, 3] (by decide) rfl
  refine nt_calli2 (va_runV (As := [.long ((((xs (i + 1)).toInt64) <<< ((32 : Int32).toInt64 &&& 63)) ||| (((xs (i + 2)).toInt64) &&& 4294967295)), .int (xs (i + 3))]) (rest := [.int r1]) ⟨hx, hb, hml, hown, hts⟩ (kM_remove l dC dI j0 k1 k2 k3 _ eL eI eJ f g h n ((((xs (i + 1)).toInt64) <<< ((32 : Int32).toInt64 &&& 63)) ||| (((xs (i + 2)).toInt64) &&& 4294967295)) (xs (i + 3)) hok) (cwV 2 hts gL_law_X1_remove rfl rfl rfl (by decide +kernel) ⟨Nat.le_of_ble_eq_true rfl, Nat.le_of_ble_eq_true rfl⟩) (nt_preV rfl hPc hKM hDc [.long ((((xs (i + 1)).toInt64) <<< ((32 : Int32).toInt64 &&& 63)) ||| (((xs (i + 2)).toInt64) &&& 4294967295)), .int (xs (i + 3))]) rfl rfl hl.1 rfl (lv_room (Nat.le_of_ble_eq_true rfl)) dL_law_327 ⟨Nat.le_of_ble_eq_true rfl, Nat.le_of_ble_eq_true rfl⟩) hP hD hS hA (fun r2 u2 H locs hp2 hP hD hS => ?_)
  obtain ⟨rfl, rfl⟩ := Prod.mk.inj (hp1.trans hp2.symm)
  have hok2 : nt_ok u1 := by
    have h9 : u1 = (nt_rem (f, g, h, n) ((((xs (i + 1)).toInt64) <<< ((32 : Int32).toInt64 &&& 63)) ||| (((xs (i + 2)).toInt64) &&& 4294967295)) (xs (i + 3))).2 := congrArg Prod.snd hp1
    rw [h9]
    exact nt_rem_ok hok ((((xs (i + 1)).toInt64) <<< ((32 : Int32).toInt64 &&& 63)) ||| (((xs (i + 2)).toInt64) &&& 4294967295)) (xs (i + 3))
  refine lv_icmp_eq (tgt := 495) hx hb dL_law_330 (by decide) (fun _ => ?_) (fun h9 => absurd rfl h9)
  exact nx u1 H locs hok2 hP hD hS
set_option maxHeartbeats 4000000 in
set_option maxRecDepth 100000 in
theorem lc_3 {p : Program} {e : Env} {s : State} {m : MethodId} {below : List Frame} {meth : Method} {c : Code} (l : Launch) {b L : Nat} {xs : Nat → Int32} (hL : L ≤ 3584) (C0 : lw_At p s m meth c b L xs) {dC : Nat → ClassId} {dI : Nat → Nat → Nat} {h0 q1 q2 q3 j0 k1 k2 k3 : Nat} {cL cI cJ eL eI eJ : ClassId} {f : Nat → Int64} {g h : Nat → Int32} {n : Nat} (hok : nt_ok (f, g, h, n)) (hK : va_K (dC, dI) vwCl (nt_ty cL cI cJ ++ nt_ty eL eI eJ) s) {A : Nat → Prop} (hA : ∀ q : Nat, s.heap.size ≤ q → A q) (hbA : ¬ A b) {H : Heap} {locs : List Loc} {ls : Array Slot} {i : Nat} (hi : i + 7 ≤ L) (hl : lv_has ls 4 [(0, .ref b), (1, .ref h0), (2, .ref j0), (3, .int (nI i))]) (hP : va_P (dC, dI) vwCl (nt_w 0 h0 q1 q2 q3 cL cI cJ f g h n ++ nt_w 1 j0 k1 k2 k3 eL eI eJ f g h n) H) (hD : va_D A (nt_w 0 h0 q1 q2 q3 cL cI cJ f g h n ++ nt_w 1 j0 k1 k2 k3 eL eI eJ f g h n)) (hS : va_S A s.heap H locs) {Q : State → Prop} (nx : ∀ (u : nt_S) (H : Heap) (locs : List Loc), nt_ok u → va_P (dC, dI) vwCl (nt_w 0 h0 q1 q2 q3 cL cI cJ u.1 u.2.1 u.2.2.1 u.2.2.2 ++ nt_w 1 j0 k1 k2 k3 eL eI eJ u.1 u.2.1 u.2.2.1 u.2.2.2) H → va_D A (nt_w 0 h0 q1 q2 q3 cL cI cJ u.1 u.2.1 u.2.2.1 u.2.2.2 ++ nt_w 1 j0 k1 k2 k3 eL eI eJ u.1 u.2.1 u.2.2.1 u.2.2.2) → va_S A s.heap H locs → W p l e room_1 s m #[Value.ref b] below meth c H locs 8 5408 Q (F0 m 495 ls [])) : W p l e room_1 s m #[Value.ref b] below meth c H locs 8 5408 Q (F0 m 335 ls []) := by
  obtain ⟨hx, hb, -, hml, hown, hts, hX, hbl, -, -⟩ := C0
  have hts := fun w h => hts w (wsL_law_in w h)
  have hn : n ≤ 900 := hok.1
  have hKX : va_K (dC, dI) vwCl (nt_ty cL cI cJ) s := hK.sub [0, 1, 2] rfl
  have hKM : va_K (dC, dI) vwCl (nt_ty eL eI eJ) s := hK.sub [3, 4, 5] rfl
  refine lv_aload_n hx hb dL_law_335 rfl (lv_at hl 1 rfl) ?_
  refine lv_aload_n hx hb dL_law_336 rfl (lv_at hl 0 rfl) ?_
  refine lv_iload_n hx hb dL_law_337 rfl (lv_at hl 3 rfl) ?_
  refine lv_iconst (v := nI 1) hx hb dL_law_338 (by decide) ?_
  refine lv_iadd hx hb dL_law_339 ?_
  refine nt_top (y := nI (i + 1)) (nI_add i 1) ?_
  refine nt_sld hx hb hX hbl hbA hS (j := (i + 1)) (by omega) hL dL_law_340 ?_
  have hPc : va_P (dC, dI) vwCl (nt_w 0 h0 q1 q2 q3 cL cI cJ f g h n) H := hP.sub [0, 1, 2, 3] rfl
  have hDc : va_D A (nt_w 0 h0 q1 q2 q3 cL cI cJ f g h n) := hD.sub [0, 1, 2, 3] (by decide) rfl
  refine nt_calli2 (va_runV (As := [.int (xs (i + 1))]) (rest := []) ⟨hx, hb, hml, hown, hts⟩ (kX_take l dC dI h0 q1 q2 q3 _ cL cI cJ f g h n (xs (i + 1)) hn) (cwV 1 hts gL_law_X0_take rfl rfl rfl (by decide +kernel) ⟨Nat.le_of_ble_eq_true rfl, Nat.le_of_ble_eq_true rfl⟩) (nt_preV rfl hPc hKX hDc [.int (xs (i + 1))]) rfl rfl hl.1 rfl (lv_room (Nat.le_of_ble_eq_true rfl)) dL_law_341 ⟨Nat.le_of_ble_eq_true rfl, Nat.le_of_ble_eq_true rfl⟩) hP hD hS hA (fun r1 u1 H locs hp1 hP hD hS => ?_)
  refine lv_aload_n hx hb dL_law_344 rfl (lv_at hl 2 rfl) ?_
  refine lv_aload_n hx hb dL_law_345 rfl (lv_at hl 0 rfl) ?_
  refine lv_iload_n hx hb dL_law_346 rfl (lv_at hl 3 rfl) ?_
  refine lv_iconst (v := nI 1) hx hb dL_law_347 (by decide) ?_
  refine lv_iadd hx hb dL_law_348 ?_
  refine nt_top (y := nI (i + 1)) (nI_add i 1) ?_
  refine nt_sld hx hb hX hbl hbA hS (j := (i + 1)) (by omega) hL dL_law_349 ?_
  have hPc : va_P (dC, dI) vwCl (nt_w 1 j0 k1 k2 k3 eL eI eJ f g h n) H := hP.sub [0, 1, 2, 3] rfl
  have hDc : va_D A (nt_w 1 j0 k1 k2 k3 eL eI eJ f g h n) := hD.sub [0, 1, 2, 3] (by decide) rfl
  refine nt_calli2 (va_runV (As := [.int (xs (i + 1))]) (rest := [.int r1]) ⟨hx, hb, hml, hown, hts⟩ (kM_take l dC dI j0 k1 k2 k3 _ eL eI eJ f g h n (xs (i + 1)) hn) (cwV 1 hts gL_law_X1_take rfl rfl rfl (by decide +kernel) ⟨Nat.le_of_ble_eq_true rfl, Nat.le_of_ble_eq_true rfl⟩) (nt_preV rfl hPc hKM hDc [.int (xs (i + 1))]) rfl rfl hl.1 rfl (lv_room (Nat.le_of_ble_eq_true rfl)) dL_law_350 ⟨Nat.le_of_ble_eq_true rfl, Nat.le_of_ble_eq_true rfl⟩) hP hD hS hA (fun r2 u2 H locs hp2 hP hD hS => ?_)
  obtain ⟨rfl, rfl⟩ := Prod.mk.inj (hp1.trans hp2.symm)
  have hok2 : nt_ok u1 := by
    have h9 : u1 = (nt_take (f, g, h, n) (xs (i + 1))).2 := congrArg Prod.snd hp1
    rw [h9]
    exact nt_take_ok hok (xs (i + 1))
  refine lv_icmp_eq (tgt := 495) hx hb dL_law_353 (by decide) (fun _ => ?_) (fun h9 => absurd rfl h9)
  exact nx u1 H locs hok2 hP hD hS
set_option maxHeartbeats 4000000 in
set_option maxRecDepth 100000 in
theorem lc_4 {p : Program} {e : Env} {s : State} {m : MethodId} {below : List Frame} {meth : Method} {c : Code} (l : Launch) {b L : Nat} {xs : Nat → Int32} (hL : L ≤ 3584) (C0 : lw_At p s m meth c b L xs) {dC : Nat → ClassId} {dI : Nat → Nat → Nat} {h0 q1 q2 q3 j0 k1 k2 k3 : Nat} {cL cI cJ eL eI eJ : ClassId} {f : Nat → Int64} {g h : Nat → Int32} {n : Nat} (hok : nt_ok (f, g, h, n)) (hK : va_K (dC, dI) vwCl (nt_ty cL cI cJ ++ nt_ty eL eI eJ) s) {A : Nat → Prop} (hA : ∀ q : Nat, s.heap.size ≤ q → A q) (hbA : ¬ A b) {H : Heap} {locs : List Loc} {ls : Array Slot} {i : Nat} (hi : i + 7 ≤ L) (hl : lv_has ls 4 [(0, .ref b), (1, .ref h0), (2, .ref j0), (3, .int (nI i))]) (hP : va_P (dC, dI) vwCl (nt_w 0 h0 q1 q2 q3 cL cI cJ f g h n ++ nt_w 1 j0 k1 k2 k3 eL eI eJ f g h n) H) (hD : va_D A (nt_w 0 h0 q1 q2 q3 cL cI cJ f g h n ++ nt_w 1 j0 k1 k2 k3 eL eI eJ f g h n)) (hS : va_S A s.heap H locs) {Q : State → Prop} (nx : ∀ (u : nt_S) (H : Heap) (locs : List Loc), nt_ok u → va_P (dC, dI) vwCl (nt_w 0 h0 q1 q2 q3 cL cI cJ u.1 u.2.1 u.2.2.1 u.2.2.2 ++ nt_w 1 j0 k1 k2 k3 eL eI eJ u.1 u.2.1 u.2.2.1 u.2.2.2) H → va_D A (nt_w 0 h0 q1 q2 q3 cL cI cJ u.1 u.2.1 u.2.2.1 u.2.2.2 ++ nt_w 1 j0 k1 k2 k3 eL eI eJ u.1 u.2.1 u.2.2.1 u.2.2.2) → va_S A s.heap H locs → W p l e room_1 s m #[Value.ref b] below meth c H locs 8 5408 Q (F0 m 495 ls [])) : W p l e room_1 s m #[Value.ref b] below meth c H locs 8 5408 Q (F0 m 358 ls []) := by
  obtain ⟨hx, hb, -, hml, hown, hts, hX, hbl, -, -⟩ := C0
  have hts := fun w h => hts w (wsL_law_in w h)
  have hn : n ≤ 900 := hok.1
  have hKX : va_K (dC, dI) vwCl (nt_ty cL cI cJ) s := hK.sub [0, 1, 2] rfl
  have hKM : va_K (dC, dI) vwCl (nt_ty eL eI eJ) s := hK.sub [3, 4, 5] rfl
  have hc13 := hts (.constantLong RL 13 4294967295) (by decide +kernel)
  refine lv_aload_n hx hb dL_law_358 rfl (lv_at hl 1 rfl) ?_
  refine lv_aload_n hx hb dL_law_359 rfl (lv_at hl 0 rfl) ?_
  refine lv_iload_n hx hb dL_law_360 rfl (lv_at hl 3 rfl) ?_
  refine lv_iconst (v := nI 1) hx hb dL_law_361 (by decide) ?_
  refine lv_iadd hx hb dL_law_362 ?_
  refine nt_top (y := nI (i + 1)) (nI_add i 1) ?_
  refine nt_sld hx hb hX hbl hbA hS (j := (i + 1)) (by omega) hL dL_law_363 ?_
  refine lv_i2l (v := (xs (i + 1)).toInt64) hx hb dL_law_364 rfl ?_
  refine lv_bipush (v := 32) hx hb dL_law_365 (by decide) ?_
  refine lv_lshl (v := ((xs (i + 1)).toInt64) <<< ((32 : Int32).toInt64 &&& 63)) hx hb dL_law_367 rfl ?_
  refine lv_aload_n hx hb dL_law_368 rfl (lv_at hl 0 rfl) ?_
  refine lv_iload_n hx hb dL_law_369 rfl (lv_at hl 3 rfl) ?_
  refine lv_iconst (v := nI 2) hx hb dL_law_370 (by decide) ?_
  refine lv_iadd hx hb dL_law_371 ?_
  refine nt_top (y := nI (i + 2)) (nI_add i 2) ?_
  refine nt_sld hx hb hX hbl hbA hS (j := (i + 2)) (by omega) hL dL_law_372 ?_
  refine lv_i2l (v := (xs (i + 2)).toInt64) hx hb dL_law_373 rfl ?_
  refine lv_ldc2 (v := 4294967295) hx hb hown hc13 dL_law_374 ?_
  refine lv_land hx hb dL_law_377 ?_
  refine lv_lor hx hb dL_law_378 ?_
  refine lv_aload_n hx hb dL_law_379 rfl (lv_at hl 0 rfl) ?_
  refine lv_iload_n hx hb dL_law_380 rfl (lv_at hl 3 rfl) ?_
  refine lv_iconst (v := nI 3) hx hb dL_law_381 (by decide) ?_
  refine lv_iadd hx hb dL_law_382 ?_
  refine nt_top (y := nI (i + 3)) (nI_add i 3) ?_
  refine nt_sld hx hb hX hbl hbA hS (j := (i + 3)) (by omega) hL dL_law_383 ?_
  have hPc : va_P (dC, dI) vwCl (nt_w 0 h0 q1 q2 q3 cL cI cJ f g h n) H := hP.sub [0, 1, 2, 3] rfl
  have hDc : va_D A (nt_w 0 h0 q1 q2 q3 cL cI cJ f g h n) := hD.sub [0, 1, 2, 3] (by decide) rfl
  refine nt_calli2 (va_runV (As := [.long ((((xs (i + 1)).toInt64) <<< ((32 : Int32).toInt64 &&& 63)) ||| (((xs (i + 2)).toInt64) &&& 4294967295)), .int (xs (i + 3))]) (rest := []) ⟨hx, hb, hml, hown, hts⟩ (kX_get l dC dI h0 q1 q2 q3 _ cL cI cJ f g h n ((((xs (i + 1)).toInt64) <<< ((32 : Int32).toInt64 &&& 63)) ||| (((xs (i + 2)).toInt64) &&& 4294967295)) (xs (i + 3)) hok) (cwV 2 hts gL_law_X0_get rfl rfl rfl (by decide +kernel) ⟨Nat.le_of_ble_eq_true rfl, Nat.le_of_ble_eq_true rfl⟩) (nt_preV rfl hPc hKX hDc [.long ((((xs (i + 1)).toInt64) <<< ((32 : Int32).toInt64 &&& 63)) ||| (((xs (i + 2)).toInt64) &&& 4294967295)), .int (xs (i + 3))]) rfl rfl hl.1 rfl (lv_room (Nat.le_of_ble_eq_true rfl)) dL_law_384 ⟨Nat.le_of_ble_eq_true rfl, Nat.le_of_ble_eq_true rfl⟩) hP hD hS hA (fun r1 u1 H locs hp1 hP hD hS => ?_)
  refine lv_aload_n hx hb dL_law_387 rfl (lv_at hl 2 rfl) ?_
  refine lv_aload_n hx hb dL_law_388 rfl (lv_at hl 0 rfl) ?_
  refine lv_iload_n hx hb dL_law_389 rfl (lv_at hl 3 rfl) ?_
  refine lv_iconst (v := nI 1) hx hb dL_law_390 (by decide) ?_
  refine lv_iadd hx hb dL_law_391 ?_
  refine nt_top (y := nI (i + 1)) (nI_add i 1) ?_
  refine nt_sld hx hb hX hbl hbA hS (j := (i + 1)) (by omega) hL dL_law_392 ?_
  refine lv_i2l (v := (xs (i + 1)).toInt64) hx hb dL_law_393 rfl ?_
  refine lv_bipush (v := 32) hx hb dL_law_394 (by decide) ?_
  refine lv_lshl (v := ((xs (i + 1)).toInt64) <<< ((32 : Int32).toInt64 &&& 63)) hx hb dL_law_396 rfl ?_
  refine lv_aload_n hx hb dL_law_397 rfl (lv_at hl 0 rfl) ?_
  refine lv_iload_n hx hb dL_law_398 rfl (lv_at hl 3 rfl) ?_
  refine lv_iconst (v := nI 2) hx hb dL_law_399 (by decide) ?_
  refine lv_iadd hx hb dL_law_400 ?_
  refine nt_top (y := nI (i + 2)) (nI_add i 2) ?_
  refine nt_sld hx hb hX hbl hbA hS (j := (i + 2)) (by omega) hL dL_law_401 ?_
  refine lv_i2l (v := (xs (i + 2)).toInt64) hx hb dL_law_402 rfl ?_
  refine lv_ldc2 (v := 4294967295) hx hb hown hc13 dL_law_403 ?_
  refine lv_land hx hb dL_law_406 ?_
  refine lv_lor hx hb dL_law_407 ?_
  refine lv_aload_n hx hb dL_law_408 rfl (lv_at hl 0 rfl) ?_
  refine lv_iload_n hx hb dL_law_409 rfl (lv_at hl 3 rfl) ?_
  refine lv_iconst (v := nI 3) hx hb dL_law_410 (by decide) ?_
  refine lv_iadd hx hb dL_law_411 ?_
  refine nt_top (y := nI (i + 3)) (nI_add i 3) ?_
  refine nt_sld hx hb hX hbl hbA hS (j := (i + 3)) (by omega) hL dL_law_412 ?_
  have hPc : va_P (dC, dI) vwCl (nt_w 1 j0 k1 k2 k3 eL eI eJ f g h n) H := hP.sub [0, 1, 2, 3] rfl
  have hDc : va_D A (nt_w 1 j0 k1 k2 k3 eL eI eJ f g h n) := hD.sub [0, 1, 2, 3] (by decide) rfl
  refine nt_calli2 (va_runV (As := [.long ((((xs (i + 1)).toInt64) <<< ((32 : Int32).toInt64 &&& 63)) ||| (((xs (i + 2)).toInt64) &&& 4294967295)), .int (xs (i + 3))]) (rest := [.int r1]) ⟨hx, hb, hml, hown, hts⟩ (kM_get l dC dI j0 k1 k2 k3 _ eL eI eJ f g h n ((((xs (i + 1)).toInt64) <<< ((32 : Int32).toInt64 &&& 63)) ||| (((xs (i + 2)).toInt64) &&& 4294967295)) (xs (i + 3)) hok) (cwV 2 hts gL_law_X1_get rfl rfl rfl (by decide +kernel) ⟨Nat.le_of_ble_eq_true rfl, Nat.le_of_ble_eq_true rfl⟩) (nt_preV rfl hPc hKM hDc [.long ((((xs (i + 1)).toInt64) <<< ((32 : Int32).toInt64 &&& 63)) ||| (((xs (i + 2)).toInt64) &&& 4294967295)), .int (xs (i + 3))]) rfl rfl hl.1 rfl (lv_room (Nat.le_of_ble_eq_true rfl)) dL_law_413 ⟨Nat.le_of_ble_eq_true rfl, Nat.le_of_ble_eq_true rfl⟩) hP hD hS hA (fun r2 u2 H locs hp2 hP hD hS => ?_)
  obtain ⟨e1, rfl⟩ := hp1
  obtain ⟨e2, rfl⟩ := hp2
  obtain rfl := e1.trans e2.symm
  refine lv_icmp_eq (tgt := 495) hx hb dL_law_416 (by decide) (fun _ => ?_) (fun h9 => absurd rfl h9)
  exact nx (f, g, h, n) H locs hok hP hD hS
set_option maxHeartbeats 4000000 in
set_option maxRecDepth 100000 in
theorem lc_5 {p : Program} {e : Env} {s : State} {m : MethodId} {below : List Frame} {meth : Method} {c : Code} (l : Launch) {b L : Nat} {xs : Nat → Int32} (hL : L ≤ 3584) (C0 : lw_At p s m meth c b L xs) {dC : Nat → ClassId} {dI : Nat → Nat → Nat} {h0 q1 q2 q3 j0 k1 k2 k3 : Nat} {cL cI cJ eL eI eJ : ClassId} {f : Nat → Int64} {g h : Nat → Int32} {n : Nat} (hok : nt_ok (f, g, h, n)) (hK : va_K (dC, dI) vwCl (nt_ty cL cI cJ ++ nt_ty eL eI eJ) s) {A : Nat → Prop} (hA : ∀ q : Nat, s.heap.size ≤ q → A q) (hbA : ¬ A b) {H : Heap} {locs : List Loc} {ls : Array Slot} {i : Nat} (hi : i + 7 ≤ L) (hl : lv_has ls 4 [(0, .ref b), (1, .ref h0), (2, .ref j0), (3, .int (nI i))]) (hP : va_P (dC, dI) vwCl (nt_w 0 h0 q1 q2 q3 cL cI cJ f g h n ++ nt_w 1 j0 k1 k2 k3 eL eI eJ f g h n) H) (hD : va_D A (nt_w 0 h0 q1 q2 q3 cL cI cJ f g h n ++ nt_w 1 j0 k1 k2 k3 eL eI eJ f g h n)) (hS : va_S A s.heap H locs) {Q : State → Prop} (nx : ∀ (u : nt_S) (H : Heap) (locs : List Loc), nt_ok u → va_P (dC, dI) vwCl (nt_w 0 h0 q1 q2 q3 cL cI cJ u.1 u.2.1 u.2.2.1 u.2.2.2 ++ nt_w 1 j0 k1 k2 k3 eL eI eJ u.1 u.2.1 u.2.2.1 u.2.2.2) H → va_D A (nt_w 0 h0 q1 q2 q3 cL cI cJ u.1 u.2.1 u.2.2.1 u.2.2.2 ++ nt_w 1 j0 k1 k2 k3 eL eI eJ u.1 u.2.1 u.2.2.1 u.2.2.2) → va_S A s.heap H locs → W p l e room_1 s m #[Value.ref b] below meth c H locs 8 5408 Q (F0 m 495 ls [])) : W p l e room_1 s m #[Value.ref b] below meth c H locs 8 5408 Q (F0 m 421 ls []) := by
  obtain ⟨hx, hb, -, hml, hown, hts, hX, hbl, -, -⟩ := C0
  have hts := fun w h => hts w (wsL_law_in w h)
  have hn : n ≤ 900 := hok.1
  have hKX : va_K (dC, dI) vwCl (nt_ty cL cI cJ) s := hK.sub [0, 1, 2] rfl
  have hKM : va_K (dC, dI) vwCl (nt_ty eL eI eJ) s := hK.sub [3, 4, 5] rfl
  refine lv_aload_n hx hb dL_law_421 rfl (lv_at hl 1 rfl) ?_
  refine lv_aload_n hx hb dL_law_422 rfl (lv_at hl 0 rfl) ?_
  refine lv_iload_n hx hb dL_law_423 rfl (lv_at hl 3 rfl) ?_
  refine lv_iconst (v := nI 1) hx hb dL_law_424 (by decide) ?_
  refine lv_iadd hx hb dL_law_425 ?_
  refine nt_top (y := nI (i + 1)) (nI_add i 1) ?_
  refine nt_sld hx hb hX hbl hbA hS (j := (i + 1)) (by omega) hL dL_law_426 ?_
  have hPc : va_P (dC, dI) vwCl (nt_w 0 h0 q1 q2 q3 cL cI cJ f g h n) H := hP.sub [0, 1, 2, 3] rfl
  have hDc : va_D A (nt_w 0 h0 q1 q2 q3 cL cI cJ f g h n) := hD.sub [0, 1, 2, 3] (by decide) rfl
  refine nt_calll2 (va_runV (As := [.int (xs (i + 1))]) (rest := []) ⟨hx, hb, hml, hown, hts⟩ (kX_name l dC dI h0 q1 q2 q3 _ cL cI cJ f g h n (xs (i + 1)) hn) (cwV 1 hts gL_law_X0_name rfl rfl rfl (by decide +kernel) ⟨Nat.le_of_ble_eq_true rfl, Nat.le_of_ble_eq_true rfl⟩) (nt_preV rfl hPc hKX hDc [.int (xs (i + 1))]) rfl rfl hl.1 rfl (lv_room (Nat.le_of_ble_eq_true rfl)) dL_law_427 ⟨Nat.le_of_ble_eq_true rfl, Nat.le_of_ble_eq_true rfl⟩) hP hD hS hA (fun r1 u1 H locs hp1 hP hD hS => ?_)
  refine lv_aload_n hx hb dL_law_430 rfl (lv_at hl 2 rfl) ?_
  refine lv_aload_n hx hb dL_law_431 rfl (lv_at hl 0 rfl) ?_
  refine lv_iload_n hx hb dL_law_432 rfl (lv_at hl 3 rfl) ?_
  refine lv_iconst (v := nI 1) hx hb dL_law_433 (by decide) ?_
  refine lv_iadd hx hb dL_law_434 ?_
  refine nt_top (y := nI (i + 1)) (nI_add i 1) ?_
  refine nt_sld hx hb hX hbl hbA hS (j := (i + 1)) (by omega) hL dL_law_435 ?_
  have hPc : va_P (dC, dI) vwCl (nt_w 1 j0 k1 k2 k3 eL eI eJ f g h n) H := hP.sub [0, 1, 2, 3] rfl
  have hDc : va_D A (nt_w 1 j0 k1 k2 k3 eL eI eJ f g h n) := hD.sub [0, 1, 2, 3] (by decide) rfl
  refine nt_calll2 (va_runV (As := [.int (xs (i + 1))]) (rest := [.long r1]) ⟨hx, hb, hml, hown, hts⟩ (kM_name l dC dI j0 k1 k2 k3 _ eL eI eJ f g h n (xs (i + 1)) hn) (cwV 1 hts gL_law_X1_name rfl rfl rfl (by decide +kernel) ⟨Nat.le_of_ble_eq_true rfl, Nat.le_of_ble_eq_true rfl⟩) (nt_preV rfl hPc hKM hDc [.int (xs (i + 1))]) rfl rfl hl.1 rfl (lv_room (Nat.le_of_ble_eq_true rfl)) dL_law_436 ⟨Nat.le_of_ble_eq_true rfl, Nat.le_of_ble_eq_true rfl⟩) hP hD hS hA (fun r2 u2 H locs hp2 hP hD hS => ?_)
  obtain ⟨e1, rfl⟩ := hp1
  obtain ⟨e2, rfl⟩ := hp2
  obtain rfl := e1.trans e2.symm
  refine W.lcmp hx hb dL_law_439 ?_
  refine lv_if_eq (tgt := 495) hx hb dL_law_440 (by decide) (fun _ => ?_) (fun h9 => absurd ((lg_cmp_eq _ _).mpr rfl) h9)
  exact nx (f, g, h, n) H locs hok hP hD hS
set_option maxHeartbeats 4000000 in
set_option maxRecDepth 100000 in
theorem lc_6 {p : Program} {e : Env} {s : State} {m : MethodId} {below : List Frame} {meth : Method} {c : Code} (l : Launch) {b L : Nat} {xs : Nat → Int32} (hL : L ≤ 3584) (C0 : lw_At p s m meth c b L xs) {dC : Nat → ClassId} {dI : Nat → Nat → Nat} {h0 q1 q2 q3 j0 k1 k2 k3 : Nat} {cL cI cJ eL eI eJ : ClassId} {f : Nat → Int64} {g h : Nat → Int32} {n : Nat} (hok : nt_ok (f, g, h, n)) (hK : va_K (dC, dI) vwCl (nt_ty cL cI cJ ++ nt_ty eL eI eJ) s) {A : Nat → Prop} (hA : ∀ q : Nat, s.heap.size ≤ q → A q) (hbA : ¬ A b) {H : Heap} {locs : List Loc} {ls : Array Slot} {i : Nat} (hi : i + 7 ≤ L) (hl : lv_has ls 4 [(0, .ref b), (1, .ref h0), (2, .ref j0), (3, .int (nI i))]) (hP : va_P (dC, dI) vwCl (nt_w 0 h0 q1 q2 q3 cL cI cJ f g h n ++ nt_w 1 j0 k1 k2 k3 eL eI eJ f g h n) H) (hD : va_D A (nt_w 0 h0 q1 q2 q3 cL cI cJ f g h n ++ nt_w 1 j0 k1 k2 k3 eL eI eJ f g h n)) (hS : va_S A s.heap H locs) {Q : State → Prop} (nx : ∀ (u : nt_S) (H : Heap) (locs : List Loc), nt_ok u → va_P (dC, dI) vwCl (nt_w 0 h0 q1 q2 q3 cL cI cJ u.1 u.2.1 u.2.2.1 u.2.2.2 ++ nt_w 1 j0 k1 k2 k3 eL eI eJ u.1 u.2.1 u.2.2.1 u.2.2.2) H → va_D A (nt_w 0 h0 q1 q2 q3 cL cI cJ u.1 u.2.1 u.2.2.1 u.2.2.2 ++ nt_w 1 j0 k1 k2 k3 eL eI eJ u.1 u.2.1 u.2.2.1 u.2.2.2) → va_S A s.heap H locs → W p l e room_1 s m #[Value.ref b] below meth c H locs 8 5408 Q (F0 m 495 ls [])) : W p l e room_1 s m #[Value.ref b] below meth c H locs 8 5408 Q (F0 m 445 ls []) := by
  obtain ⟨hx, hb, -, hml, hown, hts, hX, hbl, -, -⟩ := C0
  have hts := fun w h => hts w (wsL_law_in w h)
  have hn : n ≤ 900 := hok.1
  have hKX : va_K (dC, dI) vwCl (nt_ty cL cI cJ) s := hK.sub [0, 1, 2] rfl
  have hKM : va_K (dC, dI) vwCl (nt_ty eL eI eJ) s := hK.sub [3, 4, 5] rfl
  refine lv_aload_n hx hb dL_law_445 rfl (lv_at hl 1 rfl) ?_
  refine lv_aload_n hx hb dL_law_446 rfl (lv_at hl 0 rfl) ?_
  refine lv_iload_n hx hb dL_law_447 rfl (lv_at hl 3 rfl) ?_
  refine lv_iconst (v := nI 1) hx hb dL_law_448 (by decide) ?_
  refine lv_iadd hx hb dL_law_449 ?_
  refine nt_top (y := nI (i + 1)) (nI_add i 1) ?_
  refine nt_sld hx hb hX hbl hbA hS (j := (i + 1)) (by omega) hL dL_law_450 ?_
  have hPc : va_P (dC, dI) vwCl (nt_w 0 h0 q1 q2 q3 cL cI cJ f g h n) H := hP.sub [0, 1, 2, 3] rfl
  have hDc : va_D A (nt_w 0 h0 q1 q2 q3 cL cI cJ f g h n) := hD.sub [0, 1, 2, 3] (by decide) rfl
  refine nt_calli2 (va_runV (As := [.int (xs (i + 1))]) (rest := []) ⟨hx, hb, hml, hown, hts⟩ (kX_index l dC dI h0 q1 q2 q3 _ cL cI cJ f g h n (xs (i + 1)) hn) (cwV 1 hts gL_law_X0_index rfl rfl rfl (by decide +kernel) ⟨Nat.le_of_ble_eq_true rfl, Nat.le_of_ble_eq_true rfl⟩) (nt_preV rfl hPc hKX hDc [.int (xs (i + 1))]) rfl rfl hl.1 rfl (lv_room (Nat.le_of_ble_eq_true rfl)) dL_law_451 ⟨Nat.le_of_ble_eq_true rfl, Nat.le_of_ble_eq_true rfl⟩) hP hD hS hA (fun r1 u1 H locs hp1 hP hD hS => ?_)
  refine lv_aload_n hx hb dL_law_454 rfl (lv_at hl 2 rfl) ?_
  refine lv_aload_n hx hb dL_law_455 rfl (lv_at hl 0 rfl) ?_
  refine lv_iload_n hx hb dL_law_456 rfl (lv_at hl 3 rfl) ?_
  refine lv_iconst (v := nI 1) hx hb dL_law_457 (by decide) ?_
  refine lv_iadd hx hb dL_law_458 ?_
  refine nt_top (y := nI (i + 1)) (nI_add i 1) ?_
  refine nt_sld hx hb hX hbl hbA hS (j := (i + 1)) (by omega) hL dL_law_459 ?_
  have hPc : va_P (dC, dI) vwCl (nt_w 1 j0 k1 k2 k3 eL eI eJ f g h n) H := hP.sub [0, 1, 2, 3] rfl
  have hDc : va_D A (nt_w 1 j0 k1 k2 k3 eL eI eJ f g h n) := hD.sub [0, 1, 2, 3] (by decide) rfl
  refine nt_calli2 (va_runV (As := [.int (xs (i + 1))]) (rest := [.int r1]) ⟨hx, hb, hml, hown, hts⟩ (kM_index l dC dI j0 k1 k2 k3 _ eL eI eJ f g h n (xs (i + 1)) hn) (cwV 1 hts gL_law_X1_index rfl rfl rfl (by decide +kernel) ⟨Nat.le_of_ble_eq_true rfl, Nat.le_of_ble_eq_true rfl⟩) (nt_preV rfl hPc hKM hDc [.int (xs (i + 1))]) rfl rfl hl.1 rfl (lv_room (Nat.le_of_ble_eq_true rfl)) dL_law_460 ⟨Nat.le_of_ble_eq_true rfl, Nat.le_of_ble_eq_true rfl⟩) hP hD hS hA (fun r2 u2 H locs hp2 hP hD hS => ?_)
  obtain ⟨e1, rfl⟩ := hp1
  obtain ⟨e2, rfl⟩ := hp2
  obtain rfl := e1.trans e2.symm
  refine lv_icmp_eq (tgt := 495) hx hb dL_law_463 (by decide) (fun _ => ?_) (fun h9 => absurd rfl h9)
  exact nx (f, g, h, n) H locs hok hP hD hS
set_option maxHeartbeats 4000000 in
set_option maxRecDepth 100000 in
theorem lc_7 {p : Program} {e : Env} {s : State} {m : MethodId} {below : List Frame} {meth : Method} {c : Code} (l : Launch) {b L : Nat} {xs : Nat → Int32} (hL : L ≤ 3584) (C0 : lw_At p s m meth c b L xs) {dC : Nat → ClassId} {dI : Nat → Nat → Nat} {h0 q1 q2 q3 j0 k1 k2 k3 : Nat} {cL cI cJ eL eI eJ : ClassId} {f : Nat → Int64} {g h : Nat → Int32} {n : Nat} (hok : nt_ok (f, g, h, n)) (hK : va_K (dC, dI) vwCl (nt_ty cL cI cJ ++ nt_ty eL eI eJ) s) {A : Nat → Prop} (hA : ∀ q : Nat, s.heap.size ≤ q → A q) (hbA : ¬ A b) {H : Heap} {locs : List Loc} {ls : Array Slot} {i : Nat} (hi : i + 7 ≤ L) (hl : lv_has ls 4 [(0, .ref b), (1, .ref h0), (2, .ref j0), (3, .int (nI i))]) (hP : va_P (dC, dI) vwCl (nt_w 0 h0 q1 q2 q3 cL cI cJ f g h n ++ nt_w 1 j0 k1 k2 k3 eL eI eJ f g h n) H) (hD : va_D A (nt_w 0 h0 q1 q2 q3 cL cI cJ f g h n ++ nt_w 1 j0 k1 k2 k3 eL eI eJ f g h n)) (hS : va_S A s.heap H locs) {Q : State → Prop} (nx : ∀ (u : nt_S) (H : Heap) (locs : List Loc), nt_ok u → va_P (dC, dI) vwCl (nt_w 0 h0 q1 q2 q3 cL cI cJ u.1 u.2.1 u.2.2.1 u.2.2.2 ++ nt_w 1 j0 k1 k2 k3 eL eI eJ u.1 u.2.1 u.2.2.1 u.2.2.2) H → va_D A (nt_w 0 h0 q1 q2 q3 cL cI cJ u.1 u.2.1 u.2.2.1 u.2.2.2 ++ nt_w 1 j0 k1 k2 k3 eL eI eJ u.1 u.2.1 u.2.2.1 u.2.2.2) → va_S A s.heap H locs → W p l e room_1 s m #[Value.ref b] below meth c H locs 8 5408 Q (F0 m 495 ls [])) : W p l e room_1 s m #[Value.ref b] below meth c H locs 8 5408 Q (F0 m 468 ls []) := by
  obtain ⟨hx, hb, -, hml, hown, hts, hX, hbl, -, -⟩ := C0
  have hts := fun w h => hts w (wsL_law_in w h)
  have hn : n ≤ 900 := hok.1
  have hKX : va_K (dC, dI) vwCl (nt_ty cL cI cJ) s := hK.sub [0, 1, 2] rfl
  have hKM : va_K (dC, dI) vwCl (nt_ty eL eI eJ) s := hK.sub [3, 4, 5] rfl
  refine lv_aload_n hx hb dL_law_468 rfl (lv_at hl 1 rfl) ?_
  have hPc : va_P (dC, dI) vwCl (nt_w 0 h0 q1 q2 q3 cL cI cJ f g h n) H := hP.sub [0, 1, 2, 3] rfl
  have hDc : va_D A (nt_w 0 h0 q1 q2 q3 cL cI cJ f g h n) := hD.sub [0, 1, 2, 3] (by decide) rfl
  refine nt_calli2 (va_runV (As := []) (rest := []) ⟨hx, hb, hml, hown, hts⟩ (kX_many l dC dI h0 q1 q2 q3 _ cL cI cJ f g h n ) (cwV 0 hts gL_law_X0_many rfl rfl rfl (by decide +kernel) ⟨Nat.le_of_ble_eq_true rfl, Nat.le_of_ble_eq_true rfl⟩) (nt_preV rfl hPc hKX hDc []) rfl rfl hl.1 rfl (lv_room (Nat.le_of_ble_eq_true rfl)) dL_law_469 ⟨Nat.le_of_ble_eq_true rfl, Nat.le_of_ble_eq_true rfl⟩) hP hD hS hA (fun r1 u1 H locs hp1 hP hD hS => ?_)
  refine lv_aload_n hx hb dL_law_472 rfl (lv_at hl 2 rfl) ?_
  have hPc : va_P (dC, dI) vwCl (nt_w 1 j0 k1 k2 k3 eL eI eJ f g h n) H := hP.sub [0, 1, 2, 3] rfl
  have hDc : va_D A (nt_w 1 j0 k1 k2 k3 eL eI eJ f g h n) := hD.sub [0, 1, 2, 3] (by decide) rfl
  refine nt_calli2 (va_runV (As := []) (rest := [.int r1]) ⟨hx, hb, hml, hown, hts⟩ (kM_many l dC dI j0 k1 k2 k3 _ eL eI eJ f g h n ) (cwV 0 hts gL_law_X1_many rfl rfl rfl (by decide +kernel) ⟨Nat.le_of_ble_eq_true rfl, Nat.le_of_ble_eq_true rfl⟩) (nt_preV rfl hPc hKM hDc []) rfl rfl hl.1 rfl (lv_room (Nat.le_of_ble_eq_true rfl)) dL_law_473 ⟨Nat.le_of_ble_eq_true rfl, Nat.le_of_ble_eq_true rfl⟩) hP hD hS hA (fun r2 u2 H locs hp2 hP hD hS => ?_)
  obtain ⟨e1, rfl⟩ := hp1
  obtain ⟨e2, rfl⟩ := hp2
  obtain rfl := e1.trans e2.symm
  refine lv_icmp_eq (tgt := 495) hx hb dL_law_476 (by decide) (fun _ => ?_) (fun h9 => absurd rfl h9)
  exact nx (f, g, h, n) H locs hok hP hD hS
set_option maxHeartbeats 4000000 in
set_option maxRecDepth 100000 in
theorem lc_8 {p : Program} {e : Env} {s : State} {m : MethodId} {below : List Frame} {meth : Method} {c : Code} (l : Launch) {b L : Nat} {xs : Nat → Int32} (hL : L ≤ 3584) (C0 : lw_At p s m meth c b L xs) {dC : Nat → ClassId} {dI : Nat → Nat → Nat} {h0 q1 q2 q3 j0 k1 k2 k3 : Nat} {cL cI cJ eL eI eJ : ClassId} {f : Nat → Int64} {g h : Nat → Int32} {n : Nat} (hok : nt_ok (f, g, h, n)) (hK : va_K (dC, dI) vwCl (nt_ty cL cI cJ ++ nt_ty eL eI eJ) s) {A : Nat → Prop} (hA : ∀ q : Nat, s.heap.size ≤ q → A q) (hbA : ¬ A b) {H : Heap} {locs : List Loc} {ls : Array Slot} {i : Nat} (hi : i + 7 ≤ L) (hl : lv_has ls 4 [(0, .ref b), (1, .ref h0), (2, .ref j0), (3, .int (nI i))]) (hP : va_P (dC, dI) vwCl (nt_w 0 h0 q1 q2 q3 cL cI cJ f g h n ++ nt_w 1 j0 k1 k2 k3 eL eI eJ f g h n) H) (hD : va_D A (nt_w 0 h0 q1 q2 q3 cL cI cJ f g h n ++ nt_w 1 j0 k1 k2 k3 eL eI eJ f g h n)) (hS : va_S A s.heap H locs) {Q : State → Prop} (nx : ∀ (u : nt_S) (H : Heap) (locs : List Loc), nt_ok u → va_P (dC, dI) vwCl (nt_w 0 h0 q1 q2 q3 cL cI cJ u.1 u.2.1 u.2.2.1 u.2.2.2 ++ nt_w 1 j0 k1 k2 k3 eL eI eJ u.1 u.2.1 u.2.2.1 u.2.2.2) H → va_D A (nt_w 0 h0 q1 q2 q3 cL cI cJ u.1 u.2.1 u.2.2.1 u.2.2.2 ++ nt_w 1 j0 k1 k2 k3 eL eI eJ u.1 u.2.1 u.2.2.1 u.2.2.2) → va_S A s.heap H locs → W p l e room_1 s m #[Value.ref b] below meth c H locs 8 5408 Q (F0 m 495 ls [])) : W p l e room_1 s m #[Value.ref b] below meth c H locs 8 5408 Q (F0 m 481 ls []) := by
  obtain ⟨hx, hb, -, hml, hown, hts, hX, hbl, -, -⟩ := C0
  have hts := fun w h => hts w (wsL_law_in w h)
  have hn : n ≤ 900 := hok.1
  have hKX : va_K (dC, dI) vwCl (nt_ty cL cI cJ) s := hK.sub [0, 1, 2] rfl
  have hKM : va_K (dC, dI) vwCl (nt_ty eL eI eJ) s := hK.sub [3, 4, 5] rfl
  refine lv_aload_n hx hb dL_law_481 rfl (lv_at hl 1 rfl) ?_
  have hPc : va_P (dC, dI) vwCl (nt_w 0 h0 q1 q2 q3 cL cI cJ f g h n) H := hP.sub [0, 1, 2, 3] rfl
  have hDc : va_D A (nt_w 0 h0 q1 q2 q3 cL cI cJ f g h n) := hD.sub [0, 1, 2, 3] (by decide) rfl
  refine nt_calll2 (va_runV (As := []) (rest := []) ⟨hx, hb, hml, hown, hts⟩ (kX_value l dC dI h0 q1 q2 q3 _ cL cI cJ f g h n hn) (cwV 0 hts gL_law_X0_value rfl rfl rfl (by decide +kernel) ⟨Nat.le_of_ble_eq_true rfl, Nat.le_of_ble_eq_true rfl⟩) (nt_preV rfl hPc hKX hDc []) rfl rfl hl.1 rfl (lv_room (Nat.le_of_ble_eq_true rfl)) dL_law_482 ⟨Nat.le_of_ble_eq_true rfl, Nat.le_of_ble_eq_true rfl⟩) hP hD hS hA (fun r1 u1 H locs hp1 hP hD hS => ?_)
  refine lv_aload_n hx hb dL_law_485 rfl (lv_at hl 2 rfl) ?_
  have hPc : va_P (dC, dI) vwCl (nt_w 1 j0 k1 k2 k3 eL eI eJ f g h n) H := hP.sub [0, 1, 2, 3] rfl
  have hDc : va_D A (nt_w 1 j0 k1 k2 k3 eL eI eJ f g h n) := hD.sub [0, 1, 2, 3] (by decide) rfl
  refine nt_calll2 (va_runV (As := []) (rest := [.long r1]) ⟨hx, hb, hml, hown, hts⟩ (kM_value l dC dI j0 k1 k2 k3 _ eL eI eJ f g h n hn) (cwV 0 hts gL_law_X1_value rfl rfl rfl (by decide +kernel) ⟨Nat.le_of_ble_eq_true rfl, Nat.le_of_ble_eq_true rfl⟩) (nt_preV rfl hPc hKM hDc []) rfl rfl hl.1 rfl (lv_room (Nat.le_of_ble_eq_true rfl)) dL_law_486 ⟨Nat.le_of_ble_eq_true rfl, Nat.le_of_ble_eq_true rfl⟩) hP hD hS hA (fun r2 u2 H locs hp2 hP hD hS => ?_)
  obtain ⟨e1, rfl⟩ := hp1
  obtain ⟨e2, rfl⟩ := hp2
  obtain rfl := e1.trans e2.symm
  refine W.lcmp hx hb dL_law_489 ?_
  refine lv_if_eq (tgt := 495) hx hb dL_law_490 (by decide) (fun _ => ?_) (fun h9 => absurd ((lg_cmp_eq _ _).mpr rfl) h9)
  exact nx (f, g, h, n) H locs hok hP hD hS
