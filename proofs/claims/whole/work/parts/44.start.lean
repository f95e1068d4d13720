set_option maxHeartbeats 4000000 in
set_option maxRecDepth 100000 in
/-- YOUR PART: from the entry, for every script of at most 3584 ints, the law comes to its end with true -/
theorem whole_start {p : Program} {e : Env} {s : State} {m : MethodId} {below : List Frame} {meth : Method} {c : Code} (l : Launch) {b L : Nat} {xs : Nat → Int32} (hL : L ≤ 3584) (C0 : lw_At p s m meth c b L xs) : W p l e room_1 s m #[Value.ref b] below meth c s.heap [] 0 0 (lw_Z below #[Value.ref b] s) (entryFrame m ([Value.ref b] : List Value).toArray 4) := by
  have C1 := C0
  obtain ⟨hx, hb, hr, hml, hown, hts, hX, hbl, hlocks, hgv⟩ := C0
  have hts := fun w h => hts w (wsL_law_in w h)
  obtain ⟨c0, i0, hk0⟩ := u_known (C := RX0) (T := TX0) (N := 4) (n := 4) hts (by decide +kernel) (hts (.instantiable RX0 4) (by decide +kernel))
  obtain ⟨c1, i1, hk1⟩ := u_known (C := RX1) (T := TX1) (N := 4) (n := 4) hts (by decide +kernel) (hts (.instantiable RX1 4) (by decide +kernel))
  obtain ⟨dC, hdX, hdM⟩ : ∃ dC : Nat → ClassId, dC 0 = c0 ∧ dC 1 = c1 := ⟨fun k => if k = 0 then c0 else c1, rfl, rfl⟩
  obtain ⟨dI, hiX, hiM⟩ : ∃ dI : Nat → Nat → Nat, dI 0 = i0 ∧ dI 1 = i1 := ⟨fun k => if k = 0 then i0 else i1, rfl, rfl⟩
  subst hdX
  subst hdM
  subst hiX
  subst hiM
  have hK : va_K (dC, dI) vwCl [] s := by
    refine ⟨fun k q h => ?_, fun k q h => by simp at h⟩
    match k, h with
    | 0, h => obtain rfl := Option.some.inj h; exact hk0
    | 1, h => obtain rfl := Option.some.inj h; exact hk1
  obtain ⟨A, hAd⟩ : ∃ A : Nat → Prop, A = fun q => s.heap.size ≤ q := ⟨_, rfl⟩
  have hA : ∀ q : Nat, s.heap.size ≤ q → A q := fun q h => by rw [hAd]; exact h
  have hA2 : ∀ q : Nat, A q → s.heap.size ≤ q := fun q h => by rw [hAd] at h; exact h
  have hbA : ¬ A b := fun h => Nat.not_le.mpr hbl (hA2 b h)
  have hP : va_P (dC, dI) vwCl [] s.heap := fun k q h => by simp at h
  have hD : va_D A [] := ⟨fun i j x y h => by simp at h, fun k q h => by simp at h⟩
  have hS : va_S A s.heap s.heap [] := va_S.rf
  have hl := lv_entry ([.ref b]) (n := 4) (Nat.le_of_ble_eq_true rfl)
  rw [lg_entry_eq]
  generalize (lg_sl ([Value.ref b]) ++ List.replicate (4 - (lg_sl ([Value.ref b])).length) Slot.unset).toArray = ls at hl ⊢
  have hl : lv_has ls 4 [(0, .ref b)] := hl
  refine va_new (D := (dC, dI)) (ci := 0) (fs := [.null, .null, .null, .int 0]) (C := RX0) (T := TX0) (N := 4) hx hb hts (by decide +kernel) tyX0 tyX0_ok hown (hts (.classLink RL 7 RX0) (by decide +kernel)) (hts (.instantiable RX0 4) (by decide +kernel)) (hts (.initialized RX0) (by decide +kernel)) hK hP hD hS hA rfl (fun j hj => by rcases (show j = 0 ∨ j = 1 ∨ j = 2 ∨ j = 3 by omega) with rfl | rfl | rfl | rfl <;> rfl) (Nat.le_of_ble_eq_true rfl) (Nat.le_of_ble_eq_true rfl) dL_law_0 (fun h0 H hP hD hS => ?_)
  refine W.widen (k := 1) (n := 4) (Nat.le_of_ble_eq_true rfl) (Nat.le_of_ble_eq_true rfl) ?_
  have hP : va_P (dC, dI) vwCl ([(h0, .inr (0, [.null, .null, .null, .int 0]))]) H := hP
  have hD : va_D A ([(h0, .inr (0, [.null, .null, .null, .int 0]))]) := hD
  refine lv_dup hx hb dL_law_3 rfl ?_
  have hPc : va_P (dC, dI) vwCl [(h0, .inr (0, [.null, .null, .null, .int 0]))] H := hP.sub [0] rfl
  have hDc : va_D A [(h0, .inr (0, [.null, .null, .null, .int 0]))] := hD.sub [0] (by decide) rfl
  have hKc : va_K (dC, dI) vwCl [] s := hK.sub [] rfl
  have hFc := va_free (wc := [(h0, .inr (0, [.null, .null, .null, .int 0]))]) hD hS hA [0] rfl
  refine va_callv (va_runI (As := []) (rest := [.ref h0]) ⟨hx, hb, hml, hown, hts⟩ (kX_init l dC dI h0 H.size) (cwI 0 hts gL_law_X0_init rfl rfl rfl (hts (.initialized RX0) (by decide +kernel)) (hts (.methodLink RL 9 yX0_init) (by decide +kernel)) (hts (.instanceMethod yX0_init) (by decide +kernel)) rfl (by decide +kernel) ⟨Nat.le_of_ble_eq_true rfl, Nat.le_of_ble_eq_true rfl⟩) ⟨fun a U g mk q => by obtain ⟨z0, z1, zP, zK, zD⟩ := q; exact ⟨z0, z1, zP, va_K.moved (u := U) (U := U.calling g mk a) (Vm.Alike.refl U.vm) zK, zD⟩, fun U hU hW => ⟨rfl, by rw [hU], by rw [hU]; exact hPc, va_K.moved hW.alike hKc, hDc.weaken (fun _ _ _ _ => trivial)⟩⟩ rfl rfl hl.1 rfl (lv_room (Nat.le_of_ble_eq_true rfl)) dL_law_4 ⟨Nat.le_of_ble_eq_true rfl, Nat.le_of_ble_eq_true rfl⟩) hS (fun q _ h => hFc q h) hFc (fun u t H1 locs ht hvm hw hB hz1 hk1 hS => ?_)
  obtain ⟨q1, q2, q3, cL, cI, cJ⟩ := u
  obtain ⟨hP1, hK1, hD1⟩ := hB
  rw [ht] at hP1
  have hK1 := va_K.moved hvm.symm hK1
  obtain ⟨hP, hD⟩ := va_join (wr := []) (w1 := nt_w 0 h0 q1 q2 q3 cL cI cJ (fun _ => 0) (fun _ => 0) (fun _ => 0) 0) hP hD [0] [] rfl rfl (by decide) (by decide) hk1 hFc hP1 hD1
  have hK := hK.app hK1
  generalize H1 = H at hP hS ⊢
  have hP : va_P (dC, dI) vwCl (nt_w 0 h0 q1 q2 q3 cL cI cJ (fun _ => 0) (fun _ => 0) (fun _ => 0) 0) H := hP
  have hD : va_D A (nt_w 0 h0 q1 q2 q3 cL cI cJ (fun _ => 0) (fun _ => 0) (fun _ => 0) 0) := hD
  have hK : va_K (dC, dI) vwCl (nt_ty cL cI cJ) s := hK
  refine W.widen (k := 4) (n := 2704) (Nat.le_of_ble_eq_true rfl) (Nat.le_of_ble_eq_true rfl) ?_
  refine lv_astore_n (lv' := [(1, .ref h0), (0, .ref b)]) hx hb dL_law_7 rfl hl (by decide) rfl (fun ls hl => ?_)
  refine va_new (D := (dC, dI)) (ci := 1) (fs := [.null, .null, .null, .int 0]) (C := RX1) (T := TX1) (N := 4) hx hb hts (by decide +kernel) tyX1 tyX1_ok hown (hts (.classLink RL 10 RX1) (by decide +kernel)) (hts (.instantiable RX1 4) (by decide +kernel)) (hts (.initialized RX1) (by decide +kernel)) hK hP hD hS hA rfl (fun j hj => by rcases (show j = 0 ∨ j = 1 ∨ j = 2 ∨ j = 3 by omega) with rfl | rfl | rfl | rfl <;> rfl) (Nat.le_of_ble_eq_true rfl) (Nat.le_of_ble_eq_true rfl) dL_law_8 (fun j0 H hP hD hS => ?_)
  refine W.widen (k := 5) (n := 2708) (Nat.le_of_ble_eq_true rfl) (Nat.le_of_ble_eq_true rfl) ?_
  have hP : va_P (dC, dI) vwCl (nt_w 0 h0 q1 q2 q3 cL cI cJ (fun _ => 0) (fun _ => 0) (fun _ => 0) 0 ++ [(j0, .inr (1, [.null, .null, .null, .int 0]))]) H := hP
  have hD : va_D A (nt_w 0 h0 q1 q2 q3 cL cI cJ (fun _ => 0) (fun _ => 0) (fun _ => 0) 0 ++ [(j0, .inr (1, [.null, .null, .null, .int 0]))]) := hD
  refine lv_dup hx hb dL_law_11 rfl ?_
  have hPc : va_P (dC, dI) vwCl [(j0, .inr (1, [.null, .null, .null, .int 0]))] H := hP.sub [4] rfl
  have hDc : va_D A [(j0, .inr (1, [.null, .null, .null, .int 0]))] := hD.sub [4] (by decide) rfl
  have hKc : va_K (dC, dI) vwCl [] s := hK.sub [] rfl
  have hFc := va_free (wc := [(j0, .inr (1, [.null, .null, .null, .int 0]))]) hD hS hA [4] rfl
  refine va_callv (va_runI (As := []) (rest := [.ref j0]) ⟨hx, hb, hml, hown, hts⟩ (kM_init l dC dI j0 H.size) (cwI 0 hts gL_law_X1_init rfl rfl rfl (hts (.initialized RX1) (by decide +kernel)) (hts (.methodLink RL 12 yX1_init) (by decide +kernel)) (hts (.instanceMethod yX1_init) (by decide +kernel)) rfl (by decide +kernel) ⟨Nat.le_of_ble_eq_true rfl, Nat.le_of_ble_eq_true rfl⟩) ⟨fun a U g mk q => by obtain ⟨z0, z1, zP, zK, zD⟩ := q; exact ⟨z0, z1, zP, va_K.moved (u := U) (U := U.calling g mk a) (Vm.Alike.refl U.vm) zK, zD⟩, fun U hU hW => ⟨rfl, by rw [hU], by rw [hU]; exact hPc, va_K.moved hW.alike hKc, hDc.weaken (fun _ _ _ _ => trivial)⟩⟩ rfl rfl hl.1 rfl (lv_room (Nat.le_of_ble_eq_true rfl)) dL_law_12 ⟨Nat.le_of_ble_eq_true rfl, Nat.le_of_ble_eq_true rfl⟩) hS (fun q _ h => hFc q h) hFc (fun u t H1 locs ht hvm hw hB hz1 hk1 hS => ?_)
  obtain ⟨k1, k2, k3, eL, eI, eJ⟩ := u
  obtain ⟨hP1, hK1, hD1⟩ := hB
  rw [ht] at hP1
  have hK1 := va_K.moved hvm.symm hK1
  obtain ⟨hP, hD⟩ := va_join (wr := nt_w 0 h0 q1 q2 q3 cL cI cJ (fun _ => 0) (fun _ => 0) (fun _ => 0) 0) (w1 := nt_w 1 j0 k1 k2 k3 eL eI eJ (fun _ => 0) (fun _ => 0) (fun _ => 0) 0) hP hD [4] [0, 1, 2, 3] rfl rfl (by decide) (by decide) hk1 hFc hP1 hD1
  have hK := hK.app hK1
  generalize H1 = H at hP hS ⊢
  have hP : va_P (dC, dI) vwCl (nt_w 0 h0 q1 q2 q3 cL cI cJ (fun _ => 0) (fun _ => 0) (fun _ => 0) 0 ++ nt_w 1 j0 k1 k2 k3 eL eI eJ (fun _ => 0) (fun _ => 0) (fun _ => 0) 0) H := hP
  have hD : va_D A (nt_w 0 h0 q1 q2 q3 cL cI cJ (fun _ => 0) (fun _ => 0) (fun _ => 0) 0 ++ nt_w 1 j0 k1 k2 k3 eL eI eJ (fun _ => 0) (fun _ => 0) (fun _ => 0) 0) := hD
  have hK : va_K (dC, dI) vwCl (nt_ty cL cI cJ ++ nt_ty eL eI eJ) s := hK
  refine W.widen (k := 8) (n := 5408) (Nat.le_of_ble_eq_true rfl) (Nat.le_of_ble_eq_true rfl) ?_
  refine lv_astore_n (lv' := [(2, .ref j0), (1, .ref h0), (0, .ref b)]) hx hb dL_law_15 rfl hl (by decide) rfl (fun ls hl => ?_)
  refine lv_iconst (v := nI 0) hx hb dL_law_16 (by decide) ?_
  refine lv_istore_n (lv' := [(3, .int (nI 0)), (2, .ref j0), (1, .ref h0), (0, .ref b)]) hx hb dL_law_17 rfl hl (by decide) rfl (fun ls hl => ?_)
  exact lw_loop l hL C1 hK hA hA2 hbA L 0 (by omega) (Nat.zero_le _) nt_0 H locs ls nt_0_ok (lv_sub hl [3, 2, 1, 0] rfl) hP hD hS
