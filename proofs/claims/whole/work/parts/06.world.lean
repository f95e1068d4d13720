/-! The cells of a table (both sides have the same four fields): the object and its three rows of 900. -/
abbrev nt_w (ci h0 q1 q2 q3 : Nat) (cL cI cJ : ClassId) (f : Nat → Int64) (g h : Nat → Int32) (n : Nat) : va_W := [(h0, .inr (ci, [.ref q1, .ref q2, .ref q3, .int (nI n)])), (q1, .inl (cL, 900, .inr (.inl f))), (q2, .inl (cI, 900, .inl g)), (q3, .inl (cJ, 900, .inl h))]
abbrev nt_ty (cL cI cJ : ClassId) : List (ClassId × FieldType) := [(cL, .long), (cI, .int), (cJ, .int)]
abbrev nt_in (dC : Nat → ClassId) (dI : Nat → Nat → Nat) (ci h0 q1 q2 q3 : Nat) (cL cI cJ : ClassId) (f : Nat → Int64) (g h : Nat → Int32) (n sz : Nat) : State → Prop := fun U => U.heap.size = sz ∧ va_P (dC, dI) vwCl (nt_w ci h0 q1 q2 q3 cL cI cJ f g h n) U.heap ∧ va_K (dC, dI) vwCl (nt_ty cL cI cJ) U ∧ va_D (fun _ => True) (nt_w ci h0 q1 q2 q3 cL cI cJ f g h n)
abbrev nt_out (dC : Nat → ClassId) (dI : Nat → Nat → Nat) (ci h0 q1 q2 q3 : Nat) (cL cI cJ : ClassId) (A : Nat → Prop) (u : nt_S) (t : State) : Prop := va_P (dC, dI) vwCl (nt_w ci h0 q1 q2 q3 cL cI cJ u.1 u.2.1 u.2.2.1 u.2.2.2) t.heap ∧ va_K (dC, dI) vwCl (nt_ty cL cI cJ) t ∧ va_D A (nt_w ci h0 q1 q2 q3 cL cI cJ u.1 u.2.1 u.2.2.1 u.2.2.2)
theorem nt_blind {dC : Nat → ClassId} {dI : Nat → Nat → Nat} {ci h0 q1 q2 q3 : Nat} {cL cI cJ : ClassId} {f : Nat → Int64} {g h : Nat → Int32} {n sz : Nat} {av : List Value} : FrameBlind (va_Pc av (nt_in dC dI ci h0 q1 q2 q3 cL cI cJ f g h n sz)) := fun a U g9 mk q => by
  obtain ⟨p0, p1, pP, pK, pD⟩ := q
  exact ⟨p0, p1, pP, va_K.moved (u := U) (U := U.calling g9 mk a) (Vm.Alike.refl U.vm) pK, pD⟩
theorem nt_preV {s : State} {H : Heap} {A : Nat → Prop} {T : u_T} {N : Nat} {C : String} {dC : Nat → ClassId} {dI : Nat → Nat → Nat} {ci h0 q1 q2 q3 : Nat} {cL cI cJ : ClassId} {f : Nat → Int64} {g h : Nat → Int32} {n : Nat} (hc : vwCl[ci]? = some (C, T, N)) (hP : va_P (dC, dI) vwCl (nt_w ci h0 q1 q2 q3 cL cI cJ f g h n) H) (hK : va_K (dC, dI) vwCl (nt_ty cL cI cJ) s) (hD : va_D A (nt_w ci h0 q1 q2 q3 cL cI cJ f g h n)) (As : List Value) : PreV s H C h0 (va_Pc (.ref h0 :: As) (nt_in dC dI ci h0 q1 q2 q3 cL cI cJ f g h n H.size)) As :=
  ⟨nt_blind, va_recv (q0 := 0) hK hP hc rfl, fun U hU hW => ⟨rfl, by rw [hU], by rw [hU]; exact hP, va_K.moved hW.alike hK, hD.weaken (fun _ _ _ _ => trivial)⟩⟩
theorem nt_preS {s : State} {H : Heap} (As : List Value) : PreS s H (va_Pc As (fun U => U.heap.size = H.size)) As :=
  ⟨fun _ _ _ _ q => q, fun U hU _ => ⟨rfl, congrArg Array.size hU⟩⟩
section
variable {p : Program} {l : Launch} {e : Env} {R : Room} {s : State} {m : MethodId} {args : Array Value} {below : List Frame} {meth : Method} {c : Code} {H H0 : Heap} {locs : List Loc} {cells slots : Nat} {Q : State → Prop}
variable {cc : ByteArray} {pc : Nat} {ls : Array Slot} {rest st0 : List Value} {D : va_G} {cl : List vw_C} {A : Nat → Prop} {a : Nat} {tys : List (ClassId × FieldType)} {ws : va_W} {av : Array Value}
variable {dC : Nat → ClassId} {dI : Nat → Nat → Nat} {ci h0 q1 q2 q3 : Nat} {cL cI cJ : ClassId} {f : Nat → Int64} {g h : Nat → Int32} {n : Nat}
variable {cj h9 k1 k2 k3 : Nat} {eL eI eJ : ClassId} {f9 : Nat → Int64} {g9 i9 : Nat → Int32} {n9 : Nat}
theorem nt_here {gg : JFrame} (k : ∀ Q' : State → Prop, Q' = Q → W p l e R s m args below meth c H locs cells slots Q' gg) : W p l e R s m args below meth c H locs cells slots Q gg := k Q rfl
theorem nt_top {x y : Int32} (h : x = y) (k : W p l e R s m args below meth c H locs cells slots Q (F0 m pc ls (.int y :: rest))) : W p l e R s m args below meth c H locs cells slots Q (F0 m pc ls (.int x :: rest)) := by
  subst h
  exact k
theorem nt_lald (hexec : p.tables.exec = Jvm.exec) (hb : c.code = cc) (hK : va_K D cl tys s) (hP : va_P D cl ws H) (q0 t0 : Nat) {cA : ClassId} {f : Nat → Int64} (ha : ws[q0]? = some (a, .inl (cA, 900, .inr (.inl f)))) (ht : tys[t0]? = some (cA, .long)) {j : Nat} (hj : j < 900) (hdg : decode cc pc = .ok (.laload, 1))
    (kk : W p l e R s m args below meth c H locs cells slots Q (F0 m (pc + 1) ls (.long (f j) :: rest))) : W p l e R s m args below meth c H locs cells slots Q (F0 m pc ls (.int (nI j) :: .ref a :: rest)) :=
  va_lald hexec hb hK hP q0 t0 ha ht (vp_in_nI hj (by omega)) hdg (by rw [nI_clamp (by omega)]; exact kk)
theorem nt_iald (hexec : p.tables.exec = Jvm.exec) (hb : c.code = cc) (hK : va_K D cl tys s) (hP : va_P D cl ws H) (q0 t0 : Nat) {cA : ClassId} {f : Nat → Int32} (ha : ws[q0]? = some (a, .inl (cA, 900, .inl f))) (ht : tys[t0]? = some (cA, .int)) {j : Nat} (hj : j < 900) (hdg : decode cc pc = .ok (.iaload, 1))
    (kk : W p l e R s m args below meth c H locs cells slots Q (F0 m (pc + 1) ls (.int (f j) :: rest))) : W p l e R s m args below meth c H locs cells slots Q (F0 m pc ls (.int (nI j) :: .ref a :: rest)) :=
  va_iald hexec hb hK hP q0 t0 ha ht (vp_in_nI hj (by omega)) hdg (by rw [nI_clamp (by omega)]; exact kk)
theorem nt_last (hexec : p.tables.exec = Jvm.exec) (hb : c.code = cc) (hK : va_K D cl tys s) (hP : va_P D cl ws H) (hD : va_D A ws) (hS : va_S A H0 H locs) (q0 t0 : Nat) {cA : ClassId} {f : Nat → Int64} (ha : ws[q0]? = some (a, .inl (cA, 900, .inr (.inl f)))) (ht : tys[t0]? = some (cA, .long)) {j : Nat} {x : Int64} (hj : j < 900) (hdg : decode cc pc = .ok (.lastore, 1))
    (kk : ∀ (H1 : Heap) (locs1 : List Loc), va_P D cl (ws.set q0 (a, .inl (cA, 900, .inr (.inl (nt_up f j x))))) H1 → va_D A (ws.set q0 (a, .inl (cA, 900, .inr (.inl (nt_up f j x))))) → va_S A H0 H1 locs1 → W p l e R s m args below meth c H1 locs1 cells slots Q (F0 m (pc + 1) ls rest)) : W p l e R s m args below meth c H locs cells slots Q (F0 m pc ls (.long x :: .int (nI j) :: .ref a :: rest)) :=
  va_last hexec hb hK hP hD hS q0 t0 ha ht (vp_in_nI hj (by omega)) hdg (fun H1 locs1 h1 h2 h3 => by
    rw [nI_clamp (by omega)] at h1 h2
    exact kk H1 locs1 h1 h2 h3)
theorem nt_iast (hexec : p.tables.exec = Jvm.exec) (hb : c.code = cc) (hK : va_K D cl tys s) (hP : va_P D cl ws H) (hD : va_D A ws) (hS : va_S A H0 H locs) (q0 t0 : Nat) {cA : ClassId} {f : Nat → Int32} (ha : ws[q0]? = some (a, .inl (cA, 900, .inl f))) (ht : tys[t0]? = some (cA, .int)) {j : Nat} {x : Int32} (hj : j < 900) (hdg : decode cc pc = .ok (.iastore, 1))
    (kk : ∀ (H1 : Heap) (locs1 : List Loc), va_P D cl (ws.set q0 (a, .inl (cA, 900, .inl (nt_up f j x)))) H1 → va_D A (ws.set q0 (a, .inl (cA, 900, .inl (nt_up f j x)))) → va_S A H0 H1 locs1 → W p l e R s m args below meth c H1 locs1 cells slots Q (F0 m (pc + 1) ls rest)) : W p l e R s m args below meth c H locs cells slots Q (F0 m pc ls (.int x :: .int (nI j) :: .ref a :: rest)) :=
  va_iast hexec hb hK hP hD hS q0 t0 ha ht (vp_in_nI hj (by omega)) hdg (fun H1 locs1 h1 h2 h3 => by
    rw [nI_clamp (by omega)] at h1 h2
    exact kk H1 locs1 h1 h2 h3)
theorem nt_copyl (hexec : p.tables.exec = Jvm.exec) (hb : c.code = cc) (hml : c.maxLocals = ls.size) {own : String} {index : Nat} (hown : s.vm.findClass own = some m.cls) (hlink : (Cond.methodLink own index arraycopyName).before args s = true) (hnat : (Cond.native arraycopyName).before args s = true) (hstat : (Cond.static arraycopyName).before args s = true) (hini : (Cond.initialized "java/lang/System").before args s = true)
    (hK : va_K D cl tys s) (hP : va_P D cl ws H) (hD : va_D A ws) (hS : va_S A H0 H locs) (q0 t0 : Nat) {cA : ClassId} {f : Nat → Int64} (ha : ws[q0]? = some (a, .inl (cA, 900, .inr (.inl f)))) (ht : tys[t0]? = some (cA, .long)) {x y k : Nat} (hx : x + k ≤ 900) (hy : y + k ≤ 900)
    (hframes : 1 ≤ R.frames) (hlocals : (rest.map fun v => v.category).sum + (nativeFrameWords "java/lang/System" "arraycopy" 5 + 11) ≤ R.locals) (hdg : decode cc pc = .ok (.invokestatic index, 3))
    (kk : ∀ (H1 : Heap) (locs1 : List Loc), va_P D cl (ws.set q0 (a, .inl (cA, 900, .inr (.inl (va_cpy f f x y k))))) H1 → va_D A (ws.set q0 (a, .inl (cA, 900, .inr (.inl (va_cpy f f x y k))))) → va_S A H0 H1 locs1 → W p l e R s m args below meth c H1 locs1 cells slots Q (F0 m (pc + 3) ls rest)) : W p l e R s m args below meth c H locs cells slots Q (F0 m pc ls (.int (nI k) :: .int (nI y) :: .ref a :: .int (nI x) :: .ref a :: rest)) := by
  have e1 : (nI x).toNatClampNeg = x := nI_clamp (by omega)
  have e2 : (nI y).toNatClampNeg = y := nI_clamp (by omega)
  have e3 : (nI k).toNatClampNeg = k := nI_clamp (by omega)
  refine va_copyl hexec hb hml hown hlink hnat hstat hini hK hP hD hS q0 q0 t0 t0 ha ha ht ht rfl (nI_pos (by omega)) (nI_pos (by omega)) (nI_pos (by omega)) (by rw [e1, e3]; exact hx) (by rw [e2, e3]; exact hy) (fun _ _ => rfl) hframes hlocals hdg (fun H1 locs1 h1 h2 h3 => ?_)
  rw [e1, e2, e3] at h1 h2
  exact kk H1 locs1 h1 h2 h3
theorem nt_copyi (hexec : p.tables.exec = Jvm.exec) (hb : c.code = cc) (hml : c.maxLocals = ls.size) {own : String} {index : Nat} (hown : s.vm.findClass own = some m.cls) (hlink : (Cond.methodLink own index arraycopyName).before args s = true) (hnat : (Cond.native arraycopyName).before args s = true) (hstat : (Cond.static arraycopyName).before args s = true) (hini : (Cond.initialized "java/lang/System").before args s = true)
    (hK : va_K D cl tys s) (hP : va_P D cl ws H) (hD : va_D A ws) (hS : va_S A H0 H locs) (q0 t0 : Nat) {cA : ClassId} {f : Nat → Int32} (ha : ws[q0]? = some (a, .inl (cA, 900, .inl f))) (ht : tys[t0]? = some (cA, .int)) {x y k : Nat} (hx : x + k ≤ 900) (hy : y + k ≤ 900)
    (hframes : 1 ≤ R.frames) (hlocals : (rest.map fun v => v.category).sum + (nativeFrameWords "java/lang/System" "arraycopy" 5 + 11) ≤ R.locals) (hdg : decode cc pc = .ok (.invokestatic index, 3))
    (kk : ∀ (H1 : Heap) (locs1 : List Loc), va_P D cl (ws.set q0 (a, .inl (cA, 900, .inl (va_cpy f f x y k)))) H1 → va_D A (ws.set q0 (a, .inl (cA, 900, .inl (va_cpy f f x y k)))) → va_S A H0 H1 locs1 → W p l e R s m args below meth c H1 locs1 cells slots Q (F0 m (pc + 3) ls rest)) : W p l e R s m args below meth c H locs cells slots Q (F0 m pc ls (.int (nI k) :: .int (nI y) :: .ref a :: .int (nI x) :: .ref a :: rest)) := by
  have e1 : (nI x).toNatClampNeg = x := nI_clamp (by omega)
  have e2 : (nI y).toNatClampNeg = y := nI_clamp (by omega)
  have e3 : (nI k).toNatClampNeg = k := nI_clamp (by omega)
  refine va_copyi hexec hb hml hown hlink hnat hstat hini hK hP hD hS q0 q0 t0 t0 ha ha ht ht rfl (nI_pos (by omega)) (nI_pos (by omega)) (nI_pos (by omega)) (by rw [e1, e3]; exact hx) (by rw [e2, e3]; exact hy) (fun _ _ => rfl) hframes hlocals hdg (fun H1 locs1 h1 h2 h3 => ?_)
  rw [e1, e2, e3] at h1 h2
  exact kk H1 locs1 h1 h2 h3
/-- a call on the one object whose cells the world is: behind it the world is what came back -/
theorem nt_calli {post : Int32 → nt_S → Prop} (hr : va_Run p l e R s m args below meth c H locs cells slots 0 0 (F0 m pc ls st0) rest (va_Qi post (nt_out dC dI ci h0 q1 q2 q3 cL cI cJ (va_A (nt_w ci h0 q1 q2 q3 cL cI cJ f g h n) H.size)) (va_A (nt_w ci h0 q1 q2 q3 cL cI cJ f g h n) H.size) av) (va_A (nt_w ci h0 q1 q2 q3 cL cI cJ f g h n) H.size))
    (hP : va_P (dC, dI) vwCl (nt_w ci h0 q1 q2 q3 cL cI cJ f g h n) H) (hD : va_D A (nt_w ci h0 q1 q2 q3 cL cI cJ f g h n)) (hS : va_S A H0 H locs) (hA : ∀ q : Nat, H0.size ≤ q → A q)
    (kk : ∀ (r : Int32) (u : nt_S) (H1 : Heap) (locs1 : List Loc), post r u → va_P (dC, dI) vwCl (nt_w ci h0 q1 q2 q3 cL cI cJ u.1 u.2.1 u.2.2.1 u.2.2.2) H1 → va_D A (nt_w ci h0 q1 q2 q3 cL cI cJ u.1 u.2.1 u.2.2.1 u.2.2.2) → va_S A H0 H1 locs1 → W p l e R s m args below meth c H1 locs1 cells slots Q (F0 m (pc + 3) ls (.int r :: rest))) : W p l e R s m args below meth c H locs cells slots Q (F0 m pc ls st0) := by
  have hFc := va_free (wc := nt_w ci h0 q1 q2 q3 cL cI cJ f g h n) hD hS hA [0, 1, 2, 3] rfl
  refine va_calli hr hS (fun q _ h => hFc q h) hFc (fun r u t H1 locs1 ht hvm hw hB hz1 hk1 hS => ?_)
  obtain ⟨hP1, hK1, hD1⟩ := hB
  rw [ht] at hP1
  obtain ⟨hP2, hD2⟩ := va_join (wr := []) (w1 := nt_w ci h0 q1 q2 q3 cL cI cJ u.1 u.2.1 u.2.2.1 u.2.2.2) hP hD [0, 1, 2, 3] [] rfl rfl (by decide) (by decide) hk1 hFc hP1 hD1
  exact kk r u H1 locs1 hw hP2 hD2 hS
theorem nt_callv {post : nt_S → Prop} (hr : va_Run p l e R s m args below meth c H locs cells slots 0 0 (F0 m pc ls st0) rest (va_Qv post (nt_out dC dI ci h0 q1 q2 q3 cL cI cJ (va_A (nt_w ci h0 q1 q2 q3 cL cI cJ f g h n) H.size)) (va_A (nt_w ci h0 q1 q2 q3 cL cI cJ f g h n) H.size) av) (va_A (nt_w ci h0 q1 q2 q3 cL cI cJ f g h n) H.size))
    (hP : va_P (dC, dI) vwCl (nt_w ci h0 q1 q2 q3 cL cI cJ f g h n) H) (hD : va_D A (nt_w ci h0 q1 q2 q3 cL cI cJ f g h n)) (hS : va_S A H0 H locs) (hA : ∀ q : Nat, H0.size ≤ q → A q)
    (kk : ∀ (u : nt_S) (H1 : Heap) (locs1 : List Loc), post u → va_P (dC, dI) vwCl (nt_w ci h0 q1 q2 q3 cL cI cJ u.1 u.2.1 u.2.2.1 u.2.2.2) H1 → va_D A (nt_w ci h0 q1 q2 q3 cL cI cJ u.1 u.2.1 u.2.2.1 u.2.2.2) → va_S A H0 H1 locs1 → W p l e R s m args below meth c H1 locs1 cells slots Q (F0 m (pc + 3) ls rest)) : W p l e R s m args below meth c H locs cells slots Q (F0 m pc ls st0) := by
  have hFc := va_free (wc := nt_w ci h0 q1 q2 q3 cL cI cJ f g h n) hD hS hA [0, 1, 2, 3] rfl
  refine va_callv hr hS (fun q _ h => hFc q h) hFc (fun u t H1 locs1 ht hvm hw hB hz1 hk1 hS => ?_)
  obtain ⟨hP1, hK1, hD1⟩ := hB
  rw [ht] at hP1
  obtain ⟨hP2, hD2⟩ := va_join (wr := []) (w1 := nt_w ci h0 q1 q2 q3 cL cI cJ u.1 u.2.1 u.2.2.1 u.2.2.2) hP hD [0, 1, 2, 3] [] rfl rfl (by decide) (by decide) hk1 hFc hP1 hD1
  exact kk u H1 locs1 hw hP2 hD2 hS
/-- a call of a static method that touches no cell -/
theorem nt_calls {post : Int32 → Unit → Prop} (hr : va_Run p l e R s m args below meth c H locs cells slots 0 0 (F0 m pc ls st0) rest (va_Qi post (fun _ _ => True) (va_A [] H.size) av) (va_A [] H.size))
    (hP : va_P (dC, dI) vwCl (nt_w ci h0 q1 q2 q3 cL cI cJ f g h n) H) (hD : va_D A (nt_w ci h0 q1 q2 q3 cL cI cJ f g h n)) (hS : va_S A H0 H locs) (hA : ∀ q : Nat, H0.size ≤ q → A q)
    (kk : ∀ (r : Int32) (H1 : Heap) (locs1 : List Loc), post r () → va_P (dC, dI) vwCl (nt_w ci h0 q1 q2 q3 cL cI cJ f g h n) H1 → va_D A (nt_w ci h0 q1 q2 q3 cL cI cJ f g h n) → va_S A H0 H1 locs1 → W p l e R s m args below meth c H1 locs1 cells slots Q (F0 m (pc + 3) ls (.int r :: rest))) : W p l e R s m args below meth c H locs cells slots Q (F0 m pc ls st0) := by
  have hFc := va_free (wc := []) hD hS hA [] rfl
  refine va_calli hr hS (fun q _ h => hFc q h) hFc (fun r u t H1 locs1 ht hvm hw hB hz1 hk1 hS => ?_)
  obtain ⟨hP2, hD2⟩ := va_join (wr := nt_w ci h0 q1 q2 q3 cL cI cJ f g h n) (w1 := []) hP hD [] [0, 1, 2, 3] rfl rfl (by decide) (by decide) hk1 hFc (fun k q h => by simp at h) ⟨fun i j x y h => by simp at h, fun k q h => by simp at h⟩
  exact kk r H1 locs1 hw hP2 hD2 hS
/-- the law's calls: of two objects the first is called, and comes back behind the other -/
theorem nt_calli2 {post : Int32 → nt_S → Prop} (hr : va_Run p l e R s m args below meth c H locs cells slots 0 0 (F0 m pc ls st0) rest (va_Qi post (nt_out dC dI ci h0 q1 q2 q3 cL cI cJ (va_A (nt_w ci h0 q1 q2 q3 cL cI cJ f g h n) H.size)) (va_A (nt_w ci h0 q1 q2 q3 cL cI cJ f g h n) H.size) av) (va_A (nt_w ci h0 q1 q2 q3 cL cI cJ f g h n) H.size))
    (hP : va_P (dC, dI) vwCl (nt_w ci h0 q1 q2 q3 cL cI cJ f g h n ++ nt_w cj h9 k1 k2 k3 eL eI eJ f9 g9 i9 n9) H) (hD : va_D A (nt_w ci h0 q1 q2 q3 cL cI cJ f g h n ++ nt_w cj h9 k1 k2 k3 eL eI eJ f9 g9 i9 n9)) (hS : va_S A H0 H locs) (hA : ∀ q : Nat, H0.size ≤ q → A q)
    (kk : ∀ (r : Int32) (u : nt_S) (H1 : Heap) (locs1 : List Loc), post r u → va_P (dC, dI) vwCl (nt_w cj h9 k1 k2 k3 eL eI eJ f9 g9 i9 n9 ++ nt_w ci h0 q1 q2 q3 cL cI cJ u.1 u.2.1 u.2.2.1 u.2.2.2) H1 → va_D A (nt_w cj h9 k1 k2 k3 eL eI eJ f9 g9 i9 n9 ++ nt_w ci h0 q1 q2 q3 cL cI cJ u.1 u.2.1 u.2.2.1 u.2.2.2) → va_S A H0 H1 locs1 → W p l e R s m args below meth c H1 locs1 cells slots Q (F0 m (pc + 3) ls (.int r :: rest))) : W p l e R s m args below meth c H locs cells slots Q (F0 m pc ls st0) := by
  have hFc := va_free (wc := nt_w ci h0 q1 q2 q3 cL cI cJ f g h n) hD hS hA [0, 1, 2, 3] rfl
  refine va_calli hr hS (fun q _ h => hFc q h) hFc (fun r u t H1 locs1 ht hvm hw hB hz1 hk1 hS => ?_)
  obtain ⟨hP1, hK1, hD1⟩ := hB
  rw [ht] at hP1
  obtain ⟨hP2, hD2⟩ := va_join (wr := nt_w cj h9 k1 k2 k3 eL eI eJ f9 g9 i9 n9) (w1 := nt_w ci h0 q1 q2 q3 cL cI cJ u.1 u.2.1 u.2.2.1 u.2.2.2) hP hD [0, 1, 2, 3] [4, 5, 6, 7] rfl rfl (by decide) (by decide) hk1 hFc hP1 hD1
  exact kk r u H1 locs1 hw hP2 hD2 hS
theorem nt_calll2 {post : Int64 → nt_S → Prop} (hr : va_Run p l e R s m args below meth c H locs cells slots 0 0 (F0 m pc ls st0) rest (va_Ql post (nt_out dC dI ci h0 q1 q2 q3 cL cI cJ (va_A (nt_w ci h0 q1 q2 q3 cL cI cJ f g h n) H.size)) (va_A (nt_w ci h0 q1 q2 q3 cL cI cJ f g h n) H.size) av) (va_A (nt_w ci h0 q1 q2 q3 cL cI cJ f g h n) H.size))
    (hP : va_P (dC, dI) vwCl (nt_w ci h0 q1 q2 q3 cL cI cJ f g h n ++ nt_w cj h9 k1 k2 k3 eL eI eJ f9 g9 i9 n9) H) (hD : va_D A (nt_w ci h0 q1 q2 q3 cL cI cJ f g h n ++ nt_w cj h9 k1 k2 k3 eL eI eJ f9 g9 i9 n9)) (hS : va_S A H0 H locs) (hA : ∀ q : Nat, H0.size ≤ q → A q)
    (kk : ∀ (r : Int64) (u : nt_S) (H1 : Heap) (locs1 : List Loc), post r u → va_P (dC, dI) vwCl (nt_w cj h9 k1 k2 k3 eL eI eJ f9 g9 i9 n9 ++ nt_w ci h0 q1 q2 q3 cL cI cJ u.1 u.2.1 u.2.2.1 u.2.2.2) H1 → va_D A (nt_w cj h9 k1 k2 k3 eL eI eJ f9 g9 i9 n9 ++ nt_w ci h0 q1 q2 q3 cL cI cJ u.1 u.2.1 u.2.2.1 u.2.2.2) → va_S A H0 H1 locs1 → W p l e R s m args below meth c H1 locs1 cells slots Q (F0 m (pc + 3) ls (.long r :: rest))) : W p l e R s m args below meth c H locs cells slots Q (F0 m pc ls st0) := by
  have hFc := va_free (wc := nt_w ci h0 q1 q2 q3 cL cI cJ f g h n) hD hS hA [0, 1, 2, 3] rfl
  refine va_calll hr hS (fun q _ h => hFc q h) hFc (fun r u t H1 locs1 ht hvm hw hB hz1 hk1 hS => ?_)
  obtain ⟨hP1, hK1, hD1⟩ := hB
  rw [ht] at hP1
  obtain ⟨hP2, hD2⟩ := va_join (wr := nt_w cj h9 k1 k2 k3 eL eI eJ f9 g9 i9 n9) (w1 := nt_w ci h0 q1 q2 q3 cL cI cJ u.1 u.2.1 u.2.2.1 u.2.2.2) hP hD [0, 1, 2, 3] [4, 5, 6, 7] rfl rfl (by decide) (by decide) hk1 hFc hP1 hD1
  exact kk r u H1 locs1 hw hP2 hD2 hS
end
