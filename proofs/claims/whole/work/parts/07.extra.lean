/-! The two constructors' start, the law's script. -/
def nt_0 : nt_S := (fun _ => 0, fun _ => 0, fun _ => 0, 0)
theorem nt_0_ok : nt_ok nt_0 := ⟨Nat.zero_le _, fun _ j _ h => absurd h (Nat.not_lt_zero j)⟩
/-- the addresses and array kinds of a new object -/
abbrev nt_N : Type := Nat × Nat × Nat × ClassId × ClassId × ClassId
abbrev nt_new (dC : Nat → ClassId) (dI : Nat → Nat → Nat) (ci h0 : Nat) (A : Nat → Prop) (u : nt_N) (t : State) : Prop := nt_out dC dI ci h0 u.1 u.2.1 u.2.2.1 u.2.2.2.1 u.2.2.2.2.1 u.2.2.2.2.2 A nt_0 t
theorem nt_zl : ∀ cA : ClassId, vp_cell cA (900, .inr (.inl (fun _ => 0))) = arrV cA 900 (fun _ => defaultValue .long) := fun _ => rfl
theorem nt_zi : ∀ cA : ClassId, vp_cell cA (900, .inl (fun _ => 0)) = arrV cA 900 (fun _ => defaultValue .int) := fun _ => rfl
section
variable {p : Program} {l : Launch} {e : Env} {R : Room} {s : State} {m : MethodId} {args : Array Value} {below : List Frame} {meth : Method} {c : Code} {H H0 : Heap} {locs : List Loc} {cells slots : Nat} {Q : State → Prop}
variable {cc : ByteArray} {pc : Nat} {ls : Array Slot} {rest : List Value} {A : Nat → Prop}
theorem nt_sld (hexec : p.tables.exec = Jvm.exec) (hb : c.code = cc) {b L : Nat} {xs : Nat → Int32} (hX : va_X b L xs s H0) (hbl : b < H0.size) (hbA : ¬ A b) (hS : va_S A H0 H locs) {j : Nat} (hj : j < L) (hL : L ≤ 3584) (hdg : decode cc pc = .ok (.iaload, 1))
    (kk : W p l e R s m args below meth c H locs cells slots Q (F0 m (pc + 1) ls (.int (xs j) :: rest))) : W p l e R s m args below meth c H locs cells slots Q (F0 m pc ls (.int (nI j) :: .ref b :: rest)) :=
  va_sld hexec hb hX hbl hbA hS (vp_in_nI hj (by omega)) hdg (by rw [nI_clamp (by omega)]; exact kk)
end
