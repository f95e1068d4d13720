/-! A table of names as numbers: three rows and a count; what each call makes of it. Both sides are tied to these words. -/
abbrev nt_S : Type := (Nat → Int64) × (Nat → Int32) × (Nat → Int32) × Nat
/-- a name as one number: first by its ID, then by its INDEX -/
def nt_k (a : Int64) (b : Int32) : Int := a.toInt * 4294967296 + b.toInt
theorem nt_k_lt (a c : Int64) (b d : Int32) : nt_k a b < nt_k c d ↔ (a < c ∨ (a = c ∧ b < d)) := by
  have h1 := Int32.toInt_lt b
  have h2 := Int32.le_toInt b
  have h3 := Int32.toInt_lt d
  have h4 := Int32.le_toInt d
  rw [Int64.lt_iff_toInt_lt, Int32.lt_iff_toInt_lt, ← Int64.toInt_inj]
  unfold nt_k
  constructor
  · intro h
    by_cases e : a.toInt = c.toInt
    · exact Or.inr ⟨e, by omega⟩
    · exact Or.inl (by omega)
  · rintro (h | ⟨e, h⟩) <;> omega
theorem nt_k_eq (a c : Int64) (b d : Int32) : nt_k a b = nt_k c d ↔ (a = c ∧ b = d) := by
  have h1 := Int32.toInt_lt b
  have h2 := Int32.le_toInt b
  have h3 := Int32.toInt_lt d
  have h4 := Int32.le_toInt d
  rw [← Int32.toInt_inj, ← Int64.toInt_inj]
  unfold nt_k
  constructor
  · intro h
    exact ⟨by omega, by omega⟩
  · rintro ⟨e, h⟩
    omega
def nt_K (st : nt_S) (j : Nat) : Int := nt_k (st.1 j) (st.2.1 j)
def nt_srt (st : nt_S) : Prop := ∀ i j : Nat, i ≤ j → j < st.2.2.2 → nt_K st i ≤ nt_K st j
def nt_ok (st : nt_S) : Prop := st.2.2.2 ≤ 900 ∧ nt_srt st
/-- p is the place of the name κ -/
def nt_at (st : nt_S) (κ : Int) (p : Nat) : Prop := p ≤ st.2.2.2 ∧ (∀ j, j < p → nt_K st j < κ) ∧ (p < st.2.2.2 → κ ≤ nt_K st p)
def nt_go (st : nt_S) (κ : Int) : Nat → Nat → Nat
  | 0, k => k
  | m + 1, k => if nt_K st k < κ then nt_go st κ m (k + 1) else k
def nt_pl (st : nt_S) (κ : Int) : Nat := nt_go st κ st.2.2.2 0
theorem nt_go_at (st : nt_S) (κ : Int) : ∀ (m k : Nat), k + m = st.2.2.2 → (∀ j, j < k → nt_K st j < κ) → nt_at st κ (nt_go st κ m k) := by
  intro m
  induction m with
  | zero =>
    intro k hk hj
    exact ⟨by show k ≤ _; omega, hj, fun h => absurd h (by show ¬ k < _; omega)⟩
  | succ m ih =>
    intro k hk hj
    unfold nt_go
    by_cases h : nt_K st k < κ
    · rw [if_pos h]
      exact ih (k + 1) (by omega) (fun j h9 => by
        by_cases h8 : j < k
        · exact hj j h8
        · rw [show j = k by omega]; exact h)
    · rw [if_neg h]
      exact ⟨by omega, hj, fun _ => Int.not_lt.mp h⟩
theorem nt_pl_at (st : nt_S) (κ : Int) : nt_at st κ (nt_pl st κ) := nt_go_at st κ _ 0 (Nat.zero_add _) (fun j h => absurd h (Nat.not_lt_zero j))
theorem nt_at_one {st : nt_S} {κ : Int} {p q : Nat} (h : nt_at st κ p) (h' : nt_at st κ q) : p = q := by
  rcases Nat.lt_trichotomy p q with e | e | e
  · exact absurd (h'.2.1 p e) (Int.not_lt.mpr (h.2.2 (Nat.lt_of_lt_of_le e h'.1)))
  · exact e
  · exact absurd (h.2.1 q e) (Int.not_lt.mpr (h'.2.2 (Nat.lt_of_lt_of_le e h.1)))
theorem nt_at_pl {st : nt_S} {κ : Int} {p : Nat} (h : nt_at st κ p) : nt_pl st κ = p := nt_at_one (nt_pl_at st κ) h
/-- the coin at p has this name -/
abbrev nt_is (st : nt_S) (id : Int64) (ix : Int32) (p : Nat) : Prop := p < st.2.2.2 ∧ st.1 p = id ∧ st.2.1 p = ix
-- rows that move
def nt_up {α : Type} (f : Nat → α) (k : Nat) (x : α) : Nat → α := fun j => if j = k then x else f j
def nt_ins {α : Type} (f : Nat → α) (n p : Nat) (x : α) : Nat → α := fun j => if j = p then x else if p < j ∧ j ≤ n then f (j - 1) else f j
def nt_del {α : Type} (f : Nat → α) (n p : Nat) : Nat → α := fun j => if p ≤ j ∧ j + 1 < n then f (j + 1) else f j
theorem nt_ins_lo {α : Type} {f : Nat → α} {n p j : Nat} {x : α} (h : j < p) : nt_ins f n p x j = f j := by
  unfold nt_ins
  rw [if_neg (by omega), if_neg (by omega)]
theorem nt_ins_at {α : Type} {f : Nat → α} {n p : Nat} {x : α} : nt_ins f n p x p = x := by
  unfold nt_ins
  rw [if_pos rfl]
theorem nt_ins_hi {α : Type} {f : Nat → α} {n p j : Nat} {x : α} (h : p < j) (h2 : j ≤ n) : nt_ins f n p x j = f (j - 1) := by
  unfold nt_ins
  rw [if_neg (by omega), if_pos ⟨h, h2⟩]
theorem nt_ins_cpy {α : Type} (f : Nat → α) {n p : Nat} (h : p ≤ n) (x : α) : nt_up (va_cpy f f p (p + 1) (n - p)) p x = nt_ins f n p x := by
  funext j
  unfold nt_up nt_ins va_cpy
  by_cases e : j = p
  · rw [if_pos e, if_pos e]
  · rw [if_neg e, if_neg e]
    by_cases e2 : p < j ∧ j ≤ n
    · rw [if_pos e2, if_pos (by omega)]
      exact congrArg f (by omega)
    · rw [if_neg e2, if_neg (by omega)]
theorem nt_del_cpy {α : Type} (f : Nat → α) {n p : Nat} (h : p < n) : va_cpy f f (p + 1) p (n - (p + 1)) = nt_del f n p := by
  funext j
  unfold nt_del va_cpy
  by_cases e2 : p ≤ j ∧ j + 1 < n
  · rw [if_pos e2, if_pos (by omega)]
    exact congrArg f (by omega)
  · rw [if_neg e2, if_neg (by omega)]
/-- the reference's way in: from above, one by one -/
def nt_sh {α : Type} (f : Nat → α) (n k : Nat) : Nat → α := fun j => if k < j ∧ j ≤ n then f (j - 1) else f j
theorem nt_sh_0 {α : Type} (f : Nat → α) (n : Nat) : nt_sh f n n = f := by
  funext j
  unfold nt_sh
  rw [if_neg (by omega)]
theorem nt_sh_lo {α : Type} {f : Nat → α} {n k j : Nat} (h : j ≤ k) : nt_sh f n k j = f j := by
  unfold nt_sh
  rw [if_neg (by omega)]
theorem nt_sh_s {α : Type} (f : Nat → α) {n k : Nat} (h : k + 1 ≤ n) : nt_up (nt_sh f n (k + 1)) (k + 1) (nt_sh f n (k + 1) k) = nt_sh f n k := by
  funext j
  rw [nt_sh_lo (Nat.le_succ k)]
  unfold nt_up nt_sh
  by_cases e : j = k + 1
  · rw [if_pos e, if_pos (by omega)]
    exact congrArg f (by omega)
  · rw [if_neg e]
    by_cases e2 : k + 1 < j ∧ j ≤ n
    · rw [if_pos e2, if_pos (by omega)]
    · rw [if_neg e2, if_neg (by omega)]
theorem nt_sh_e {α : Type} (f : Nat → α) (n p : Nat) (x : α) : nt_up (nt_sh f n p) p x = nt_ins f n p x := rfl
/-- and its way out: from below -/
def nt_sl {α : Type} (f : Nat → α) (p k : Nat) : Nat → α := fun j => if p ≤ j ∧ j < k then f (j + 1) else f j
theorem nt_sl_0 {α : Type} (f : Nat → α) (p : Nat) : nt_sl f p p = f := by
  funext j
  unfold nt_sl
  rw [if_neg (by omega)]
theorem nt_sl_hi {α : Type} {f : Nat → α} {p k j : Nat} (h : k ≤ j) : nt_sl f p k j = f j := by
  unfold nt_sl
  rw [if_neg (by omega)]
theorem nt_sl_s {α : Type} (f : Nat → α) {p k : Nat} (h : p ≤ k) : nt_up (nt_sl f p k) k (nt_sl f p k (k + 1)) = nt_sl f p (k + 1) := by
  funext j
  rw [nt_sl_hi (Nat.le_succ k)]
  unfold nt_up nt_sl
  by_cases e : j = k
  · rw [if_pos e, if_pos (by omega), e]
  · rw [if_neg e]
    by_cases e2 : p ≤ j ∧ j < k
    · rw [if_pos e2, if_pos (by omega)]
    · rw [if_neg e2, if_neg (by omega)]
theorem nt_sl_e {α : Type} (f : Nat → α) {n p : Nat} : nt_sl f p (n - 1) = nt_del f n p := by
  funext j
  unfold nt_sl nt_del
  by_cases e2 : p ≤ j ∧ j + 1 < n
  · rw [if_pos e2, if_pos (by omega)]
  · rw [if_neg e2, if_neg (by omega)]
-- a coin comes, a coin goes
def nt_insS (st : nt_S) (p : Nat) (id : Int64) (ix v : Int32) : nt_S := (nt_ins st.1 st.2.2.2 p id, nt_ins st.2.1 st.2.2.2 p ix, nt_ins st.2.2.1 st.2.2.2 p v, st.2.2.2 + 1)
def nt_delS (st : nt_S) (p : Nat) : nt_S := (nt_del st.1 st.2.2.2 p, nt_del st.2.1 st.2.2.2 p, nt_del st.2.2.1 st.2.2.2 p, st.2.2.2 - 1)
theorem nt_K_ins (st : nt_S) (p : Nat) (id : Int64) (ix v : Int32) (j : Nat) : nt_K (nt_insS st p id ix v) j = nt_ins (nt_K st) st.2.2.2 p (nt_k id ix) j := by
  show nt_k (nt_ins st.1 st.2.2.2 p id j) (nt_ins st.2.1 st.2.2.2 p ix j) = _
  unfold nt_ins
  by_cases e : j = p
  · rw [if_pos e, if_pos e, if_pos e]
  · rw [if_neg e, if_neg e, if_neg e]
    by_cases e2 : p < j ∧ j ≤ st.2.2.2
    · rw [if_pos e2, if_pos e2, if_pos e2]; rfl
    · rw [if_neg e2, if_neg e2, if_neg e2]; rfl
theorem nt_K_del (st : nt_S) (p j : Nat) : nt_K (nt_delS st p) j = nt_del (nt_K st) st.2.2.2 p j := by
  show nt_k (nt_del st.1 st.2.2.2 p j) (nt_del st.2.1 st.2.2.2 p j) = _
  unfold nt_del
  by_cases e2 : p ≤ j ∧ j + 1 < st.2.2.2
  · rw [if_pos e2, if_pos e2, if_pos e2]; rfl
  · rw [if_neg e2, if_neg e2, if_neg e2]; rfl
theorem nt_ok_ins {st : nt_S} (h : nt_ok st) (hn : st.2.2.2 < 900) {p : Nat} {id : Int64} {ix : Int32} (hp : nt_at st (nt_k id ix) p) (v : Int32) : nt_ok (nt_insS st p id ix v) := by
  refine ⟨by show st.2.2.2 + 1 ≤ 900; omega, fun i j hij hj => ?_⟩
  have hj : j < st.2.2.2 + 1 := hj
  have hge : ∀ q, p ≤ q → q < st.2.2.2 → nt_k id ix ≤ nt_K st q := fun q h1 h2 => Int.le_trans (hp.2.2 (by omega)) (h.2 p q h1 h2)
  rw [nt_K_ins, nt_K_ins]
  rcases Nat.lt_trichotomy i p with hi | hi | hi
  · rw [nt_ins_lo hi]
    rcases Nat.lt_trichotomy j p with h2 | h2 | h2
    · rw [nt_ins_lo h2]
      exact h.2 i j hij (Nat.lt_of_lt_of_le h2 hp.1)
    · rw [h2, nt_ins_at]
      exact Int.le_of_lt (hp.2.1 i hi)
    · rw [nt_ins_hi h2 (by omega)]
      exact h.2 i (j - 1) (by omega) (by omega)
  · rw [hi, nt_ins_at]
    rcases Nat.lt_trichotomy j p with h2 | h2 | h2
    · omega
    · rw [h2, nt_ins_at]
      exact Int.le_refl _
    · rw [nt_ins_hi h2 (by omega)]
      exact hge (j - 1) (by omega) (by omega)
  · rw [nt_ins_hi hi (by omega), nt_ins_hi (show p < j by omega) (by omega)]
    exact h.2 (i - 1) (j - 1) (by omega) (by omega)
theorem nt_ok_del {st : nt_S} (h : nt_ok st) (p : Nat) : nt_ok (nt_delS st p) := by
  refine ⟨by show st.2.2.2 - 1 ≤ 900; have := h.1; omega, fun i j hij hj => ?_⟩
  have hj : j < st.2.2.2 - 1 := hj
  rw [nt_K_del, nt_K_del]
  unfold nt_del
  by_cases e1 : p ≤ i ∧ i + 1 < st.2.2.2
  · rw [if_pos e1, if_pos (by omega)]
    exact h.2 (i + 1) (j + 1) (by omega) (by omega)
  · rw [if_neg e1]
    by_cases e2 : p ≤ j ∧ j + 1 < st.2.2.2
    · rw [if_pos e2]
      exact h.2 i (j + 1) (by omega) (by omega)
    · rw [if_neg e2]
      exact h.2 i j hij (by omega)
-- the calls
def nt_add (st : nt_S) (id : Int64) (ix v : Int32) : Int32 × nt_S :=
  if ix < 0 ∨ 7 < ix ∨ v < 0 then (-1, st)
  else if nt_is st id ix (nt_pl st (nt_k id ix)) then (-3, st)
  else if st.2.2.2 = 900 then (-4, st)
  else (nI (st.2.2.2 + 1), nt_insS st (nt_pl st (nt_k id ix)) id ix v)
theorem nt_add_bad {st : nt_S} {id : Int64} {ix v : Int32} (h : ix < 0 ∨ 7 < ix ∨ v < 0) : ((-1 : Int32), st) = nt_add st id ix v := by
  unfold nt_add
  rw [if_pos h]
theorem nt_add_there {st : nt_S} {id : Int64} {ix v : Int32} {p : Nat} (h : ¬ (ix < 0 ∨ 7 < ix ∨ v < 0)) (hp : nt_at st (nt_k id ix) p) (h2 : nt_is st id ix p) : ((-3 : Int32), st) = nt_add st id ix v := by
  unfold nt_add
  rw [nt_at_pl hp, if_neg h, if_pos h2]
theorem nt_add_full {st : nt_S} {id : Int64} {ix v : Int32} {p : Nat} (h : ¬ (ix < 0 ∨ 7 < ix ∨ v < 0)) (hp : nt_at st (nt_k id ix) p) (h2 : ¬ nt_is st id ix p) (h3 : st.2.2.2 = 900) : ((-4 : Int32), st) = nt_add st id ix v := by
  unfold nt_add
  rw [nt_at_pl hp, if_neg h, if_neg h2, if_pos h3]
theorem nt_add_new {st : nt_S} {id : Int64} {ix v : Int32} {p : Nat} (h : ¬ (ix < 0 ∨ 7 < ix ∨ v < 0)) (hp : nt_at st (nt_k id ix) p) (h2 : ¬ nt_is st id ix p) (h3 : ¬ st.2.2.2 = 900) : (nI (st.2.2.2 + 1), nt_insS st p id ix v) = nt_add st id ix v := by
  unfold nt_add
  rw [nt_at_pl hp, if_neg h, if_neg h2, if_neg h3]
theorem nt_add_cases (st : nt_S) (id : Int64) (ix v : Int32) (hn : st.2.2.2 ≤ 900) :
    ((nt_add st id ix v).2 = st ∧ ¬ 0 < (nt_add st id ix v).1) ∨ (st.2.2.2 < 900 ∧ (nt_add st id ix v).2 = nt_insS st (nt_pl st (nt_k id ix)) id ix v ∧ 0 < (nt_add st id ix v).1) := by
  unfold nt_add
  by_cases h : ix < 0 ∨ 7 < ix ∨ v < 0
  · rw [if_pos h]
    exact Or.inl ⟨rfl, by show ¬ (0 : Int32) < -1; decide⟩
  · rw [if_neg h]
    by_cases h2 : nt_is st id ix (nt_pl st (nt_k id ix))
    · rw [if_pos h2]
      exact Or.inl ⟨rfl, by show ¬ (0 : Int32) < -3; decide⟩
    · rw [if_neg h2]
      by_cases h3 : st.2.2.2 = 900
      · rw [if_pos h3]
        exact Or.inl ⟨rfl, by show ¬ (0 : Int32) < -4; decide⟩
      · rw [if_neg h3]
        exact Or.inr ⟨by omega, rfl, by
          show nI 0 < nI (st.2.2.2 + 1)
          exact nI_lt (by omega) (by omega)⟩
theorem nt_add_ok {st : nt_S} (h : nt_ok st) (id : Int64) (ix v : Int32) : nt_ok (nt_add st id ix v).2 := by
  rcases nt_add_cases st id ix v h.1 with ⟨e, -⟩ | ⟨h2, e, -⟩
  · rw [e]; exact h
  · rw [e]; exact nt_ok_ins h h2 (nt_pl_at _ _) v
/-- the state after the first k of some's coins -/
def nt_sm (st : nt_S) (id step : Int64) (v : Int32) : Nat → nt_S
  | 0 => st
  | k + 1 => (nt_add (nt_sm st id step v k) (id + (nI k).toInt64 * step) (nI k - nI k / 8 * 8) v).2
theorem nt_sm_ok {st : nt_S} (h : nt_ok st) (id step : Int64) (v : Int32) : ∀ k, nt_ok (nt_sm st id step v k) ∧ st.2.2.2 ≤ (nt_sm st id step v k).2.2.2 := by
  intro k
  induction k with
  | zero => exact ⟨h, Nat.le_refl _⟩
  | succ k ih =>
    refine ⟨nt_add_ok ih.1 _ _ _, ?_⟩
    show _ ≤ (nt_add (nt_sm st id step v k) (id + (nI k).toInt64 * step) (nI k - nI k / 8 * 8) v).2.2.2.2
    rcases nt_add_cases (nt_sm st id step v k) (id + (nI k).toInt64 * step) (nI k - nI k / 8 * 8) v ih.1.1 with ⟨e, -⟩ | ⟨h2, e, -⟩
    · rw [e]; exact ih.2
    · rw [e]; exact Nat.le_succ_of_le ih.2
def nt_some (st : nt_S) (id step : Int64) (m v : Int32) : Int32 × nt_S :=
  if m < 1 ∨ 100 < m ∨ v < 0 then (-1, st)
  else (nI ((nt_sm st id step v m.toNatClampNeg).2.2.2 - st.2.2.2), nt_sm st id step v m.toNatClampNeg)
theorem nt_some_bad {st : nt_S} {id step : Int64} {m v : Int32} (h : m < 1 ∨ 100 < m ∨ v < 0) : ((-1 : Int32), st) = nt_some st id step m v := by
  unfold nt_some
  rw [if_pos h]
theorem nt_some_did {st : nt_S} {id step : Int64} {m v : Int32} {k : Nat} (h : ¬ (m < 1 ∨ 100 < m ∨ v < 0)) (hk : m = nI k) (hk2 : k ≤ 100) : (nI ((nt_sm st id step v k).2.2.2 - st.2.2.2), nt_sm st id step v k) = nt_some st id step m v := by
  unfold nt_some
  rw [if_neg h, hk, nI_clamp (by omega)]
theorem nt_some_ok {st : nt_S} (h : nt_ok st) (id step : Int64) (m v : Int32) : nt_ok (nt_some st id step m v).2 := by
  unfold nt_some
  by_cases e : m < 1 ∨ 100 < m ∨ v < 0
  · rw [if_pos e]; exact h
  · rw [if_neg e]; exact (nt_sm_ok h id step v _).1
/-- some's n is a number from 1 to 100 -/
theorem nt_some_k {m : Int32} (h1 : ¬ m < 1) (h2 : ¬ 100 < m) : ∃ k : Nat, k ≤ 100 ∧ m = nI k := by
  refine nI_of2 (M := 100) (n := 100) (by decide) (fun h => h1 ?_) (Int32.not_lt.mp h2)
  exact Int32.lt_trans h (by decide)
def nt_rem (st : nt_S) (id : Int64) (ix : Int32) : Int32 × nt_S :=
  if ix < 0 ∨ 7 < ix then (-1, st)
  else if nt_is st id ix (nt_pl st (nt_k id ix)) then (st.2.2.1 (nt_pl st (nt_k id ix)), nt_delS st (nt_pl st (nt_k id ix)))
  else (-2, st)
theorem nt_rem_bad {st : nt_S} {id : Int64} {ix : Int32} (h : ix < 0 ∨ 7 < ix) : ((-1 : Int32), st) = nt_rem st id ix := by
  unfold nt_rem
  rw [if_pos h]
theorem nt_rem_none {st : nt_S} {id : Int64} {ix : Int32} {p : Nat} (h : ¬ (ix < 0 ∨ 7 < ix)) (hp : nt_at st (nt_k id ix) p) (h2 : ¬ nt_is st id ix p) : ((-2 : Int32), st) = nt_rem st id ix := by
  unfold nt_rem
  rw [nt_at_pl hp, if_neg h, if_neg h2]
theorem nt_rem_did {st : nt_S} {id : Int64} {ix : Int32} {p : Nat} (h : ¬ (ix < 0 ∨ 7 < ix)) (hp : nt_at st (nt_k id ix) p) (h2 : nt_is st id ix p) : (st.2.2.1 p, nt_delS st p) = nt_rem st id ix := by
  unfold nt_rem
  rw [nt_at_pl hp, if_neg h, if_pos h2]
theorem nt_rem_ok {st : nt_S} (h : nt_ok st) (id : Int64) (ix : Int32) : nt_ok (nt_rem st id ix).2 := by
  unfold nt_rem
  by_cases e : ix < 0 ∨ 7 < ix
  · rw [if_pos e]; exact h
  · rw [if_neg e]
    by_cases e2 : nt_is st id ix (nt_pl st (nt_k id ix))
    · rw [if_pos e2]; exact nt_ok_del h _
    · rw [if_neg e2]; exact h
def nt_take (st : nt_S) (k : Int32) : Int32 × nt_S :=
  if k < 0 ∨ nI st.2.2.2 ≤ k then (-2, st) else (st.2.2.1 k.toNatClampNeg, nt_delS st k.toNatClampNeg)
theorem nt_take_none {st : nt_S} {k : Int32} (h : k < 0 ∨ nI st.2.2.2 ≤ k) : ((-2 : Int32), st) = nt_take st k := by
  unfold nt_take
  rw [if_pos h]
theorem nt_out_of {k : Int32} {n j : Nat} (hn : n ≤ 900) (hj : j < n) (hk : k = nI j) : ¬ (k < 0 ∨ nI n ≤ k) := by
  subst hk
  rintro (h | h)
  · exact nI_pos (by omega) h
  · exact nI_ge hj (by omega) h
theorem nt_take_did {st : nt_S} {k : Int32} {j : Nat} (hn : st.2.2.2 ≤ 900) (hj : j < st.2.2.2) (hk : k = nI j) : (st.2.2.1 j, nt_delS st j) = nt_take st k := by
  unfold nt_take
  rw [if_neg (nt_out_of hn hj hk), hk, nI_clamp (by omega)]
theorem nt_take_ok {st : nt_S} (h : nt_ok st) (k : Int32) : nt_ok (nt_take st k).2 := by
  unfold nt_take
  by_cases e : k < 0 ∨ nI st.2.2.2 ≤ k
  · rw [if_pos e]; exact h
  · rw [if_neg e]; exact nt_ok_del h _
def nt_get (st : nt_S) (id : Int64) (ix : Int32) : Int32 :=
  if ix < 0 ∨ 7 < ix then -1 else if nt_is st id ix (nt_pl st (nt_k id ix)) then st.2.2.1 (nt_pl st (nt_k id ix)) else -2
theorem nt_get_bad {st : nt_S} {id : Int64} {ix : Int32} (h : ix < 0 ∨ 7 < ix) : (-1 : Int32) = nt_get st id ix := by
  unfold nt_get
  rw [if_pos h]
theorem nt_get_none {st : nt_S} {id : Int64} {ix : Int32} {p : Nat} (h : ¬ (ix < 0 ∨ 7 < ix)) (hp : nt_at st (nt_k id ix) p) (h2 : ¬ nt_is st id ix p) : (-2 : Int32) = nt_get st id ix := by
  unfold nt_get
  rw [nt_at_pl hp, if_neg h, if_neg h2]
theorem nt_get_is {st : nt_S} {id : Int64} {ix : Int32} {p : Nat} (h : ¬ (ix < 0 ∨ 7 < ix)) (hp : nt_at st (nt_k id ix) p) (h2 : nt_is st id ix p) : st.2.2.1 p = nt_get st id ix := by
  unfold nt_get
  rw [nt_at_pl hp, if_neg h, if_pos h2]
def nt_name (st : nt_S) (k : Int32) : Int64 := if k < 0 ∨ nI st.2.2.2 ≤ k then 0 else st.1 k.toNatClampNeg
theorem nt_name_none {st : nt_S} {k : Int32} (h : k < 0 ∨ nI st.2.2.2 ≤ k) : (0 : Int64) = nt_name st k := by
  unfold nt_name
  rw [if_pos h]
theorem nt_name_is {st : nt_S} {k : Int32} {j : Nat} (hn : st.2.2.2 ≤ 900) (hj : j < st.2.2.2) (hk : k = nI j) : st.1 j = nt_name st k := by
  unfold nt_name
  rw [if_neg (nt_out_of hn hj hk), hk, nI_clamp (by omega)]
def nt_index (st : nt_S) (k : Int32) : Int32 := if k < 0 ∨ nI st.2.2.2 ≤ k then -2 else st.2.1 k.toNatClampNeg
theorem nt_index_none {st : nt_S} {k : Int32} (h : k < 0 ∨ nI st.2.2.2 ≤ k) : (-2 : Int32) = nt_index st k := by
  unfold nt_index
  rw [if_pos h]
theorem nt_index_is {st : nt_S} {k : Int32} {j : Nat} (hn : st.2.2.2 ≤ 900) (hj : j < st.2.2.2) (hk : k = nI j) : st.2.1 j = nt_index st k := by
  unfold nt_index
  rw [if_neg (nt_out_of hn hj hk), hk, nI_clamp (by omega)]
def nt_sum (h : Nat → Int32) : Nat → Int64
  | 0 => 0
  | k + 1 => nt_sum h k + (h k).toInt64
/-- a boolean answer -/
def nt_b (r : Int32) (P : Prop) : Prop := (r = 1 ∧ P) ∨ (r = 0 ∧ ¬ P)
theorem nt_ix8 (x : Int32) : 8 ≤ x ↔ 7 < x := by
  have e8 : (8 : Int32).toInt = 8 := by decide
  have e7 : (7 : Int32).toInt = 7 := by decide
  rw [Int32.le_iff_toInt_le, Int32.lt_iff_toInt_lt, e8, e7]
  omega
