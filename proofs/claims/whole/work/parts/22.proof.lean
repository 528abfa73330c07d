/-! least index -/
/-- the least k below n with P, else n -/
def lst (P : Nat → Bool) : Nat → Nat
  | 0 => 0
  | n + 1 => if lst P n < n then lst P n else if P n = true then n else n + 1
theorem lst_spec (P : Nat → Bool) (n : Nat) : lst P n ≤ n ∧ (∀ j, j < lst P n → P j = false) ∧ (lst P n < n → P (lst P n) = true) := by
  induction n with
  | zero => exact ⟨Nat.le_refl _, fun j h => absurd h (Nat.not_lt_zero _), fun h => absurd h (Nat.not_lt_zero _)⟩
  | succ n ih =>
    obtain ⟨h1, h2, h3⟩ := ih
    rw [lst]
    by_cases h : lst P n < n
    · rw [if_pos h]
      exact ⟨by omega, h2, fun _ => h3 h⟩
    · have e : lst P n = n := by omega
      rw [e] at h2
      rw [if_neg h]
      by_cases hp : P n = true
      · rw [if_pos hp]
        exact ⟨by omega, h2, fun _ => hp⟩
      · rw [if_neg hp]
        refine ⟨Nat.le_refl _, fun j hj => ?_, fun h => absurd h (Nat.lt_irrefl _)⟩
        rcases Nat.lt_or_ge j n with h4 | h4
        · exact h2 j h4
        · have : j = n := by omega
          subst this
          cases e2 : P j
          · rfl
          · exact absurd e2 hp
theorem lst_eq {P : Nat → Bool} {n k : Nat} (hk : k ≤ n) (h1 : ∀ j, j < k → P j = false) (h2 : k < n → P k = true) : lst P n = k := by
  obtain ⟨a, b, c⟩ := lst_spec P n
  rcases Nat.lt_trichotomy (lst P n) k with h | h | h
  · have h3 := h1 _ h
    rw [c (by omega)] at h3
    cases h3
  · exact h
  · have h3 := b k h
    rw [h2 (by omega)] at h3
    cases h3
theorem lst_lt {P : Nat → Bool} {n k : Nat} (hk : k < n) (h : P k = true) : lst P n ≤ k := by
  obtain ⟨a, b, c⟩ := lst_spec P n
  rcases Nat.lt_or_ge k (lst P n) with h1 | h1
  · have h2 := b k h1
    rw [h] at h2
    cases h2
  · exact h1
theorem lst_congr {P Q : Nat → Bool} {n : Nat} (h : ∀ k, k < n → P k = Q k) : lst P n = lst Q n := by
  obtain ⟨a, b, c⟩ := lst_spec Q n
  refine lst_eq a (fun j hj => ?_) (fun h1 => ?_)
  · rw [h j (by omega)]; exact b j hj
  · rw [h _ h1]; exact c h1
/-- the least below n - 1, else n - 1: the same where there is one below n -/
theorem lst_pred {P : Nat → Bool} {n k : Nat} (hk : k < n) (h : P k = true) : lst P (n - 1) = lst P n := by
  obtain ⟨a, b, c⟩ := lst_spec P n
  have h1 := lst_lt hk h
  exact lst_eq (by omega) b (fun h2 => c (by omega))
/-! the proof's rounds -/
section Rounds
variable (po : Int64 → Int64) (nr : Nat → Int64) (wd : Int64 → Nat → Int64) (L : Nat) (r0 : Int64)
def widAll (far p : Int64) : Int64 := it (fun j a => if (wd a j &&& far) = 0 then wd a j else a) L p
/-- a round; none: it was the last -/
def rnd (K : Nat) (r : Int64) : Option (Nat × Int64) :=
  if (po r &&& nr K) ≠ 0 then some (K + 1, r0)
  else if (widAll wd L (nr K) (po r) &&& (r ^^^ (-1))) = 0 then none
  else some (K, r ||| widAll wd L (nr K) (po r))
/-- rounds, at most f: K, R, how many -/
def prf : Nat → Nat → Int64 → Nat → Nat × Int64 × Nat
  | 0, K, r, n => (K, r, n)
  | f + 1, K, r, n => match rnd po nr wd L r0 K r with
    | none => (K, r, n + 1)
    | some (K', r') => prf f K' r' (n + 1)
end Rounds
section RoundsL
variable {po : Int64 → Int64} {nr : Nat → Int64} {wd : Int64 → Nat → Int64} {L : Nat} {r0 : Int64}
theorem and_c {x y : Int64} (h : (x &&& y) = 0) {i : Nat} (hi : i < 64) (hx : lb x i = true) : lb y i = false := by
  have h1 := eq0.mp h i hi
  rw [lb_and, hx, Bool.true_and] at h1
  exact h1
theorem widAll_off {far p : Int64} (h : (p &&& far) = 0) (n : Nat) : (widAll wd n far p &&& far) = 0 := by
  unfold widAll
  induction n with
  | zero => exact h
  | succ n ih =>
    rw [it_s]
    by_cases h1 : (wd (it (fun j a => if (wd a j &&& far) = 0 then wd a j else a) n p) n &&& far) = 0
    · rw [if_pos h1]; exact h1
    · rw [if_neg h1]; exact ih
/-- what falls with each round -/
def rmu (K : Nat) (r : Int64) : Nat := (64 - K) * 64 + (64 - cn r 64)
theorem rnd_falls (hcl : ∀ r, (r &&& nr 64) = 0 → (po r &&& nr 64) = 0) (h0 : ∀ K, 1 ≤ K → K ≤ 64 → (r0 &&& nr K) = 0) (hr0 : 1 ≤ cn r0 64)
    {K K' : Nat} {r r' : Int64} (hK1 : 1 ≤ K) (hK : K ≤ 64) (hr : (r &&& nr K) = 0) (h : rnd po nr wd L r0 K r = some (K', r')) :
    1 ≤ K' ∧ K' ≤ 64 ∧ (r' &&& nr K') = 0 ∧ rmu K' r' < rmu K r := by
  unfold rnd at h
  have hc := cn_le r 64
  have hc0 := cn_le r0 64
  by_cases h1 : (po r &&& nr K) ≠ 0
  · rw [if_pos h1] at h
    cases h
    have hlt : K < 64 := by
      rcases Nat.lt_or_ge K 64 with h2 | h2
      · exact h2
      · have : K = 64 := by omega
        subst this
        exact absurd (hcl r hr) h1
    refine ⟨by omega, by omega, h0 _ (by omega) (by omega), ?_⟩
    unfold rmu
    have e : 64 - K = (64 - (K + 1)) + 1 := by omega
    rw [e, Nat.add_mul]
    omega
  · rw [if_neg h1] at h
    by_cases h2 : (widAll wd L (nr K) (po r) &&& (r ^^^ (-1))) = 0
    · rw [if_pos h2] at h; cases h
    · rw [if_neg h2] at h
      cases h
      have h3 : (po r &&& nr K) = 0 := Classical.byContradiction h1
      have h4 := widAll_off (wd := wd) h3 L
      refine ⟨hK1, hK, ?_, ?_⟩
      · rw [eq0]
        intro i hi
        rw [lb_and, lb_or]
        have e1 := eq0.mp hr i hi
        have e2 := eq0.mp h4 i hi
        rw [lb_and] at e1 e2
        revert e1 e2
        cases lb r i <;> cases lb (widAll wd L (nr K) (po r)) i <;> cases lb (nr K) i <;> simp
      · obtain ⟨j, hj, e⟩ := ne0.mp h2
        rw [lb_and, lb_not r hj, Bool.and_eq_true] at e
        obtain ⟨e1, e2⟩ := e
        have h5 : cn r 64 < cn (r ||| widAll wd L (nr K) (po r)) 64 := cn_lt (j := j) (fun i _ h => by rw [lb_or, h]; rfl) hj (by simpa using e2) (by rw [lb_or, e1, Bool.or_true])
        have h6 := cn_le (r ||| widAll wd L (nr K) (po r)) 64
        unfold rmu
        omega
/-- with room enough the rounds end by themselves: more room is no matter -/
theorem prf_room (hcl : ∀ r, (r &&& nr 64) = 0 → (po r &&& nr 64) = 0) (h0 : ∀ K, 1 ≤ K → K ≤ 64 → (r0 &&& nr K) = 0) (hr0 : 1 ≤ cn r0 64) :
    ∀ (f g K : Nat) (r : Int64) (n : Nat), 1 ≤ K → K ≤ 64 → (r &&& nr K) = 0 → rmu K r < f → rmu K r < g → prf po nr wd L r0 f K r n = prf po nr wd L r0 g K r n := by
  intro f
  induction f with
  | zero => intro g K r n _ _ _ h; omega
  | succ f ih =>
    intro g K r n hK1 hK hr hf hg
    obtain ⟨g, rfl⟩ : ∃ g', g = g' + 1 := ⟨g - 1, by omega⟩
    rw [prf, prf]
    cases h : rnd po nr wd L r0 K r with
    | none => rfl
    | some q =>
      obtain ⟨K', r'⟩ := q
      obtain ⟨a, b, c, d⟩ := rnd_falls hcl h0 hr0 hK1 hK hr h
      exact ih g K' r' (n + 1) a b c (by omega) (by omega)
end RoundsL
