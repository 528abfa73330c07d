/-! the sets in which a latch is 1; leaving a latch out -/
def L1 : Nat → Int64
  | 0 => -6148914691236517206
  | 1 => -3689348814741910324
  | 2 => -1085102592571150096
  | 3 => -71777214294589696
  | 4 => -281470681808896
  | _ => -4294967296
theorem lb_L1 : ∀ j, j < 6 → ∀ t, t < 64 → lb (L1 j) t = t.testBit j := by decide +kernel
theorem wd_1 : ∀ j, j < 6 → ∀ t, t < 64 → t.testBit j = false → 2 ^ j + t < 64 ∧ (2 ^ j + t).testBit j = true ∧ t ^^^ 2 ^ j = 2 ^ j + t := by decide +kernel
theorem wd_2 : ∀ j, j < 6 → ∀ t, t < 64 → t.testBit j = true → 2 ^ j ≤ t ∧ (t - 2 ^ j).testBit j = false ∧ t ^^^ 2 ^ j = t - 2 ^ j ∧ (2 ^ j + t).testBit j = false := by decide +kernel
theorem wd_3 : ∀ j, j < 6 → ∀ t, t < 64 → t.testBit j = false → (2 ^ j ≤ t → (t - 2 ^ j).testBit j = true) := by decide +kernel
theorem wd_4 : ∀ j, j < 6 → ∀ t, t < 64 → t ^^^ 2 ^ j < 64 ∧ (t ^^^ 2 ^ j) ^^^ 2 ^ j = t := by decide +kernel
theorem wd_5 : ∀ L, L ≤ 6 → ∀ j, j < L → ∀ t, t < 2 ^ L → t ^^^ 2 ^ j < 2 ^ L := by decide +kernel
theorem p2_64 {j : Nat} (h : j < 6) : 2 ^ j < 64 := by
  have : 2 ^ j < 2 ^ 6 := Nat.pow_lt_pow_right (by decide) h
  omega
theorem p2_le {L : Nat} (h : L ≤ 6) : 2 ^ L ≤ 64 := by
  have : 2 ^ L ≤ 2 ^ 6 := Nat.pow_le_pow_right (by decide) h
  omega
/-- a set without latch j -/
def wid (x : Int64) (j : Nat) : Int64 := (x ||| su (x &&& L1 j) (2 ^ j)) ||| sl (x &&& (L1 j ^^^ (-1))) (2 ^ j)
theorem lb_wid (x : Int64) {j t : Nat} (hj : j < 6) (ht : t < 64) : lb (wid x j) t = (lb x t || lb x (t ^^^ 2 ^ j)) := by
  have h2 := p2_64 hj
  unfold wid
  rw [lb_or, lb_or, lb_su _ h2, lb_sl _ h2 ht, lb_and, lb_and]
  cases h : t.testBit j
  · obtain ⟨a, b, c⟩ := wd_1 j hj t ht h
    rw [lb_L1 j hj _ a, b, c, Bool.and_true]
    by_cases h3 : 2 ^ j ≤ t
    · have h7 : t - 2 ^ j < 64 := Nat.lt_of_le_of_lt (Nat.sub_le _ _) ht
      rw [lb_not _ h7, lb_L1 j hj _ h7, wd_3 j hj t ht h h3]
      simp
    · simp [h3]
  · obtain ⟨a, b, c, d⟩ := wd_2 j hj t ht h
    have h7 : t - 2 ^ j < 64 := Nat.lt_of_le_of_lt (Nat.sub_le _ _) ht
    rw [lb_not _ h7, lb_L1 j hj (t - 2 ^ j) h7, b, c]
    have e : (lb x (2 ^ j + t) && lb (L1 j) (2 ^ j + t)) = false := by
      rcases Nat.lt_or_ge (2 ^ j + t) 64 with h3 | h3
      · rw [lb_L1 j hj _ h3, d, Bool.and_false]
      · rw [lb_big h3, Bool.false_and]
    rw [e]
    simp [a]
/-- the same, state by state -/
def widM (S : Nat) (x : Int64) (j : Nat) : Int64 := it (fun s a => if lb x s = true then a ||| sg (s ^^^ 2 ^ j) else a) S x
theorem widM_eq {S : Nat} (hS : S ≤ 64) {x : Int64} (hx : ∀ i, lb x i = true → i < S) {j : Nat} (hj : j < 6) : widM S x j = wid x j := by
  apply lb_iff
  intro t ht
  unfold widM
  rw [it_or (b := fun s t => decide (lb x s = true) && lb (sg (s ^^^ 2 ^ j)) t) (fun s hs a t ht => or_if _ _ _) _ ht, lb_wid x hj ht, Bool.or_eq_true, Bool.or_eq_true, anyN_iff]
  constructor
  · rintro (h | ⟨s, hs, h⟩)
    · exact Or.inl h
    · right
      have h4 := wd_4 j hj s (by omega)
      rw [Bool.and_eq_true, decide_eq_true_eq, lb_sg h4.1 ht, decide_eq_true_eq] at h
      obtain ⟨h1, h2⟩ := h
      rw [h2, h4.2]
      exact h1
  · rintro (h | h)
    · exact Or.inl h
    · right
      have h4 := wd_4 j hj t ht
      refine ⟨t ^^^ 2 ^ j, hx _ h, ?_⟩
      rw [Bool.and_eq_true, decide_eq_true_eq, h4.2, lb_sg ht ht]
      exact ⟨h, by simp⟩
theorem wid_in {L : Nat} (hL : L ≤ 6) {x : Int64} (hx : ∀ i, lb x i = true → i < 2 ^ L) {j : Nat} (hj : j < L) : ∀ i, lb (wid x j) i = true → i < 2 ^ L := by
  intro i h
  have hi := lb_lt h
  rw [lb_wid x (by omega) hi, Bool.or_eq_true] at h
  rcases h with h | h
  · exact hx i h
  · have h1 := wd_5 L hL j hj _ (hx _ h)
    rw [(wd_4 j (by omega) i hi).2] at h1
    exact h1
theorem widAll_eq {L : Nat} (hL : L ≤ 6) {far p : Int64} (hp : ∀ i, lb p i = true → i < 2 ^ L) {n : Nat} (hn : n ≤ L) :
    widAll (widM (2 ^ L)) n far p = widAll wid n far p ∧ ∀ i, lb (widAll wid n far p) i = true → i < 2 ^ L := by
  unfold widAll
  induction n with
  | zero => exact ⟨rfl, hp⟩
  | succ n ih =>
    obtain ⟨h1, h2⟩ := ih (by omega)
    rw [it_s, it_s, h1, widM_eq (p2_le hL) h2 (by omega)]
    refine ⟨rfl, ?_⟩
    intro i
    by_cases h : (wid (it (fun j a => if (wid a j &&& far) = 0 then wid a j else a) n p) n &&& far) = 0
    · rw [if_pos h]; exact wid_in hL h2 (by omega) i
    · rw [if_neg h]; exact h2 i
