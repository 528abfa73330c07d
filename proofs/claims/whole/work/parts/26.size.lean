/-! how many functions hang on a latch -/
theorem sz_m : ∀ j, j < 6 → ∀ t, t < 64 → ((t % 2 ^ (j + 1) = 0) ↔ (t % 2 ^ j = 0 ∧ t.testBit j = false)) := by decide +kernel
/-- the states in which the latches below j are 0 -/
def lz (S : Nat) : Nat → Int64
  | 0 => su (-1) (64 - S)
  | j + 1 => lz S j &&& (L1 j ^^^ (-1))
theorem lb_lz {S : Nat} (hS : S ≤ 64) (h1 : 1 ≤ S) {j : Nat} (hj : j ≤ 6) {t : Nat} (ht : t < 64) : lb (lz S j) t = (decide (t < S) && decide (t % 2 ^ j = 0)) := by
  induction j with
  | zero =>
    rw [lz, lb_su _ (by omega)]
    have e : decide (t % 2 ^ 0 = 0) = true := by simp [Nat.mod_one]
    rw [e, Bool.and_true]
    rcases Nat.lt_or_ge t S with h | h
    · rw [lb_m1 _ (by omega), decide_eq_true h]
    · rw [lb_big (by omega), decide_eq_false (by omega)]
  | succ j ih =>
    rw [lz, lb_and, ih (by omega), lb_not _ ht, lb_L1 j (by omega) t ht]
    have h := sz_m j (by omega) t ht
    by_cases a : t % 2 ^ j = 0 <;> cases b : t.testBit j <;> simp_all
/-- the class's function at low, and the reference's -/
def fnC (S : Nat) (x : Int64) (j a : Nat) : Int64 := su x a &&& lz S j
def fnM (S : Nat) (x : Int64) (j a : Nat) : Int64 := it (fun t v => v ||| sl (sr x (a + t * 2 ^ j) &&& 1) t) (S / 2 ^ j) 0
theorem lb_fnC {S : Nat} (hS : S ≤ 64) (h1 : 1 ≤ S) (x : Int64) {j a : Nat} (hj : j ≤ 6) (ha : a < 64) {t : Nat} (ht : t < 64) : lb (fnC S x j a) t = (lb x (a + t) && (decide (t < S) && decide (t % 2 ^ j = 0))) := by
  unfold fnC
  rw [lb_and, lb_su _ ha, lb_lz hS h1 hj ht]
theorem lb_and1 (y : Int64) {i : Nat} (hi : i < 64) : lb (y &&& 1) i = (lb y 0 && decide (i = 0)) := by
  rw [lb_and, lb_1 i hi]
  by_cases e : i = 0
  · subst e; rfl
  · rw [decide_eq_false e, Bool.and_false, Bool.and_false]
theorem lb_fnM {S : Nat} (hS : S ≤ 64) (x : Int64) {j a : Nat} (ha : ∀ t, t < S / 2 ^ j → a + t * 2 ^ j < 64) {t : Nat} (ht : t < 64) : lb (fnM S x j a) t = (decide (t < S / 2 ^ j) && lb x (a + t * 2 ^ j)) := by
  unfold fnM
  have hq : S / 2 ^ j ≤ 64 := Nat.le_trans (Nat.div_le_self _ _) hS
  rw [it_or (b := fun k t => decide (t = k) && lb x (a + k * 2 ^ j)) (fun k hk v t ht => by
    rw [lb_or, lb_sl _ (by omega) ht]
    congr 1
    rcases Nat.lt_trichotomy t k with h | h | h
    · rw [decide_eq_false (by omega), decide_eq_false (by omega)]; rfl
    · subst h
      rw [decide_eq_true (Nat.le_refl _), decide_eq_true rfl, Nat.sub_self, lb_and1 _ (by omega), lb_sr _ (ha t hk) (by omega), Nat.add_zero, if_pos (ha t hk)]
      simp
    · rw [lb_and1 _ (by omega), decide_eq_false (show ¬ t - k = 0 by omega), decide_eq_false (show ¬ t = k by omega)]
      simp) _ ht, lb_0, Bool.false_or]
  apply b_eq
  rw [anyN_iff, Bool.and_eq_true, decide_eq_true_eq]
  constructor
  · rintro ⟨k, hk, h⟩
    rw [Bool.and_eq_true, decide_eq_true_eq] at h
    obtain ⟨e, h⟩ := h
    subst e
    exact ⟨hk, h⟩
  · rintro ⟨hk, h⟩
    exact ⟨t, hk, by rw [Bool.and_eq_true, decide_eq_true_eq]; exact ⟨rfl, h⟩⟩
def hangC (f : Int64) (j : Nat) : Prop := su (f &&& L1 j) (2 ^ j) ≠ (f &&& (L1 j ^^^ (-1)))
def hangM (v : Int64) (h : Nat) : Bool := anyN (fun u => lb v (2 * u) != lb v (2 * u + 1)) h
section Sz
variable {L j : Nat}
theorem p2_split (hj : j < L) : 2 ^ L / 2 ^ j = 2 * 2 ^ (L - j - 1) ∧ 2 ^ L = 2 * 2 ^ (L - j - 1) * 2 ^ j := by
  have e : 2 ^ L = 2 * 2 ^ (L - j - 1) * 2 ^ j := by
    rw [show 2 * 2 ^ (L - j - 1) = 2 ^ (L - j) by rw [Nat.mul_comm, ← Nat.pow_succ]; congr 1; omega, ← Nat.pow_add]
    congr 1; omega
  exact ⟨by rw [e, Nat.mul_div_cancel _ (Nat.two_pow_pos j)], e⟩
theorem fn_in (hL : L ≤ 6) (hj : j < L) {a : Nat} (ha : a < 2 ^ j) : ∀ t, t < 2 ^ L / 2 ^ j → a + t * 2 ^ j < 64 := by
  intro t ht
  have h := p2_le hL
  obtain ⟨h1, h2⟩ := p2_split hj
  rw [h1] at ht
  have : (t + 1) * 2 ^ j ≤ 2 * 2 ^ (L - j - 1) * 2 ^ j := Nat.mul_le_mul_right _ ht
  rw [Nat.add_mul] at this
  omega
theorem fn_eq (hL : L ≤ 6) (hj : j < L) (x : Int64) {a b : Nat} (ha : a < 2 ^ j) (hb : b < 2 ^ j) : fnC (2 ^ L) x j a = fnC (2 ^ L) x j b ↔ fnM (2 ^ L) x j a = fnM (2 ^ L) x j b := by
  have hS := p2_le hL
  have hS1 : 1 ≤ 2 ^ L := Nat.two_pow_pos L
  have hj6 := p2_64 (j := j) (by omega)
  obtain ⟨h1, h2⟩ := p2_split hj
  constructor
  · intro h
    apply lb_ext
    intro t ht
    rw [lb_fnM hS x (fn_in hL hj ha) ht, lb_fnM hS x (fn_in hL hj hb) ht]
    by_cases hq : t < 2 ^ L / 2 ^ j
    · have h3 := congrArg (fun z => lb z (t * 2 ^ j)) h
      have h4 := fn_in hL hj ha t hq
      have h5 : t * 2 ^ j < 2 ^ L := by
        rw [h1] at hq
        have : (t + 1) * 2 ^ j ≤ 2 * 2 ^ (L - j - 1) * 2 ^ j := Nat.mul_le_mul_right _ hq
        rw [Nat.add_mul] at this
        have := Nat.two_pow_pos j
        omega
      rw [lb_fnC hS hS1 x (by omega) (by omega) (by omega), lb_fnC hS hS1 x (by omega) (by omega) (by omega), decide_eq_true h5, decide_eq_true (Nat.mul_mod_left _ _)] at h3
      rw [decide_eq_true hq, Bool.true_and, Bool.true_and]
      simpa using h3
    · rw [decide_eq_false hq]; rfl
  · intro h
    apply lb_ext
    intro t ht
    rw [lb_fnC hS hS1 x (by omega) (by omega) ht, lb_fnC hS hS1 x (by omega) (by omega) ht]
    by_cases h3 : t < 2 ^ L
    · by_cases h4 : t % 2 ^ j = 0
      · obtain ⟨u, hu⟩ := Nat.dvd_of_mod_eq_zero h4
        have hq : u < 2 ^ L / 2 ^ j := by
          rw [h1]
          apply Nat.lt_of_mul_lt_mul_right (a := 2 ^ j)
          rw [← h2, Nat.mul_comm u, ← hu]
          exact h3
        have hu6 : u < 64 := Nat.lt_of_lt_of_le hq (Nat.le_trans (Nat.div_le_self _ _) hS)
        have h5 := congrArg (fun z => lb z u) h
        rw [lb_fnM hS x (fn_in hL hj ha) hu6, lb_fnM hS x (fn_in hL hj hb) hu6, decide_eq_true hq, Bool.true_and, Bool.true_and] at h5
        rw [hu, Nat.mul_comm (2 ^ j) u, h5]
      · rw [decide_eq_false h4, Bool.and_false, Bool.and_false, Bool.and_false]
    · rw [decide_eq_false h3, Bool.false_and, Bool.and_false, Bool.and_false]
theorem hang_iff (hL : L ≤ 6) (hj : j < L) (x : Int64) {a : Nat} (ha : a < 2 ^ j) : hangC (fnC (2 ^ L) x j a) j ↔ hangM (fnM (2 ^ L) x j a) (2 ^ (L - j - 1)) = true := by
  have hS := p2_le hL
  have hS1 : 1 ≤ 2 ^ L := Nat.two_pow_pos L
  have hj6 := p2_64 (j := j) (by omega)
  have hjp := Nat.two_pow_pos j
  obtain ⟨h1, h2⟩ := p2_split hj
  have hdbl : 2 ^ (j + 1) = 2 * 2 ^ j := by rw [Nat.pow_succ, Nat.mul_comm]
  unfold hangM
  rw [anyN_iff]
  constructor
  · intro h
    have h3 : ∃ t, t < 64 ∧ lb (su (fnC (2 ^ L) x j a &&& L1 j) (2 ^ j)) t ≠ lb (fnC (2 ^ L) x j a &&& (L1 j ^^^ (-1))) t := by
      apply Classical.byContradiction
      intro hn
      apply h
      apply lb_ext
      intro t ht
      apply Classical.byContradiction
      intro h4
      exact hn ⟨t, ht, h4⟩
    obtain ⟨t, ht, h3⟩ := h3
    rw [lb_su _ hj6, lb_and, lb_and, lb_not _ ht, lb_L1 j (by omega) t ht] at h3
    cases hb : t.testBit j
    · obtain ⟨b1, b2, b3⟩ := wd_1 j (by omega) t ht hb
      rw [lb_L1 j (by omega) _ b1, b2, hb, Bool.and_true, Bool.not_false, Bool.and_true, lb_fnC hS hS1 x (by omega) (by omega) b1, lb_fnC hS hS1 x (by omega) (by omega) ht] at h3
      have hm : t % 2 ^ j = 0 := by
        apply Classical.byContradiction
        intro hm
        rw [Nat.add_mod_left, decide_eq_false hm] at h3
        simp at h3
      have hm2 := (sz_m j (by omega) t ht).mpr ⟨hm, hb⟩
      obtain ⟨u, hu⟩ := Nat.dvd_of_mod_eq_zero hm2
      rw [hdbl] at hu
      have htL : t < 2 ^ L := by
        apply Classical.byContradiction
        intro hc
        rw [decide_eq_false hc, decide_eq_false (show ¬ 2 ^ j + t < 2 ^ L by omega)] at h3
        simp at h3
      have hu2 : u < 2 ^ (L - j - 1) := by
        apply Nat.lt_of_mul_lt_mul_right (a := 2 * 2 ^ j)
        rw [Nat.mul_comm u, ← hu, Nat.mul_comm (2 ^ (L - j - 1)), Nat.mul_assoc, Nat.mul_comm (2 ^ j), ← Nat.mul_assoc, ← h2]
        exact htL
      have e1 : 2 * u * 2 ^ j = t := by rw [hu]; exact Nat.mul_right_comm 2 u (2 ^ j)
      have e2 : (2 * u + 1) * 2 ^ j = 2 ^ j + t := by rw [Nat.add_mul, e1]; omega
      have hlt : 2 ^ j + t < 2 ^ L := by
        have : (u + 1) * (2 * 2 ^ j) ≤ 2 ^ (L - j - 1) * (2 * 2 ^ j) := Nat.mul_le_mul_right _ hu2
        have e9 : 2 ^ (L - j - 1) * (2 * 2 ^ j) = 2 ^ L := by rw [← Nat.mul_assoc, Nat.mul_comm (2 ^ (L - j - 1)) 2]; exact h2.symm
        rw [Nat.add_mul, Nat.mul_comm u, ← hu, e9] at this
        omega
      have q1 : 2 * u < 2 ^ L / 2 ^ j := by rw [h1]; omega
      have q2 : 2 * u + 1 < 2 ^ L / 2 ^ j := by rw [h1]; omega
      have q3 : 2 ^ L / 2 ^ j ≤ 64 := Nat.le_trans (Nat.div_le_self _ _) hS
      refine ⟨u, hu2, ?_⟩
      rw [lb_fnM hS x (fn_in hL hj ha) (by omega), lb_fnM hS x (fn_in hL hj ha) (by omega), decide_eq_true q1, decide_eq_true q2, e1, e2]
      rw [Nat.add_mod_left, decide_eq_true hm, decide_eq_true htL, decide_eq_true hlt] at h3
      simp at h3 ⊢
      intro h9
      exact h3 h9.symm
    · obtain ⟨b1, b2, b3, b4⟩ := wd_2 j (by omega) t ht hb
      rw [hb] at h3
      have : (lb (fnC (2 ^ L) x j a) (2 ^ j + t) && lb (L1 j) (2 ^ j + t)) = false := by
        rcases Nat.lt_or_ge (2 ^ j + t) 64 with h5 | h5
        · rw [lb_L1 j (by omega) _ h5, b4, Bool.and_false]
        · rw [lb_big h5, Bool.false_and]
      rw [this] at h3
      simp at h3
  · rintro ⟨u, hu, h⟩ hc
    have q1 : 2 * u < 2 ^ L / 2 ^ j := by rw [h1]; omega
    have q2 : 2 * u + 1 < 2 ^ L / 2 ^ j := by rw [h1]; omega
    have q3 : 2 ^ L / 2 ^ j ≤ 64 := Nat.le_trans (Nat.div_le_self _ _) hS
    have q4 := fn_in hL hj ha (2 * u + 1) q2
    have e2 : (2 * u + 1) * 2 ^ j = 2 ^ j + 2 * u * 2 ^ j := by rw [Nat.add_mul]; omega
    rw [lb_fnM hS x (fn_in hL hj ha) (by omega), lb_fnM hS x (fn_in hL hj ha) (by omega), decide_eq_true q1, decide_eq_true q2, e2] at h
    rw [e2] at q4
    have h5 := congrArg (fun z => lb z (2 * u * 2 ^ j)) hc
    have ht : 2 * u * 2 ^ j < 64 := by omega
    have hm2 : (2 * u * 2 ^ j) % 2 ^ (j + 1) = 0 := by
      rw [hdbl, show 2 * u * 2 ^ j = u * (2 * 2 ^ j) by rw [Nat.mul_comm 2 u, Nat.mul_assoc]]
      exact Nat.mul_mod_left _ _
    obtain ⟨hm, hb⟩ := (sz_m j (by omega) _ ht).mp hm2
    obtain ⟨b1, b2, b3⟩ := wd_1 j (by omega) _ ht hb
    have hlt : 2 ^ j + 2 * u * 2 ^ j < 2 ^ L := by
      have : (2 * u + 1 + 1) * 2 ^ j ≤ 2 * 2 ^ (L - j - 1) * 2 ^ j := Nat.mul_le_mul_right _ (by omega)
      rw [← h2, Nat.add_mul (2 * u + 1), e2] at this
      omega
    rw [lb_su _ hj6, lb_and, lb_and, lb_not _ ht, lb_L1 j (by omega) _ ht, lb_L1 j (by omega) _ b1, b2, hb, lb_fnC hS hS1 x (by omega) (by omega) b1, lb_fnC hS hS1 x (by omega) (by omega) ht, Nat.add_mod_left, decide_eq_true hm, decide_eq_true hlt, decide_eq_true (show 2 * u * 2 ^ j < 2 ^ L by omega)] at h5
    simp at h5 h
    exact h h5.symm
end Sz
