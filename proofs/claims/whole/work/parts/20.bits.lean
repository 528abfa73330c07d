/-! bits of a long, folds, counting -/
def lb (x : Int64) (i : Nat) : Bool := x.toBitVec.getLsbD i
theorem lb_ext {x y : Int64} (h : ∀ i, i < 64 → lb x i = lb y i) : x = y := Int64.toBitVec_inj.mp (BitVec.eq_of_getLsbD_eq (fun i hi => h i hi))
theorem lb_or (x y : Int64) (i : Nat) : lb (x ||| y) i = (lb x i || lb y i) := by unfold lb; rw [Int64.toBitVec_or, BitVec.getLsbD_or]
theorem lb_and (x y : Int64) (i : Nat) : lb (x &&& y) i = (lb x i && lb y i) := by unfold lb; rw [Int64.toBitVec_and, BitVec.getLsbD_and]
theorem lb_xor (x y : Int64) (i : Nat) : lb (x ^^^ y) i = (lb x i ^^ lb y i) := by unfold lb; rw [Int64.toBitVec_xor, BitVec.getLsbD_xor]
theorem lb_big {x : Int64} {i : Nat} (h : 64 ≤ i) : lb x i = false := BitVec.getLsbD_of_ge _ _ h
theorem lb_lt {x : Int64} {i : Nat} (h : lb x i = true) : i < 64 := by
  rcases Nat.lt_or_ge i 64 with h1 | h1
  · exact h1
  · rw [lb_big h1] at h; cases h
theorem lb_0 (i : Nat) : lb 0 i = false := BitVec.getLsbD_zero
theorem lb_m1 : ∀ i, i < 64 → lb (-1) i = true := by decide +kernel
theorem lb_1 : ∀ i, i < 64 → lb 1 i = decide (i = 0) := by decide +kernel
theorem lb_not (x : Int64) {i : Nat} (h : i < 64) : lb (x ^^^ (-1)) i = !lb x i := by rw [lb_xor, lb_m1 i h]; cases lb x i <;> rfl
def sl (x : Int64) (k : Nat) : Int64 := x <<< ((nI k).toInt64 &&& 63)
def sr (x : Int64) (k : Nat) : Int64 := x >>> ((nI k).toInt64 &&& 63)
def su (x : Int64) (k : Nat) : Int64 := (x.toUInt64 >>> ((nI k).toInt64.toUInt64 &&& Int64.toUInt64 63)).toInt64
theorem s64 : ∀ n, n < 64 → (((nI n).toInt64 &&& 63).toBitVec.smod 64).toNat = n := by decide +kernel
theorem u64 : ∀ n, n < 64 → (((nI n).toInt64.toUInt64 &&& Int64.toUInt64 63).toBitVec % 64).toNat = n := by decide +kernel
theorem lb_sl (x : Int64) {k i : Nat} (hk : k < 64) (hi : i < 64) : lb (sl x k) i = (decide (k ≤ i) && lb x (i - k)) := by
  unfold lb sl
  rw [Int64.toBitVec_shiftLeft]
  show (x.toBitVec <<< (((nI k).toInt64 &&& 63).toBitVec.smod 64).toNat).getLsbD i = _
  rw [s64 k hk, BitVec.getLsbD_shiftLeft]
  rcases Nat.lt_or_ge i k with h | h
  · simp [h, Nat.not_le.mpr h]
  · simp [hi, h, Nat.not_lt.mpr h]
theorem lb_su (x : Int64) {k : Nat} (hk : k < 64) (i : Nat) : lb (su x k) i = lb x (k + i) := by
  show (x.toUInt64 >>> ((nI k).toInt64.toUInt64 &&& Int64.toUInt64 63)).toBitVec.getLsbD i = x.toUInt64.toBitVec.getLsbD (k + i)
  rw [UInt64.toBitVec_shiftRight]
  show (x.toUInt64.toBitVec >>> (((nI k).toInt64.toUInt64 &&& Int64.toUInt64 63).toBitVec % 64).toNat).getLsbD i = _
  rw [u64 k hk, BitVec.getLsbD_ushiftRight]
theorem lb_sr (x : Int64) {k i : Nat} (hk : k < 64) (hi : i < 64) : lb (sr x k) i = if k + i < 64 then lb x (k + i) else lb x 63 := by
  unfold lb sr
  rw [Int64.toBitVec_shiftRight]
  show (x.toBitVec.sshiftRight (((nI k).toInt64 &&& 63).toBitVec.smod 64).toNat).getLsbD i = _
  rw [s64 k hk, BitVec.getLsbD_sshiftRight, BitVec.msb_eq_getLsbD_last]
  simp [hi]
/-- one state alone -/
def sg (k : Nat) : Int64 := sl 1 k
theorem lb_sg {k i : Nat} (hk : k < 64) (hi : i < 64) : lb (sg k) i = decide (i = k) := by
  unfold sg
  rw [lb_sl 1 hk hi]
  rcases Nat.lt_or_ge i k with h | h
  · rw [decide_eq_false (by omega), decide_eq_false (by omega)]; rfl
  · rw [lb_1 (i - k) (by omega), decide_eq_true h]
    by_cases e : i = k
    · subst e; simp
    · rw [decide_eq_false (by omega), decide_eq_false e]; rfl
theorem and1 (y : Int64) : (y &&& 1) = if lb y 0 then 1 else 0 := by
  apply lb_ext
  intro i hi
  rw [lb_and, lb_1 i hi]
  by_cases e : i = 0
  · subst e
    cases h : lb y 0
    · simp [lb_0]
    · simp; exact (lb_1 0 (by omega)).symm
  · rw [decide_eq_false e, Bool.and_false]
    cases h : lb y 0
    · simp [lb_0]
    · simp [lb_1 i hi, e]
theorem one_ne : (1 : Int64) ≠ 0 := by decide
theorem and1_0 (y : Int64) : (y &&& 1) = 0 ↔ lb y 0 = false := by
  rw [and1]; cases lb y 0 <;> simp [one_ne]
theorem and1_1 (y : Int64) : (y &&& 1) = 1 ↔ lb y 0 = true := by
  rw [and1]; cases lb y 0 <;> simp [one_ne.symm]
theorem bit_u (x : Int64) {k : Nat} (hk : k < 64) : (su x k &&& 1) = 0 ↔ lb x k = false := by rw [and1_0, lb_su x hk, Nat.add_zero]
theorem bit_s (x : Int64) {k : Nat} (hk : k < 64) : (sr x k &&& 1) = 1 ↔ lb x k = true := by
  rw [and1_1, lb_sr x hk (by omega), Nat.add_zero, if_pos hk]
theorem eq0 {x : Int64} : x = 0 ↔ ∀ i, i < 64 → lb x i = false := by
  constructor
  · intro h i _; rw [h, lb_0]
  · intro h; apply lb_ext; intro i hi; rw [h i hi, lb_0]
theorem ne0 {x : Int64} : x ≠ 0 ↔ ∃ i, i < 64 ∧ lb x i = true := by
  constructor
  · intro h
    apply Classical.byContradiction
    intro hn
    apply h
    rw [eq0]
    intro i hi
    cases e : lb x i
    · rfl
    · exact absurd ⟨i, hi, e⟩ hn
  · rintro ⟨i, hi, e⟩ h
    rw [h, lb_0] at e
    cases e
/-! folds -/
def it {α : Type} (f : Nat → α → α) : Nat → α → α
  | 0, a => a
  | n + 1, a => f n (it f n a)
theorem it_0 {α : Type} (f : Nat → α → α) (a : α) : it f 0 a = a := rfl
theorem it_s {α : Type} (f : Nat → α → α) (n : Nat) (a : α) : it f (n + 1) a = f n (it f n a) := rfl
theorem it_congr {α : Type} {f g : Nat → α → α} {n : Nat} (h : ∀ k, k < n → ∀ a, f k a = g k a) (a : α) : it f n a = it g n a := by
  induction n with
  | zero => rfl
  | succ n ih => rw [it_s, it_s, ih (fun k hk => h k (by omega)), h n (by omega)]
def anyN (P : Nat → Bool) : Nat → Bool
  | 0 => false
  | n + 1 => anyN P n || P n
theorem anyN_iff {P : Nat → Bool} {n : Nat} : anyN P n = true ↔ ∃ k, k < n ∧ P k = true := by
  induction n with
  | zero => simp [anyN]
  | succ n ih =>
    rw [anyN, Bool.or_eq_true, ih]
    constructor
    · rintro (⟨k, hk, h⟩ | h)
      · exact ⟨k, by omega, h⟩
      · exact ⟨n, by omega, h⟩
    · rintro ⟨k, hk, h⟩
      rcases Nat.lt_or_ge k n with h1 | h1
      · exact Or.inl ⟨k, h1, h⟩
      · have : k = n := by omega
        subst this; exact Or.inr h
theorem it_or {f : Nat → Int64 → Int64} {b : Nat → Nat → Bool} {n : Nat} (h : ∀ k, k < n → ∀ a t, t < 64 → lb (f k a) t = (lb a t || b k t)) (a : Int64) {t : Nat} (ht : t < 64) :
    lb (it f n a) t = (lb a t || anyN (fun k => b k t) n) := by
  induction n with
  | zero => simp [it, anyN]
  | succ n ih =>
    rw [it_s, h n (by omega) _ t ht, ih (fun k hk => h k (by omega)), anyN, Bool.or_assoc]
/-- the same sets, if they have the same states -/
theorem lb_iff {x y : Int64} (h : ∀ i, i < 64 → (lb x i = true ↔ lb y i = true)) : x = y := lb_ext (fun i hi => by
  have := h i hi
  cases e : lb x i <;> cases e' : lb y i <;> simp_all)
theorem b_eq {a b : Bool} (h : a = true ↔ b = true) : a = b := by cases a <;> cases b <;> simp_all
/-! how many states a set has below n -/
def cn (x : Int64) : Nat → Nat
  | 0 => 0
  | n + 1 => cn x n + (if lb x n = true then 1 else 0)
theorem cn_le (x : Int64) (n : Nat) : cn x n ≤ n := by
  induction n with
  | zero => exact Nat.le_refl _
  | succ n ih => rw [cn]; split <;> omega
theorem cn_mono {x y : Int64} {n : Nat} (h : ∀ i, i < n → lb x i = true → lb y i = true) : cn x n ≤ cn y n := by
  induction n with
  | zero => exact Nat.le_refl _
  | succ n ih =>
    have h1 := ih (fun i hi => h i (by omega))
    have h2 := h n (by omega)
    rw [cn, cn]
    by_cases e : lb x n = true
    · rw [if_pos e, if_pos (h2 e)]; omega
    · rw [if_neg e]; split <;> omega
theorem cn_lt {x y : Int64} {n : Nat} (h : ∀ i, i < n → lb x i = true → lb y i = true) {j : Nat} (hj : j < n) (h0 : lb x j = false) (h1 : lb y j = true) : cn x n < cn y n := by
  induction n with
  | zero => omega
  | succ n ih =>
    rw [cn, cn]
    rcases Nat.lt_or_ge j n with h2 | h2
    · have h3 := ih (fun i hi => h i (by omega)) h2
      have h4 := h n (by omega)
      by_cases e : lb x n = true
      · rw [if_pos e, if_pos (h4 e)]; omega
      · rw [if_neg e]; split <;> omega
    · have : j = n := by omega
      subst this
      have h3 := cn_mono (x := x) (y := y) (n := j) (fun i hi => h i (by omega))
      rw [if_neg (by rw [h0]; simp), if_pos h1]
      omega
theorem cn_grow {x y : Int64} (h : ∀ i, i < 64 → lb x i = true → lb y i = true) (hne : y ≠ x) : cn x 64 < cn y 64 := by
  apply Classical.byContradiction
  intro hc
  apply hne
  apply lb_ext
  intro i hi
  cases e : lb x i
  · cases e' : lb y i
    · rfl
    · exact absurd (cn_lt h hi e e') hc
  · exact h i hi e
theorem cn_pos {x : Int64} (h : x ≠ 0) : 1 ≤ cn x 64 := by
  have h1 := cn_grow (x := 0) (y := x) (fun i hi h2 => by rw [lb_0] at h2; cases h2) h
  omega
