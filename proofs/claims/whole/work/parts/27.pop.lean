/-! Long.bitCount -/
theorem and_split {k a b m m' : Nat} (ha : a < 2 ^ k) (hm : m < 2 ^ k) : (a + 2 ^ k * b) &&& (m + 2 ^ k * m') = (a &&& m) + 2 ^ k * (b &&& m') := by
  apply Nat.eq_of_testBit_eq
  intro i
  have h3 : a &&& m < 2 ^ k := Nat.and_lt_two_pow _ hm
  rw [Nat.testBit_and, Nat.add_comm a, Nat.add_comm m, Nat.add_comm (a &&& m), Nat.testBit_two_pow_mul_add _ ha, Nat.testBit_two_pow_mul_add _ hm, Nat.testBit_two_pow_mul_add _ h3]
  split
  · rw [Nat.testBit_and]
  · rw [Nat.testBit_and]
/-- digits of w bits, the low one first -/
def dD (w : Nat) : Nat → (Nat → Nat) → Nat
  | 0, _ => 0
  | n + 1, d => d 0 + 2 ^ w * dD w n (fun i => d (i + 1))
theorem dD_add (w n : Nat) : ∀ d e : Nat → Nat, dD w n (fun i => d i + e i) = dD w n d + dD w n e := by
  induction n with
  | zero => intro d e; rfl
  | succ n ih => intro d e; rw [dD, dD, dD, ih (fun i => d (i + 1)) (fun i => e (i + 1)), Nat.mul_add]; omega
theorem dD_congr {w n : Nat} : ∀ {d e : Nat → Nat}, (∀ i, i < n → d i = e i) → dD w n d = dD w n e := by
  induction n with
  | zero => intro d e _; rfl
  | succ n ih => intro d e h; rw [dD, dD, h 0 (by omega), ih (fun i hi => h (i + 1) (by omega))]
theorem dD_pair (w n : Nat) : ∀ d : Nat → Nat, dD w (2 * n) d = dD (2 * w) n (fun i => d (2 * i) + 2 ^ w * d (2 * i + 1)) := by
  induction n with
  | zero => intro d; rfl
  | succ n ih =>
    intro d
    rw [show 2 * (n + 1) = (2 * n + 1) + 1 by omega, dD, dD, dD, ih (fun i => d (i + 1 + 1)), Nat.mul_add, ← Nat.mul_assoc, ← Nat.pow_add, show w + w = 2 * w by omega, ← Nat.add_assoc]
    rfl
theorem dD_shr (w n : Nat) {d : Nat → Nat} (h : d 0 < 2 ^ w) (hn : ∀ i, n ≤ i → d i = 0) : dD w n d / 2 ^ w = dD w n (fun i => d (i + 1)) := by
  have last : ∀ (n : Nat) (d : Nat → Nat), d n = 0 → dD w (n + 1) d = dD w n d := by
    intro n
    induction n with
    | zero => intro d h; rw [dD, dD, h]; rfl
    | succ n ih => intro d h; rw [dD, ih (fun i => d (i + 1)) h]; rfl
  cases n with
  | zero => rw [dD, dD]; simp
  | succ n =>
    rw [last n (fun i => d (i + 1)) (hn (n + 1) (Nat.le_refl _)), dD, Nat.add_mul_div_left _ _ (Nat.two_pow_pos w), Nat.div_eq_of_lt h, Nat.zero_add]
theorem dD_and (w n : Nat) : ∀ {a b : Nat → Nat}, (∀ i, a i < 2 ^ w) → (∀ i, b i < 2 ^ w) → (dD (2 * w) n (fun i => a i + 2 ^ w * b i)) &&& dD (2 * w) n (fun _ => 2 ^ w - 1) = dD (2 * w) n a := by
  induction n with
  | zero => intro a b _ _; simp [dD]
  | succ n ih =>
    intro a b ha hb
    have hw := Nat.two_pow_pos w
    have e : 2 ^ (2 * w) = 2 ^ w * 2 ^ w := by rw [← Nat.pow_add]; congr 1; omega
    have h1 : a 0 + 2 ^ w * b 0 < 2 ^ (2 * w) := by
      have : 2 ^ w * (b 0 + 1) ≤ 2 ^ w * 2 ^ w := Nat.mul_le_mul_left _ (hb 0)
      rw [Nat.mul_add] at this
      have := ha 0
      omega
    have h2 : 2 ^ w - 1 < 2 ^ (2 * w) := by
      have : 2 ^ w * 1 ≤ 2 ^ w * 2 ^ w := Nat.mul_le_mul_left _ hw
      omega
    rw [dD, dD, dD, and_split h1 h2, Nat.and_two_pow_sub_one_eq_mod, Nat.add_mul_mod_self_left, Nat.mod_eq_of_lt (ha 0)]
    rw [ih (a := fun i => a (i + 1)) (b := fun i => b (i + 1)) (fun i => ha (i + 1)) (fun i => hb (i + 1))]
theorem dD_lt (w n : Nat) : ∀ {d : Nat → Nat}, (∀ i, d i < 2 ^ w) → dD w n d < 2 ^ (w * n) := by
  induction n with
  | zero => intro d _; simp [dD]
  | succ n ih =>
    intro d h
    have h1 := ih (d := fun i => d (i + 1)) (fun i => h (i + 1))
    rw [dD, Nat.mul_succ, Nat.pow_add, Nat.mul_comm (2 ^ (w * n))]
    have : 2 ^ w * (dD w n (fun i => d (i + 1)) + 1) ≤ 2 ^ w * 2 ^ (w * n) := Nat.mul_le_mul_left _ h1
    rw [Nat.mul_add] at this
    have := h 0
    omega
/-- the bits of a number below 2 ^ n -/
def bD (x i : Nat) : Nat := x / 2 ^ i % 2
theorem bD_sum (n : Nat) : ∀ x, x < 2 ^ n → dD 1 n (bD x) = x := by
  induction n with
  | zero => intro x h; simp at h; subst h; rfl
  | succ n ih =>
    intro x h
    have e : (fun i => bD x (i + 1)) = bD (x / 2) := by
      funext i
      unfold bD
      rw [Nat.pow_succ, Nat.mul_comm, ← Nat.div_div_eq_div_mul]
    rw [dD, e, ih (x / 2) (by rw [Nat.pow_succ] at h; omega)]
    unfold bD
    simp
    omega
def pc1 (x : Nat) : Nat := x - ((x / 2 ^ 1) &&& 0x5555555555555555)
def pc2 (x : Nat) : Nat := (x &&& 0x3333333333333333) + ((x / 2 ^ 2) &&& 0x3333333333333333)
def pc3 (x : Nat) : Nat := (x + x / 2 ^ 4) &&& 0x0f0f0f0f0f0f0f0f
def pc4 (x : Nat) : Nat := x + x / 2 ^ 8
def pc5 (x : Nat) : Nat := x + x / 2 ^ 16
def pc6 (x : Nat) : Nat := x + x / 2 ^ 32
def smN (d : Nat → Nat) : Nat → Nat
  | 0 => 0
  | n + 1 => smN d n + d n
theorem dv32 {lo hi : Nat} (h : lo < 2 ^ 32) : (lo + 2 ^ 32 * hi) / 2 ^ 32 = hi := by
  rw [Nat.add_mul_div_left _ _ (by decide), Nat.div_eq_of_lt h, Nat.zero_add]
theorem pc6_g {a0 a1 a2 a3 a4 a5 a6 a7 : Nat} (h0 : a0 ≤ 32) (h1 : a1 ≤ 32) (h2 : a2 ≤ 32) (h3 : a3 ≤ 32) :
    pc6 (a0 + 256 * (a1 + 256 * (a2 + 256 * (a3 + 256 * (a4 + 256 * (a5 + 256 * (a6 + 256 * a7))))))) = (a0 + a4) + 256 * ((a1 + a5) + 256 * ((a2 + a6) + 256 * ((a3 + a7) + 256 * (a4 + 256 * (a5 + 256 * (a6 + 256 * a7)))))) := by
  have e : a0 + 256 * (a1 + 256 * (a2 + 256 * (a3 + 256 * (a4 + 256 * (a5 + 256 * (a6 + 256 * a7)))))) = (a0 + 256 * (a1 + 256 * (a2 + 256 * a3))) + 2 ^ 32 * (a4 + 256 * (a5 + 256 * (a6 + 256 * a7))) := by omega
  unfold pc6
  rw [e, dv32 (by omega)]
  omega
theorem md128 {a R : Nat} (h : a < 128) : (a + 256 * R) % 128 = a := by omega
theorem pc_all {x : Nat} (hx : x < 2 ^ 64) : pc6 (pc5 (pc4 (pc3 (pc2 (pc1 x))))) % 128 = smN (bD x) 64 ∧ pc1 x ≤ x ∧ pc1 x < 2 ^ 64 ∧ pc2 (pc1 x) < 2 ^ 63 ∧ pc3 (pc2 (pc1 x)) < 2 ^ 60 ∧ pc4 (pc3 (pc2 (pc1 x))) < 2 ^ 61 ∧ pc5 (pc4 (pc3 (pc2 (pc1 x)))) < 2 ^ 62 ∧ ((x / 2 ^ 1) &&& 0x5555555555555555) ≤ x := by
  have hb : ∀ i, bD x i < 2 := fun i => Nat.mod_lt _ (by decide)
  have hz : ∀ i, 64 ≤ i → bD x i = 0 := fun i hi => by
    unfold bD
    rw [Nat.div_eq_of_lt (Nat.lt_of_lt_of_le hx (Nat.pow_le_pow_right (by decide) hi))]
  generalize hbe : bD x = b at hb hz ⊢
  have hX : x = dD 1 64 b := by rw [← hbe]; exact (bD_sum 64 x hx).symm
  -- step 1
  have s1 : (x / 2 ^ 1) &&& 0x5555555555555555 = dD 2 32 (fun i => b (2 * i + 1)) := by
    rw [hX, dD_shr 1 64 (hb 0) hz]
    rw [show (64 : Nat) = 2 * 32 from rfl, dD_pair 1 32]
    exact dD_and 1 32 (a := fun i => b (2 * i + 1)) (b := fun i => b (2 * i + 1 + 1)) (fun i => hb _) (fun i => hb _)
  have x1 : x = dD 2 32 (fun i => b (2 * i) + b (2 * i + 1)) + dD 2 32 (fun i => b (2 * i + 1)) := by
    rw [← dD_add, hX, show (64 : Nat) = 2 * 32 from rfl, dD_pair 1 32]
    apply dD_congr
    intro i _
    omega
  have y1 : pc1 x = dD 2 32 (fun i => b (2 * i) + b (2 * i + 1)) := by
    unfold pc1
    rw [s1]
    omega
  have hle : ((x / 2 ^ 1) &&& 0x5555555555555555) ≤ x := by rw [s1]; omega
  obtain ⟨c, hc⟩ : ∃ c : Nat → Nat, c = fun i => b (2 * i) + b (2 * i + 1) := ⟨_, rfl⟩
  have hc2 : ∀ i, c i ≤ 2 := fun i => by rw [hc]; have := hb (2 * i); have := hb (2 * i + 1); show b (2 * i) + b (2 * i + 1) ≤ 2; omega
  have hcz : ∀ i, 32 ≤ i → c i = 0 := fun i hi => by rw [hc]; show b (2 * i) + b (2 * i + 1) = 0; rw [hz _ (by omega), hz _ (by omega)]
  rw [← hc] at y1
  -- step 2
  have y2 : pc2 (pc1 x) = dD 4 16 (fun i => c (2 * i) + c (2 * i + 1)) := by
    unfold pc2
    rw [y1]
    have h1 : dD 2 32 c &&& 0x3333333333333333 = dD 4 16 (fun i => c (2 * i)) := by
      rw [show (32 : Nat) = 2 * 16 from rfl, dD_pair 2 16]
      exact dD_and 2 16 (a := fun i => c (2 * i)) (b := fun i => c (2 * i + 1)) (fun i => by have := hc2 (2 * i); show c (2 * i) < 4; omega) (fun i => by have := hc2 (2 * i + 1); show c (2 * i + 1) < 4; omega)
    have h2 : (dD 2 32 c / 2 ^ 2) &&& 0x3333333333333333 = dD 4 16 (fun i => c (2 * i + 1)) := by
      rw [dD_shr 2 32 (by have := hc2 0; omega) hcz]
      rw [show (32 : Nat) = 2 * 16 from rfl, dD_pair 2 16]
      exact dD_and 2 16 (a := fun i => c (2 * i + 1)) (b := fun i => c (2 * i + 1 + 1)) (fun i => by have := hc2 (2 * i + 1); show c (2 * i + 1) < 4; omega) (fun i => by have := hc2 (2 * i + 1 + 1); show c (2 * i + 1 + 1) < 4; omega)
    rw [h1, h2, ← dD_add]
  obtain ⟨f, hf⟩ : ∃ f : Nat → Nat, f = fun i => c (2 * i) + c (2 * i + 1) := ⟨_, rfl⟩
  have hf4 : ∀ i, f i ≤ 4 := fun i => by rw [hf]; have := hc2 (2 * i); have := hc2 (2 * i + 1); show c (2 * i) + c (2 * i + 1) ≤ 4; omega
  have hfz : ∀ i, 16 ≤ i → f i = 0 := fun i hi => by rw [hf]; show c (2 * i) + c (2 * i + 1) = 0; rw [hcz _ (by omega), hcz _ (by omega)]
  rw [← hf] at y2
  -- step 3
  have y3 : pc3 (pc2 (pc1 x)) = dD 8 8 (fun i => f (2 * i) + f (2 * i + 1)) := by
    unfold pc3
    rw [y2, dD_shr 4 16 (by have := hf4 0; omega) hfz, ← dD_add]
    rw [show (16 : Nat) = 2 * 8 from rfl, dD_pair 4 8]
    exact dD_and 4 8 (a := fun i => f (2 * i) + f (2 * i + 1)) (b := fun i => f (2 * i + 1) + f (2 * i + 1 + 1)) (fun i => by have := hf4 (2 * i); have := hf4 (2 * i + 1); show f (2 * i) + f (2 * i + 1) < 16; omega) (fun i => by have := hf4 (2 * i + 1); have := hf4 (2 * i + 1 + 1); show f (2 * i + 1) + f (2 * i + 1 + 1) < 16; omega)
  obtain ⟨g, hg⟩ : ∃ g : Nat → Nat, g = fun i => f (2 * i) + f (2 * i + 1) := ⟨_, rfl⟩
  have hg8 : ∀ i, g i ≤ 8 := fun i => by rw [hg]; have := hf4 (2 * i); have := hf4 (2 * i + 1); show f (2 * i) + f (2 * i + 1) ≤ 8; omega
  have hgz : ∀ i, 8 ≤ i → g i = 0 := fun i hi => by rw [hg]; show f (2 * i) + f (2 * i + 1) = 0; rw [hfz _ (by omega), hfz _ (by omega)]
  rw [← hg] at y3
  have ex : ∀ d : Nat → Nat, dD 8 8 d = d 0 + 256 * (d 1 + 256 * (d 2 + 256 * (d 3 + 256 * (d 4 + 256 * (d 5 + 256 * (d 6 + 256 * (d 7 + 256 * 0))))))) := fun d => rfl
  have q0 := hg8 0
  have q1 := hg8 1
  have q2 := hg8 2
  have q3 := hg8 3
  have q4 := hg8 4
  have q5 := hg8 5
  have q6 := hg8 6
  have q7 := hg8 7
  have e3 : pc3 (pc2 (pc1 x)) = g 0 + 256 * (g 1 + 256 * (g 2 + 256 * (g 3 + 256 * (g 4 + 256 * (g 5 + 256 * (g 6 + 256 * g 7)))))) := by rw [y3, ex]; simp only [Nat.mul_zero, Nat.add_zero]
  have e4 : pc4 (pc3 (pc2 (pc1 x))) = (g 0 + g 1) + 256 * ((g 1 + g 2) + 256 * ((g 2 + g 3) + 256 * ((g 3 + g 4) + 256 * ((g 4 + g 5) + 256 * ((g 5 + g 6) + 256 * ((g 6 + g 7) + 256 * g 7)))))) := by
    unfold pc4
    rw [e3]
    omega
  have e5 : pc5 (pc4 (pc3 (pc2 (pc1 x)))) = (g 0 + g 1 + g 2 + g 3) + 256 * ((g 1 + g 2 + g 3 + g 4) + 256 * ((g 2 + g 3 + g 4 + g 5) + 256 * ((g 3 + g 4 + g 5 + g 6) + 256 * ((g 4 + g 5 + g 6 + g 7) + 256 * ((g 5 + g 6 + g 7) + 256 * ((g 6 + g 7) + 256 * g 7)))))) := by
    unfold pc5
    rw [e4]
    omega
  have e6 : pc6 (pc5 (pc4 (pc3 (pc2 (pc1 x))))) % 128 = g 0 + g 1 + g 2 + g 3 + (g 4 + g 5 + g 6 + g 7) := by
    rw [e5, pc6_g (by omega) (by omega) (by omega) (by omega)]
    exact md128 (by omega)
  refine ⟨?_, Nat.sub_le _ _, Nat.lt_of_le_of_lt (Nat.sub_le _ _) hx, ?_, by rw [e3]; omega, by rw [e4]; omega, by rw [e5]; omega, hle⟩
  · rw [e6, hg, hf, hc]
    simp only [smN, Nat.reduceMul, Nat.reduceAdd]
    omega
  · rw [y2]
    have := dD_lt 4 15 (d := fun i => f (i + 1)) (fun i => by have := hf4 (i + 1); show f (i + 1) < 16; omega)
    exact Nat.lt_of_le_of_lt (m := 4 * 0x1111111111111111) (by
      have h9 : ∀ n : Nat, ∀ d : Nat → Nat, (∀ i, d i ≤ 4) → dD 4 n d ≤ dD 4 n (fun _ => 4) := by
        intro n
        induction n with
        | zero => intro d _; exact Nat.le_refl _
        | succ n ih => intro d hd; rw [dD, dD]; exact Nat.add_le_add (hd 0) (Nat.mul_le_mul_left _ (ih _ (fun i => hd (i + 1))))
      exact Nat.le_trans (h9 16 f hf4) (by decide)) (by decide)
