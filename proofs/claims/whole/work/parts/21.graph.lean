/-! sets that grow -/
section Grow
variable {F : Int64 → Int64}
/-- n times: the set and what F adds -/
def gr (F : Int64 → Int64) (n : Nat) (x : Int64) : Int64 := it (fun _ a => a ||| F a) n x
theorem gr_s (F : Int64 → Int64) (n : Nat) (x : Int64) : gr F (n + 1) x = gr F n x ||| F (gr F n x) := rfl
theorem gr_z (F : Int64 → Int64) (x : Int64) : gr F 0 x = x := rfl
theorem gr_mono1 (x : Int64) (n i : Nat) (h : lb (gr F n x) i = true) : lb (gr F (n + 1) x) i = true := by rw [gr_s, lb_or, h]; rfl
theorem gr_mono {x : Int64} {n m i : Nat} (hm : n ≤ m) (h : lb (gr F n x) i = true) : lb (gr F m x) i = true := by
  induction m with
  | zero => have : n = 0 := by omega
            subst this; exact h
  | succ m ih =>
    rcases Nat.lt_or_ge m n with h1 | h1
    · have : n = m + 1 := by omega
      subst this; exact h
    · exact gr_mono1 x m i (ih h1)
theorem gr_stab {x : Int64} {n : Nat} (h : gr F (n + 1) x = gr F n x) {m : Nat} (hm : n ≤ m) : gr F m x = gr F n x := by
  induction m with
  | zero => have : n = 0 := by omega
            subst this; rfl
  | succ m ih =>
    rcases Nat.lt_or_ge m n with h1 | h1
    · have : n = m + 1 := by omega
      subst this; rfl
    · have h2 := ih h1
      rw [gr_s, h2, ← gr_s, h]
theorem gr_many {x : Int64} {n : Nat} (h : ∀ k, k < n → gr F (k + 1) x ≠ gr F k x) : cn x 64 + n ≤ cn (gr F n x) 64 := by
  induction n with
  | zero => exact Nat.le_refl _
  | succ n ih =>
    have h1 := ih (fun k hk => h k (by omega))
    have h2 := cn_grow (x := gr F n x) (y := gr F (n + 1) x) (fun i _ => gr_mono1 x n i) (h n (by omega))
    omega
theorem gr_end {x : Int64} {n : Nat} (hx : 64 < cn x 64 + (n + 1)) {m : Nat} (hm : n ≤ m) : gr F m x = gr F n x := by
  have h : ∃ k, k ≤ n ∧ gr F (k + 1) x = gr F k x := by
    apply Classical.byContradiction
    intro hn
    have h1 := gr_many (F := F) (x := x) (n := n + 1) (fun k hk e => hn ⟨k, by omega, e⟩)
    have h2 := cn_le (gr F (n + 1) x) 64
    omega
  obtain ⟨k, hk, e⟩ := h
  rw [gr_stab e (m := m) (by omega), gr_stab e (m := n) hk]
theorem gr_64 {x : Int64} {m : Nat} (hm : 64 ≤ m) : gr F m x = gr F 64 x := gr_end (by omega) hm
theorem gr_63 {x : Int64} (hF : F 0 = 0) {m : Nat} (hm : 63 ≤ m) : gr F m x = gr F 63 x := by
  by_cases h : x = 0
  · subst h
    have h1 : gr F (0 + 1) 0 = gr F 0 0 := by rw [gr_s, gr_z, hF]; decide
    rw [gr_stab h1 (m := m) (by omega), gr_stab h1 (m := 63) (by omega)]
  · exact gr_end (by have := cn_pos h; omega) hm
/-- what F adds to the last set lies in it -/
theorem gr_closed {x : Int64} {n i : Nat} (h : gr F (n + 1) x = gr F n x) (hi : lb (F (gr F n x)) i = true) : lb (gr F n x) i = true := by
  rw [← h, gr_s, lb_or, hi, Bool.or_true]
end Grow
/-! a machine: S states, D inputs, where one goes, where the output is 1 -/
section Mach
variable (S D : Nat) (nx : Nat → Nat → Nat) (bd : Nat → Nat → Bool)
def badOf : Int64 := it (fun s a => it (fun i a => if bd s i = true then a ||| sg s else a) D a) S 0
def postOf (x : Int64) : Int64 := it (fun s a => if lb x s = true then it (fun i a => a ||| sg (nx s i)) D a else a) S 0
def preOf (x : Int64) : Int64 := it (fun s a => it (fun i a => if lb x (nx s i) = true then a ||| sg s else a) D a) S 0
/-- where one goes from s -/
def aftOf (s : Nat) : Int64 := it (fun i a => a ||| sg (nx s i)) D 0
end Mach
section MachL
variable {S D : Nat} {nx : Nat → Nat → Nat} {bd : Nat → Nat → Bool}
theorem or_if {c : Prop} [Decidable c] (a b : Int64) (t : Nat) : lb (if c then a ||| b else a) t = (lb a t || (decide c && lb b t)) := by
  by_cases h : c
  · rw [if_pos h, lb_or, decide_eq_true h, Bool.true_and]
  · rw [if_neg h, decide_eq_false h, Bool.false_and, Bool.or_false]
theorem bad_iff (hS : S ≤ 64) {t : Nat} (ht : t < 64) : lb (badOf S D bd) t = true ↔ t < S ∧ ∃ i, i < D ∧ bd t i = true := by
  unfold badOf
  rw [it_or (b := fun s t => anyN (fun i => decide (bd s i = true) && lb (sg s) t) D) (fun s hs a t ht => by
    rw [it_or (b := fun i t => decide (bd s i = true) && lb (sg s) t) (fun i hi a t ht => or_if _ _ _) a ht]) _ ht, lb_0, Bool.false_or, anyN_iff]
  constructor
  · rintro ⟨s, hs, h⟩
    rw [anyN_iff] at h
    obtain ⟨i, hi, h⟩ := h
    rw [lb_sg (by omega) ht] at h
    simp at h
    obtain ⟨h1, h2⟩ := h
    subst h2
    exact ⟨hs, i, hi, h1⟩
  · rintro ⟨hs, i, hi, h⟩
    refine ⟨t, hs, ?_⟩
    rw [anyN_iff]
    exact ⟨i, hi, by rw [lb_sg (by omega) ht]; simp [h]⟩
theorem aft_iff (hn : ∀ s i, s < S → i < D → nx s i < 64) {s : Nat} (hs : s < S) {t : Nat} (ht : t < 64) : lb (aftOf D nx s) t = true ↔ ∃ i, i < D ∧ nx s i = t := by
  unfold aftOf
  rw [it_or (b := fun i t => lb (sg (nx s i)) t) (fun i hi a t ht => lb_or _ _ _) _ ht, lb_0, Bool.false_or, anyN_iff]
  constructor
  · rintro ⟨i, hi, h⟩
    rw [lb_sg (hn s i hs hi) ht] at h
    simp at h
    exact ⟨i, hi, h.symm⟩
  · rintro ⟨i, hi, h⟩
    refine ⟨i, hi, ?_⟩
    rw [lb_sg (hn s i hs hi) ht]
    simp [h]
theorem post_iff (hn : ∀ s i, s < S → i < D → nx s i < 64) {x : Int64} {t : Nat} (ht : t < 64) : lb (postOf S D nx x) t = true ↔ ∃ s, s < S ∧ lb x s = true ∧ ∃ i, i < D ∧ nx s i = t := by
  unfold postOf
  rw [it_or (b := fun s t => decide (lb x s = true) && lb (aftOf D nx s) t) (fun s hs a t ht => by
    by_cases h : lb x s = true
    · rw [if_pos h, it_or (b := fun i t => lb (sg (nx s i)) t) (fun i hi a t ht => lb_or _ _ _) a ht]
      unfold aftOf
      rw [it_or (b := fun i t => lb (sg (nx s i)) t) (fun i hi a t ht => lb_or _ _ _) 0 ht, lb_0, Bool.false_or, decide_eq_true h, Bool.true_and]
    · rw [if_neg h, decide_eq_false h, Bool.false_and, Bool.or_false]) _ ht, lb_0, Bool.false_or, anyN_iff]
  constructor
  · rintro ⟨s, hs, h⟩
    rw [Bool.and_eq_true, decide_eq_true_eq, aft_iff hn hs ht] at h
    exact ⟨s, hs, h.1, h.2⟩
  · rintro ⟨s, hs, h1, h2⟩
    refine ⟨s, hs, ?_⟩
    rw [Bool.and_eq_true, decide_eq_true_eq, aft_iff hn hs ht]
    exact ⟨h1, h2⟩
theorem pre_iff (hS : S ≤ 64) {x : Int64} {t : Nat} (ht : t < 64) : lb (preOf S D nx x) t = true ↔ t < S ∧ ∃ i, i < D ∧ lb x (nx t i) = true := by
  unfold preOf
  rw [it_or (b := fun s t => anyN (fun i => decide (lb x (nx s i) = true) && lb (sg s) t) D) (fun s hs a t ht => by
    rw [it_or (b := fun i t => decide (lb x (nx s i) = true) && lb (sg s) t) (fun i hi a t ht => or_if _ _ _) a ht]) _ ht, lb_0, Bool.false_or, anyN_iff]
  constructor
  · rintro ⟨s, hs, h⟩
    rw [anyN_iff] at h
    obtain ⟨i, hi, h⟩ := h
    rw [lb_sg (by omega) ht] at h
    simp at h
    obtain ⟨h1, h2⟩ := h
    subst h2
    exact ⟨hs, i, hi, h1⟩
  · rintro ⟨hs, i, hi, h⟩
    refine ⟨t, hs, ?_⟩
    rw [anyN_iff]
    exact ⟨i, hi, by rw [lb_sg (by omega) ht]; simp [h]⟩
/-- POST, by the sets of all next states -/
theorem post_by (hn : ∀ s i, s < S → i < D → nx s i < 64) {af : Nat → Int64} (ha : ∀ s, s < S → af s = aftOf D nx s) (x : Int64) :
    it (fun s a => if lb x s = true then a ||| af s else a) S 0 = postOf S D nx x := by
  apply lb_iff
  intro t ht
  rw [post_iff hn ht, it_or (b := fun s t => decide (lb x s = true) && lb (af s) t) (fun s hs a t ht => or_if _ _ _) _ ht, lb_0, Bool.false_or, anyN_iff]
  constructor
  · rintro ⟨s, hs, h⟩
    rw [Bool.and_eq_true, decide_eq_true_eq, ha s hs, aft_iff hn hs ht] at h
    exact ⟨s, hs, h.1, h.2⟩
  · rintro ⟨s, hs, h1, h2⟩
    refine ⟨s, hs, ?_⟩
    rw [Bool.and_eq_true, decide_eq_true_eq, ha s hs, aft_iff hn hs ht]
    exact ⟨h1, h2⟩
theorem pre_by (hS : S ≤ 64) (hn : ∀ s i, s < S → i < D → nx s i < 64) {af : Nat → Int64} (ha : ∀ s, s < S → af s = aftOf D nx s) (x : Int64) :
    it (fun s a => if (af s &&& x) ≠ 0 then a ||| sg s else a) S 0 = preOf S D nx x := by
  apply lb_iff
  intro t ht
  rw [pre_iff hS ht, it_or (b := fun s t => decide ((af s &&& x) ≠ 0) && lb (sg s) t) (fun s hs a t ht => or_if _ _ _) _ ht, lb_0, Bool.false_or, anyN_iff]
  constructor
  · rintro ⟨s, hs, h⟩
    rw [Bool.and_eq_true, decide_eq_true_eq, lb_sg (by omega) ht, decide_eq_true_eq] at h
    obtain ⟨h1, h2⟩ := h
    subst h2
    rw [ne0] at h1
    obtain ⟨u, hu, h1⟩ := h1
    rw [lb_and, Bool.and_eq_true, ha t hs, aft_iff hn hs hu] at h1
    obtain ⟨⟨i, hi, e⟩, h3⟩ := h1
    exact ⟨hs, i, hi, by rw [e]; exact h3⟩
  · rintro ⟨hs, i, hi, h⟩
    refine ⟨t, hs, ?_⟩
    rw [Bool.and_eq_true, decide_eq_true_eq, lb_sg (by omega) ht, decide_eq_true_eq]
    refine ⟨?_, rfl⟩
    rw [ne0]
    have hu := hn t i hs hi
    refine ⟨nx t i, hu, ?_⟩
    rw [lb_and, Bool.and_eq_true, ha t hs, aft_iff hn hs hu]
    exact ⟨⟨i, hi, rfl⟩, h⟩
theorem pre_0 (hS : S ≤ 64) : preOf S D nx 0 = 0 := by
  apply lb_iff
  intro t ht
  rw [pre_iff hS ht]
  simp [lb_0]
/-- forward and backward say the same -/
theorem safe_iff (hS : S ≤ 64) (hn : ∀ s i, s < S → i < D → nx s i < S) {st : Nat} (hst : st < S) :
    (gr (postOf S D nx) 64 (sg st) &&& badOf S D bd) = 0 ↔ ∀ n, lb (gr (preOf S D nx) n (badOf S D bd)) st = false := by
  have hn6 : ∀ s i, s < S → i < D → nx s i < 64 := fun s i h1 h2 => by have := hn s i h1 h2; omega
  have hst6 : st < 64 := by omega
  constructor
  · intro h n
    have key : ∀ n s, s < 64 → lb (gr (postOf S D nx) 64 (sg st)) s = true → lb (gr (preOf S D nx) n (badOf S D bd)) s = false := by
      intro n
      induction n with
      | zero =>
        intro s hs h1
        have h2 := eq0.mp h s hs
        rw [lb_and, h1, Bool.true_and] at h2
        exact h2
      | succ n ih =>
        intro s hs h1
        rw [gr_s, lb_or, ih s hs h1, Bool.false_or]
        cases e : lb (preOf S D nx (gr (preOf S D nx) n (badOf S D bd))) s
        · rfl
        · rw [pre_iff hS hs] at e
          obtain ⟨hs2, i, hi, e⟩ := e
          have hc : lb (gr (postOf S D nx) 64 (sg st)) (nx s i) = true := by
            apply gr_closed
            · exact gr_64 (by omega)
            · rw [post_iff hn6 (hn6 s i hs2 hi)]
              exact ⟨s, hs2, h1, i, hi, rfl⟩
          rw [ih (nx s i) (hn6 s i hs2 hi) hc] at e
          cases e
    apply key n st hst6
    apply gr_mono (n := 0) (by omega)
    rw [gr_z, lb_sg hst6 hst6]
    simp
  · intro h
    have key : ∀ n t, t < 64 → lb (gr (postOf S D nx) n (sg st)) t = true → lb (gr (preOf S D nx) 64 (badOf S D bd)) t = false := by
      intro n
      induction n with
      | zero =>
        intro t ht h1
        rw [gr_z, lb_sg hst6 ht, decide_eq_true_eq] at h1
        subst h1
        exact h 64
      | succ n ih =>
        intro t ht h1
        rw [gr_s, lb_or, Bool.or_eq_true] at h1
        rcases h1 with h1 | h1
        · exact ih t ht h1
        · rw [post_iff hn6 ht] at h1
          obtain ⟨s, hs, h2, i, hi, e⟩ := h1
          cases e2 : lb (gr (preOf S D nx) 64 (badOf S D bd)) t
          · rfl
          · have hc : lb (gr (preOf S D nx) 64 (badOf S D bd)) s = true := by
              apply gr_closed
              · exact gr_64 (by omega)
              · rw [pre_iff hS (by omega)]
                exact ⟨hs, i, hi, by rw [e]; exact e2⟩
            rw [ih s (by omega) h2] at hc
            cases hc
    rw [eq0]
    intro t ht
    rw [lb_and]
    cases e : lb (gr (postOf S D nx) 64 (sg st)) t
    · rfl
    · have h1 := key 64 t ht e
      cases e2 : lb (badOf S D bd) t
      · rfl
      · rw [gr_mono (n := 0) (by omega) (by rw [gr_z]; exact e2)] at h1
        cases h1
end MachL
