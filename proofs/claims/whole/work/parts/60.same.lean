/-! class and reference say the same -/
section Same
variable {S D : Nat} {nx nx' : Nat → Nat → Nat} {bd bd' : Nat → Nat → Bool}
theorem post_cg (h : ∀ s i, s < S → i < D → nx s i = nx' s i) : postOf S D nx = postOf S D nx' := by
  funext x
  unfold postOf
  exact it_congr (fun s hs a => by
    by_cases e : lb x s = true
    · rw [if_pos e, if_pos e]
      exact it_congr (fun i hi b => by rw [h s i hs hi]) a
    · rw [if_neg e, if_neg e]) 0
theorem pre_cg (h : ∀ s i, s < S → i < D → nx s i = nx' s i) : preOf S D nx = preOf S D nx' := by
  funext x
  unfold preOf
  exact it_congr (fun s hs a => it_congr (fun i hi b => by rw [h s i hs hi]) a) 0
theorem bad_cg (h : ∀ s i, s < S → i < D → bd s i = bd' s i) : badOf S D bd = badOf S D bd' := by
  unfold badOf
  exact it_congr (fun s hs a => it_congr (fun i hi b => by rw [h s i hs hi]) a) 0
theorem nF_cg (h : ∀ s i, s < S → i < D → nx s i = nx' s i) (kb : Int64) : nF S D nx kb = nF S D nx' kb := by
  funext j
  unfold nF
  rw [pre_cg h]
/-- the way: the same where the steps are the same -/
theorem wst_cg {Nf : Nat → Int64} {d st : Nat} (hD : 1 ≤ D) (hst : st < S) (h : ∀ s i, s < S → i < D → nx s i = nx' s i) (hn : ∀ s i, s < S → i < D → nx' s i < S) (k : Nat) : wst nx Nf D d st k = wst nx' Nf D d st k ∧ wst nx' Nf D d st k < S := by
  induction k with
  | zero => exact ⟨rfl, hst⟩
  | succ k ih =>
    obtain ⟨e, hl⟩ := ih
    have hc : lst (fun i => lb (Nf (d - k - 1)) (nx (wst nx Nf D d st k) i)) (D - 1) = lst (fun i => lb (Nf (d - k - 1)) (nx' (wst nx' Nf D d st k) i)) (D - 1) := lst_congr (fun i hi => by rw [e, h _ i hl (by omega)])
    have h1 := (lst_spec (fun i => lb (Nf (d - k - 1)) (nx' (wst nx' Nf D d st k) i)) (D - 1)).1
    rw [wst, wst, hc, e]
    exact ⟨h _ _ hl (by omega), hn _ _ hl (by omega)⟩
theorem win_cg {Nf : Nat → Int64} {d st : Nat} (hD : 1 ≤ D) (hst : st < S) (h : ∀ s i, s < S → i < D → nx s i = nx' s i) (hn : ∀ s i, s < S → i < D → nx' s i < S) (k : Nat) : win nx Nf D d st k = win nx' Nf D d st k := by
  obtain ⟨e, hl⟩ := wst_cg (Nf := Nf) (d := d) hD hst h hn k
  unfold win
  exact lst_congr (fun i hi => by rw [e, h _ i hl (by omega)])
/-- counts -/
theorem cn_S {x : Int64} {S : Nat} (hS : S ≤ 64) (hx : ∀ i, i < 64 → lb x i = true → i < S) : cn x 64 = cn x S := by
  have key : ∀ n, S ≤ n → n ≤ 64 → cn x n = cn x S := by
    intro n
    induction n with
    | zero => intro h _; rw [show S = 0 by omega]
    | succ n ih =>
      intro h1 h2
      by_cases e : S = n + 1
      · rw [e]
      · rw [cn, ih (by omega) (by omega), if_neg (fun h => by have := hx n (by omega) h; omega)]; rfl
  exact key 64 hS (Nat.le_refl _)
theorem cntP_cg {P Q : Nat → Bool} {n : Nat} (h : ∀ a, a < n → P a = Q a) : cntP P n = cntP Q n := by
  induction n with
  | zero => rfl
  | succ n ih => rw [cntP, cntP, ih (fun a ha => h a (by omega)), h n (by omega)]
theorem anyN_cg {P Q : Nat → Bool} {n : Nat} (h : ∀ a, a < n → P a = Q a) : anyN P n = anyN Q n := by
  induction n with
  | zero => rfl
  | succ n ih => rw [anyN, anyN, ih (fun a ha => h a (by omega)), h n (by omega)]
/-- nodes -/
theorem frM_iff {S : Nat} {x : Int64} {j h a : Nat} : frM S x j h a = true ↔ hangM (fnM S x j a) h = true ∧ ∀ b, b < a → fnM S x j b ≠ fnM S x j a := by
  unfold frM
  rw [Bool.and_eq_true, Bool.not_eq_true']
  refine and_congr Iff.rfl ?_
  constructor
  · intro h b hb e
    rw [anyN_iff.mpr ⟨b, hb, by simp [e]⟩] at h
    cases h
  · intro h
    cases e : anyN (fun b => decide (fnM S x j b = fnM S x j a)) a
    · rfl
    · obtain ⟨b, hb, h2⟩ := anyN_iff.mp e
      exact absurd (by simpa using h2) (h b hb)
theorem fr_same {L j : Nat} (hL : L ≤ 6) (hj : j < L) (x : Int64) {a : Nat} (ha : a < 2 ^ j) : frB x (lz (2 ^ L) j) j a = frM (2 ^ L) x j (2 ^ (L - j - 1)) a := by
  rw [Bool.eq_iff_iff, frB_iff, frM_iff]
  refine and_congr (hang_iff hL hj x ha) ?_
  constructor
  · intro h b hb e
    exact h b hb ((fn_eq hL hj x (a := b) (b := a) (by omega) ha).mpr e)
  · intro h b hb e
    exact h b hb ((fn_eq hL hj x (a := b) (b := a) (by omega) ha).mp e)
theorem nodes_same {L : Nat} (hL : L ≤ 6) (x : Int64) : it (fun j a => a + cntP (frB x (lz (2 ^ L) j) j) (2 ^ j)) L 0 = it (fun j a => a + cntP (frM (2 ^ L) x j (2 ^ (L - j - 1))) (2 ^ j)) L 0 :=
  it_congr (fun j hj a => by rw [cntP_cg (fun b hb => fr_same hL hj x hb)]) 0
end Same
/-! which states a set may hold -/
def inS (S : Nat) (x : Int64) : Prop := ∀ i, lb x i = true → i < S
section In
variable {S D : Nat} {nx : Nat → Nat → Nat} {bd : Nat → Nat → Bool}
theorem in_or {x y : Int64} (hx : inS S x) (hy : inS S y) : inS S (x ||| y) := fun i h => by
  rw [lb_or, Bool.or_eq_true] at h
  rcases h with h | h
  · exact hx i h
  · exact hy i h
theorem in_sg {k : Nat} (hk : k < S) (hS : S ≤ 64) : inS S (sg k) := fun i h => by
  have hi := lb_lt h
  rw [lb_sg (by omega) hi, decide_eq_true_eq] at h
  omega
theorem in_post (hS : S ≤ 64) (hn : ∀ s i, s < S → i < D → nx s i < S) (x : Int64) : inS S (postOf S D nx x) := fun t h => by
  obtain ⟨s, hs, -, i, hi, e⟩ := (post_iff (fun s i h1 h2 => Nat.lt_of_lt_of_le (hn s i h1 h2) hS) (lb_lt h)).mp h
  rw [← e]; exact hn s i hs hi
theorem in_pre (hS : S ≤ 64) (x : Int64) : inS S (preOf S D nx x) := fun t h => ((pre_iff hS (lb_lt h)).mp h).1
theorem in_bad (hS : S ≤ 64) : inS S (badOf S D bd) := fun t h => ((bad_iff hS (lb_lt h)).mp h).1
theorem in_gr {F : Int64 → Int64} (hF : ∀ x, inS S (F x)) {x : Int64} (hx : inS S x) (n : Nat) : inS S (gr F n x) := by
  induction n with
  | zero => exact hx
  | succ n ih => rw [gr_s]; exact in_or ih (hF _)
end In
section Prf
variable {po : Int64 → Int64} {nr : Nat → Int64} {L : Nat} {r0 : Int64}
theorem rnd_wid (hL : L ≤ 6) (hp : ∀ x, inS (2 ^ L) (po x)) (K : Nat) (r : Int64) : rnd po nr (widM (2 ^ L)) L r0 K r = rnd po nr wid L r0 K r := by
  unfold rnd
  rw [(widAll_eq hL (hp r) (Nat.le_refl L)).1]
theorem prf_wid (hL : L ≤ 6) (hp : ∀ x, inS (2 ^ L) (po x)) (f K : Nat) (r : Int64) (n : Nat) : prf po nr (widM (2 ^ L)) L r0 f K r n = prf po nr wid L r0 f K r n := by
  induction f generalizing K r n with
  | zero => rfl
  | succ f ih =>
    rw [prf, prf, rnd_wid hL hp]
    cases rnd po nr wid L r0 K r with
    | none => rfl
    | some q => obtain ⟨K', r'⟩ := q; exact ih K' r' (n + 1)
theorem prf_in (hL : L ≤ 6) (hp : ∀ x, inS (2 ^ L) (po x)) (h0 : inS (2 ^ L) r0) (f K : Nat) (r : Int64) (hr : inS (2 ^ L) r) (n : Nat) : inS (2 ^ L) (prf po nr wid L r0 f K r n).2.1 := by
  induction f generalizing K r n with
  | zero => exact hr
  | succ f ih =>
    rw [prf]
    cases h : rnd po nr wid L r0 K r with
    | none => exact hr
    | some q =>
      obtain ⟨K', r'⟩ := q
      refine ih K' r' ?_ (n + 1)
      unfold rnd at h
      by_cases h1 : (po r &&& nr K) ≠ 0
      · rw [if_pos h1] at h; cases h; exact h0
      · rw [if_neg h1] at h
        by_cases h2 : (widAll wid L (nr K) (po r) &&& (r ^^^ (-1))) = 0
        · rw [if_pos h2] at h; cases h
        · rw [if_neg h2] at h
          cases h
          exact in_or hr (widAll_eq hL (hp r) (Nat.le_refl L)).2
end Prf
