/-! the text as a row of characters, 0 behind its end; numbers, lines -/
def lk (tx : Nat → Nat) (n : Nat) (p : Nat) : Nat := if p < n then tx p else 0
def dg (c : Nat) : Bool := decide (48 ≤ c) && decide (c ≤ 57)
theorem dg_iff {c : Nat} : dg c = true ↔ 48 ≤ c ∧ c ≤ 57 := by unfold dg; simp
theorem dg_no {c : Nat} : dg c = false ↔ c < 48 ∨ 57 < c := by
  cases h : dg c
  · constructor
    · intro _
      rcases Nat.lt_or_ge c 48 with h1 | h1
      · exact Or.inl h1
      · rcases Nat.lt_or_ge 57 c with h2 | h2
        · exact Or.inr h2
        · rw [dg_iff.mpr ⟨h1, h2⟩] at h; cases h
    · intro _; rfl
  · rw [dg_iff] at h
    constructor
    · intro h2; cases h2
    · intro h2; omega
/-- a number as it is read by the class: it stops behind two digits, or behind a 0 -/
def cnum (T : Nat → Nat) (p : Nat) : Option (Nat × Nat) :=
  if dg (T p) = true then
    if T p = 48 then some (0, p + 1)
    else if dg (T (p + 1)) = true then some (10 * (T p - 48) + (T (p + 1) - 48), p + 2)
    else some (T p - 48, p + 1)
  else none
/-- and by the reference: all digits, at most three -/
def mnum (T : Nat → Nat) (p : Nat) : Option (Nat × Nat) :=
  if dg (T p) = true then
    if dg (T (p + 1)) = true then
      if dg (T (p + 2)) = true then none
      else if T p = 48 then none
      else some (10 * (T p - 48) + (T (p + 1) - 48), p + 2)
    else some (T p - 48, p + 1)
  else none
theorem mnum_cnum {T : Nat → Nat} {p v q : Nat} (h : mnum T p = some (v, q)) : cnum T p = some (v, q) ∧ dg (T q) = false := by
  unfold mnum at h
  unfold cnum
  by_cases h1 : dg (T p) = true
  · rw [if_pos h1] at h ⊢
    by_cases h2 : dg (T (p + 1)) = true
    · rw [if_pos h2] at h
      by_cases h3 : dg (T (p + 2)) = true
      · rw [if_pos h3] at h; cases h
      · rw [if_neg h3] at h
        by_cases h4 : T p = 48
        · rw [if_pos h4] at h; cases h
        · rw [if_neg h4] at h
          cases h
          rw [if_neg h4, if_pos h2]
          exact ⟨rfl, by simpa using h3⟩
    · rw [if_neg h2] at h
      cases h
      have e2 : dg (T (p + 1)) = false := by simpa using h2
      by_cases h4 : T p = 48
      · rw [if_pos h4, h4]; exact ⟨rfl, e2⟩
      · rw [if_neg h4, if_neg h2]; exact ⟨rfl, e2⟩
  · rw [if_neg h1] at h; cases h
theorem cnum_mnum {T : Nat → Nat} {p v q : Nat} (h : cnum T p = some (v, q)) (hq : dg (T q) = false) : mnum T p = some (v, q) := by
  unfold cnum at h
  unfold mnum
  by_cases h1 : dg (T p) = true
  · rw [if_pos h1] at h ⊢
    by_cases h4 : T p = 48
    · rw [if_pos h4] at h
      cases h
      rw [if_neg (by rw [hq]; decide), h4]
    · rw [if_neg h4] at h
      by_cases h2 : dg (T (p + 1)) = true
      · rw [if_pos h2] at h
        cases h
        rw [if_pos h2, if_neg (by rw [hq]; decide), if_neg h4]
      · rw [if_neg h2] at h
        cases h
        rw [if_neg h2]
  · rw [if_neg h1] at h; cases h
theorem cnum_lt {T : Nat → Nat} {p v q : Nat} (h : cnum T p = some (v, q)) : v < 100 ∧ p < q := by
  unfold cnum at h
  by_cases h1 : dg (T p) = true
  · rw [if_pos h1] at h
    rw [dg_iff] at h1
    by_cases h4 : T p = 48
    · rw [if_pos h4] at h
      cases h
      omega
    · rw [if_neg h4] at h
      by_cases h2 : dg (T (p + 1)) = true
      · rw [if_pos h2] at h
        rw [dg_iff] at h2
        cases h
        omega
      · rw [if_neg h2] at h
        cases h
        omega
  · rw [if_neg h1] at h; cases h
def pre (l : List Nat) : Option (List Nat × Nat) → Option (List Nat × Nat)
  | none => none
  | some (l', q) => some (l ++ l', q)
theorem pre_nil (o : Option (List Nat × Nat)) : pre [] o = o := by
  cases o with
  | none => rfl
  | some q => rfl
theorem pre_pre (a b : List Nat) (o : Option (List Nat × Nat)) : pre a (pre b o) = pre (a ++ b) o := by
  cases o with
  | none => rfl
  | some q => obtain ⟨l, q⟩ := q; simp [pre]
theorem pre_none (a : List Nat) : pre a none = none := rfl
theorem pre_some {a l : List Nat} {o : Option (List Nat × Nat)} {q : Nat} (h : pre a o = some (l, q)) : ∃ l', o = some (l', q) ∧ l = a ++ l' := by
  cases o with
  | none => cases h
  | some z =>
    obtain ⟨l', q'⟩ := z
    simp only [pre, Option.some.injEq, Prod.mk.injEq] at h
    obtain ⟨h1, h2⟩ := h
    subst h2
    exact ⟨l', rfl, h1.symm⟩
/-- a line: numbers with a blank between each two, and a newline; at most f of them -/
def lnF (T : Nat → Nat) : Nat → Nat → Option (List Nat × Nat)
  | 0, _ => none
  | f + 1, p => match cnum T p with
    | none => none
    | some (v, q) => if T q = 10 then some ([v], q + 1) else if T q = 32 then pre [v] (lnF T f (q + 1)) else none
/-- a line of just n numbers -/
def exF (T : Nat → Nat) : Nat → Nat → Option (List Nat × Nat)
  | 0, _ => none
  | n + 1, p => match cnum T p with
    | none => none
    | some (v, q) => if n = 0 then (if T q = 10 then some ([v], q + 1) else none) else if T q = 32 then pre [v] (exF T n (q + 1)) else none
theorem lnF_ex {T : Nat → Nat} {f p q : Nat} {l : List Nat} (h : lnF T f p = some (l, q)) : exF T l.length p = some (l, q) ∧ 1 ≤ l.length ∧ l.length ≤ f := by
  induction f generalizing p l with
  | zero => cases h
  | succ f ih =>
    rw [lnF] at h
    cases hc : cnum T p with
    | none => rw [hc] at h; cases h
    | some z =>
      obtain ⟨v, r⟩ := z
      rw [hc] at h
      dsimp only at h
      by_cases h1 : T r = 10
      · rw [if_pos h1] at h
        cases h
        refine ⟨?_, Nat.le_refl _, by simp⟩
        show exF T (0 + 1) p = _
        rw [exF, hc]
        simp [h1]
      · rw [if_neg h1] at h
        by_cases h2 : T r = 32
        · rw [if_pos h2] at h
          obtain ⟨l', e1, e2⟩ := pre_some h
          obtain ⟨a, b, c⟩ := ih e1
          subst e2
          refine ⟨?_, by simp, by simp; omega⟩
          show exF T (l'.length + 1) p = _
          rw [exF, hc]
          dsimp only
          rw [if_neg (by omega), if_pos h2, a]
          rfl
        · rw [if_neg h2] at h; cases h
theorem exF_ln {T : Nat → Nat} {n p q : Nat} {l : List Nat} (h : exF T n p = some (l, q)) {f : Nat} (hf : n ≤ f) : lnF T f p = some (l, q) ∧ l.length = n := by
  induction n generalizing p l f with
  | zero => cases h
  | succ n ih =>
    obtain ⟨f, rfl⟩ : ∃ g, f = g + 1 := ⟨f - 1, by omega⟩
    rw [exF] at h
    rw [lnF]
    cases hc : cnum T p with
    | none => rw [hc] at h; cases h
    | some z =>
      obtain ⟨v, r⟩ := z
      rw [hc] at h
      dsimp only at h ⊢
      by_cases h0 : n = 0
      · rw [if_pos h0] at h
        by_cases h1 : T r = 10
        · rw [if_pos h1] at h ⊢
          cases h
          exact ⟨rfl, by simp [h0]⟩
        · rw [if_neg h1] at h; cases h
      · rw [if_neg h0] at h
        by_cases h2 : T r = 32
        · rw [if_pos h2] at h
          obtain ⟨l', e1, e2⟩ := pre_some h
          obtain ⟨a, b⟩ := ih e1 (f := f) (by omega)
          rw [if_neg (by omega), if_pos h2, a, e2]
          exact ⟨rfl, by simp [b]⟩
        · rw [if_neg h2] at h; cases h
theorem lnF_lt {T : Nat → Nat} {f p q : Nat} {l : List Nat} (h : lnF T f p = some (l, q)) : ∀ v ∈ l, v < 100 := by
  induction f generalizing p l with
  | zero => cases h
  | succ f ih =>
    rw [lnF] at h
    cases hc : cnum T p with
    | none => rw [hc] at h; cases h
    | some z =>
      obtain ⟨v, r⟩ := z
      rw [hc] at h
      dsimp only at h
      have hv := (cnum_lt hc).1
      by_cases h1 : T r = 10
      · rw [if_pos h1] at h
        cases h
        intro w hw
        simp at hw
        omega
      · rw [if_neg h1] at h
        by_cases h2 : T r = 32
        · rw [if_pos h2] at h
          obtain ⟨l', e1, e2⟩ := pre_some h
          subst e2
          intro w hw
          simp at hw
          rcases hw with rfl | hw
          · exact hv
          · exact ih e1 w hw
        · rw [if_neg h2] at h; cases h
/-- the reference's line, from its number k on, m of them left; two: the line of a latch, whose third number may be wanting -/
def mR (T : Nat → Nat) (two : Bool) : Nat → Nat → Nat → Option (List Nat × Nat)
  | 0, _, q => if T q = 10 then some ([], q + 1) else none
  | m + 1, k, q =>
    if two = true ∧ k = 2 ∧ T q = 10 then pre [0] (mR T two m (k + 1) q)
    else if k = 0 then (match mnum T q with
      | none => none
      | some (v, r) => pre [v] (mR T two m (k + 1) r))
    else if T q = 32 then (match mnum T (q + 1) with
      | none => none
      | some (v, r) => pre [v] (mR T two m (k + 1) r))
    else none
theorem mR_ex {T : Nat → Nat} (m : Nat) : ∀ (k q : Nat), 1 ≤ k → mR T false m k q = if m = 0 then (if T q = 10 then some ([], q + 1) else none) else if T q = 32 then exF T m (q + 1) else none := by
  induction m with
  | zero => intro k q _; rfl
  | succ m ih =>
    intro k q hk
    rw [mR, if_neg (fun h => by cases h.1), if_neg (show ¬ k = 0 by omega), if_neg (show ¬ m + 1 = 0 by omega)]
    by_cases h : T q = 32
    · rw [if_pos h, if_pos h, exF]
      cases hm : mnum T (q + 1) with
      | some z =>
        obtain ⟨v, r⟩ := z
        dsimp only
        obtain ⟨a, b⟩ := mnum_cnum hm
        rw [a]
        dsimp only
        rw [ih (k + 1) r (by omega)]
        by_cases h0 : m = 0
        · rw [if_pos h0, if_pos h0]
          by_cases h1 : T r = 10
          · rw [if_pos h1, if_pos h1]; rfl
          · rw [if_neg h1, if_neg h1]; rfl
        · rw [if_neg h0, if_neg h0]
          by_cases h1 : T r = 32
          · rw [if_pos h1, if_pos h1]
          · rw [if_neg h1, if_neg h1]; rfl
      | none =>
        dsimp only
        cases hc : cnum T (q + 1) with
        | none => rfl
        | some z =>
          obtain ⟨v, r⟩ := z
          dsimp only
          have hd : dg (T r) = true := by
            cases e : dg (T r)
            · rw [cnum_mnum hc e] at hm; cases hm
            · rfl
          rw [dg_iff] at hd
          by_cases h0 : m = 0
          · rw [if_pos h0, if_neg (by omega)]
          · rw [if_neg h0, if_neg (by omega)]
    · rw [if_neg h, if_neg h]
theorem mR_top {T : Nat → Nat} (two : Bool) (m p : Nat) : mR T two (m + 1) 0 p = match cnum T p with
    | none => none
    | some (v, q) => if dg (T q) = true then none else pre [v] (mR T two m 1 q) := by
  rw [mR, if_neg (fun h => by have := h.2.1; omega), if_pos rfl]
  cases hm : mnum T p with
  | some z =>
    obtain ⟨v, r⟩ := z
    obtain ⟨a, b⟩ := mnum_cnum hm
    rw [a]
    dsimp only
    rw [if_neg (by rw [b]; decide)]
  | none =>
    dsimp only
    cases hc : cnum T p with
    | none => rfl
    | some z =>
      obtain ⟨v, r⟩ := z
      dsimp only
      cases e : dg (T r)
      · rw [cnum_mnum hc e] at hm; cases hm
      · rw [if_pos rfl]
theorem mR_exF {T : Nat → Nat} (m p : Nat) : mR T false (m + 1) 0 p = exF T (m + 1) p := by
  rw [mR_top, exF]
  cases hc : cnum T p with
  | none => rfl
  | some z =>
    obtain ⟨v, r⟩ := z
    dsimp only
    rw [mR_ex m 1 r (Nat.le_refl _)]
    by_cases hd : dg (T r) = true
    · rw [if_pos hd]
      rw [dg_iff] at hd
      by_cases h0 : m = 0
      · rw [if_pos h0, if_neg (by omega)]
      · rw [if_neg h0, if_neg (by omega)]
    · rw [if_neg hd]
      by_cases h0 : m = 0
      · rw [if_pos h0, if_pos h0]
        by_cases h1 : T r = 10
        · rw [if_pos h1, if_pos h1]; rfl
        · rw [if_neg h1, if_neg h1]; rfl
      · rw [if_neg h0, if_neg h0]
        by_cases h1 : T r = 32
        · rw [if_pos h1, if_pos h1]
        · rw [if_neg h1, if_neg h1]; rfl
/-- the line of a latch: two or three numbers, the third 0 if it is wanting -/
def laF (T : Nat → Nat) (p : Nat) : Option (List Nat × Nat) := match lnF T 5 p with
  | none => none
  | some (l, q) => if l.length = 2 then some (l ++ [0], q) else if l.length = 3 then some (l, q) else none
theorem mR_la {T : Nat → Nat} (p : Nat) : mR T true 3 0 p = laF T p := by
  have key : ∀ q, mR T true 1 2 q = if T q = 10 then some ([0], q + 1) else if T q = 32 then exF T 1 (q + 1) else none := by
    intro q
    by_cases h : T q = 10
    · rw [mR, if_pos ⟨rfl, rfl, h⟩, if_pos h, mR, if_pos h]; rfl
    · rw [mR, if_neg (fun z => h z.2.2), if_neg (by decide), if_neg h]
      by_cases h2 : T q = 32
      · rw [if_pos h2, if_pos h2, exF]
        cases hm : mnum T (q + 1) with
        | some z =>
          obtain ⟨v, r⟩ := z
          obtain ⟨a, b⟩ := mnum_cnum hm
          rw [a]
          dsimp only
          rw [if_pos rfl, mR]
          by_cases h1 : T r = 10
          · rw [if_pos h1, if_pos h1]; rfl
          · rw [if_neg h1, if_neg h1]; rfl
        | none =>
          dsimp only
          cases hc : cnum T (q + 1) with
          | none => rfl
          | some z =>
            obtain ⟨v, r⟩ := z
            dsimp only
            rw [if_pos rfl, if_neg]
            intro h1
            rw [cnum_mnum hc (by rw [h1]; decide)] at hm
            cases hm
      · rw [if_neg h2, if_neg h2]
  have key1 : ∀ q, mR T true 2 1 q = if T q = 32 then (match cnum T (q + 1) with
      | none => none
      | some (v, r) => if dg (T r) = true then none else pre [v] (mR T true 1 2 r)) else none := by
    intro q
    rw [mR, if_neg (fun z => by have := z.2.1; omega), if_neg (by decide)]
    by_cases h2 : T q = 32
    · rw [if_pos h2, if_pos h2]
      cases hm : mnum T (q + 1) with
      | some z =>
        obtain ⟨v, r⟩ := z
        obtain ⟨a, b⟩ := mnum_cnum hm
        rw [a]
        dsimp only
        rw [if_neg (by rw [b]; decide)]
      | none =>
        dsimp only
        cases hc : cnum T (q + 1) with
        | none => rfl
        | some z =>
          obtain ⟨v, r⟩ := z
          dsimp only
          cases e : dg (T r)
          · rw [cnum_mnum hc e] at hm; cases hm
          · rw [if_pos rfl]
    · rw [if_neg h2, if_neg h2]
  rw [mR_top]
  unfold laF
  rw [lnF]
  cases hc : cnum T p with
  | none => rfl
  | some z =>
    obtain ⟨v, q⟩ := z
    dsimp only
    rw [key1]
    by_cases h10 : T q = 10
    · rw [if_neg (by rw [h10]; decide), if_neg (by omega), if_pos h10]
      rfl
    · rw [if_neg h10]
      by_cases h32 : T q = 32
      · rw [if_neg (by rw [h32]; decide), if_pos h32, if_pos h32, lnF]
        cases hc2 : cnum T (q + 1) with
        | none => rfl
        | some z =>
          obtain ⟨v2, q2⟩ := z
          dsimp only
          rw [key]
          by_cases g10 : T q2 = 10
          · rw [if_neg (by rw [g10]; decide), if_pos g10, if_pos g10]
            rfl
          · rw [if_neg g10, if_neg g10]
            by_cases g32 : T q2 = 32
            · rw [if_neg (by rw [g32]; decide), if_pos g32, if_pos g32, lnF, exF]
              cases hc3 : cnum T (q2 + 1) with
              | none => rfl
              | some z =>
                obtain ⟨v3, q3⟩ := z
                dsimp only
                rw [if_pos rfl]
                by_cases f10 : T q3 = 10
                · rw [if_pos f10, if_pos f10]; rfl
                · rw [if_neg f10, if_neg f10]
                  by_cases f32 : T q3 = 32
                  · rw [if_pos f32]
                    cases hl : lnF T 2 (q3 + 1) with
                    | none => rfl
                    | some z =>
                      obtain ⟨l, q4⟩ := z
                      have h1 := (lnF_ex hl).2.1
                      show _ = (if (v :: (v2 :: (v3 :: l))).length = 2 then _ else if (v :: (v2 :: (v3 :: l))).length = 3 then _ else none)
                      rw [if_neg (by simp), if_neg (fun h3 => by simp at h3; subst h3; simp at h1)]
                      rfl
                  · rw [if_neg f32]; rfl
            · rw [if_neg g32, if_neg g32]
              cases hd : dg (T q2)
              · rfl
              · rfl
      · rw [if_neg h32, if_neg h32]
        cases hd : dg (T q)
        · rfl
        · rfl
/-! rows of lines: where each begins, what it says, whether all are there -/
def pos (ln : Nat → Option (List Nat × Nat)) (p0 : Nat) : Nat → Nat
  | 0 => p0
  | k + 1 => match ln (pos ln p0 k) with
    | none => 0
    | some (_, q) => q
def vl (ln : Nat → Option (List Nat × Nat)) (p0 k c : Nat) : Nat := match ln (pos ln p0 k) with
  | none => 0
  | some (l, _) => l.getD c 0
def okl (ln : Nat → Option (List Nat × Nat)) (p0 n : Nat) : Prop := ∀ k, k < n → ∃ z, ln (pos ln p0 k) = some z
theorem pos_s {ln : Nat → Option (List Nat × Nat)} {p0 k q : Nat} {l : List Nat} (h : ln (pos ln p0 k) = some (l, q)) : pos ln p0 (k + 1) = q := by rw [pos, h]
theorem vl_s {ln : Nat → Option (List Nat × Nat)} {p0 k q c : Nat} {l : List Nat} (h : ln (pos ln p0 k) = some (l, q)) : vl ln p0 k c = l.getD c 0 := by rw [vl, h]
theorem okl_s {ln : Nat → Option (List Nat × Nat)} {p0 n : Nat} {z : List Nat × Nat} (h : okl ln p0 n) (hz : ln (pos ln p0 n) = some z) : okl ln p0 (n + 1) := by
  intro k hk
  rcases Nat.lt_or_ge k n with h1 | h1
  · exact h k h1
  · have : k = n := by omega
    subst this
    exact ⟨z, hz⟩
theorem okl_not {ln : Nat → Option (List Nat × Nat)} {p0 n k : Nat} (hk : k < n) (hz : ln (pos ln p0 k) = none) : ¬ okl ln p0 n := fun h => by
  obtain ⟨z, e⟩ := h k hk
  rw [hz] at e
  cases e
theorem getD_lt {l : List Nat} {n : Nat} (h : ∀ v ∈ l, v < n) (hn : 0 < n) (c : Nat) : l.getD c 0 < n := by
  rw [List.getD_eq_getElem?_getD]
  cases e : l[c]? with
  | none => simpa using hn
  | some v => exact h v (List.mem_of_getElem? e)
theorem exF_lt {T : Nat → Nat} {n p q : Nat} {l : List Nat} (h : exF T n p = some (l, q)) : ∀ v ∈ l, v < 100 := lnF_lt (exF_ln h (Nat.le_refl n)).1
theorem laF_lt {T : Nat → Nat} {p q : Nat} {l : List Nat} (h : laF T p = some (l, q)) : ∀ v ∈ l, v < 100 := by
  unfold laF at h
  cases hl : lnF T 5 p with
  | none => rw [hl] at h; cases h
  | some z =>
    obtain ⟨l', q'⟩ := z
    have h1 := lnF_lt hl
    rw [hl] at h
    dsimp only at h
    by_cases h2 : l'.length = 2
    · rw [if_pos h2] at h
      cases h
      intro v hv
      simp at hv
      rcases hv with hv | hv
      · exact h1 v hv
      · omega
    · rw [if_neg h2] at h
      by_cases h3 : l'.length = 3
      · rw [if_pos h3] at h
        cases h
        exact h1
      · rw [if_neg h3] at h; cases h
theorem vl_lt {ln : Nat → Option (List Nat × Nat)} (h : ∀ p l q, ln p = some (l, q) → ∀ v ∈ l, v < 100) (p0 k c : Nat) : vl ln p0 k c < 100 := by
  unfold vl
  cases e : ln (pos ln p0 k) with
  | none => exact (show (0 : Nat) < 100 by decide)
  | some z =>
    obtain ⟨l, q⟩ := z
    exact getD_lt (h _ _ _ e) (by decide) c
/-! a text of a circuit: its lines -/
section Circ
variable (T : Nat → Nat)
def hdO : Option (List Nat × Nat) := if T 0 = 97 ∧ T 1 = 97 ∧ T 2 = 103 ∧ T 3 = 32 then exF T 5 4 else none
def hd (c : Nat) : Nat := match hdO T with
  | none => 0
  | some (l, _) => l.getD c 0
def e0 : Nat := match hdO T with
  | none => 0
  | some (_, q) => q
def e1 : Nat := pos (exF T 1) (e0 T) (hd T 1)
def e2 : Nat := pos (laF T) (e1 T) (hd T 2)
def e3 : Nat := pos (exF T 1) (e2 T) (hd T 3)
def e4 : Nat := pos (exF T 3) (e3 T) (hd T 4)
/-- inputs, latches (literal, next, first), outputs, gates -/
def xin (k : Nat) : Nat := vl (exF T 1) (e0 T) k 0
def xla (k c : Nat) : Nat := vl (laF T) (e1 T) k c
def xou (k : Nat) : Nat := vl (exF T 1) (e2 T) k 0
def xga (k c : Nat) : Nat := vl (exF T 3) (e3 T) k c
def linesOK (n : Nat) : Prop := (∃ z, hdO T = some z) ∧ okl (exF T 1) (e0 T) (hd T 1) ∧ okl (laF T) (e1 T) (hd T 2) ∧ okl (exF T 1) (e2 T) (hd T 3) ∧ okl (exF T 3) (e3 T) (hd T 4) ∧ e4 T = n
/-- the literals that define a variable, in the order of their lines -/
def dl (n : Nat) : Nat := if n < hd T 1 then xin T n else if n < hd T 1 + hd T 2 then xla T (n - hd T 1) 0 else xga T (n - hd T 1 - hd T 2) 0
def dN : Nat := hd T 1 + hd T 2 + hd T 4
def dfn (x : Nat) : Prop := 2 ≤ x ∧ x % 2 = 0 ∧ x / 2 ≤ hd T 0
/-- the first n of them are good -/
def dOK (n : Nat) : Prop := ∀ m, m < n → dfn T (dl T m) ∧ ∀ j, j < m → dl T j ≠ dl T m
def isD (n v : Nat) : Prop := ∃ m, m < n ∧ dl T m = 2 * v
/-- a literal that is named elsewhere -/
def mOK (x : Nat) : Prop := x < 2 ∨ (x ≤ 2 * hd T 0 + 1 ∧ isD T (dN T) (x / 2))
def circOK (n : Nat) : Prop := linesOK T n ∧ dOK T (dN T) ∧ (∀ k, k < hd T 2 → xla T k 2 < 2) ∧ (∀ k, k < hd T 4 → xga T k 1 < xga T k 0 ∧ xga T k 2 < xga T k 0)
  ∧ (∀ k, k < hd T 2 → mOK T (xla T k 1)) ∧ (∀ k, k < hd T 3 → mOK T (xou T k)) ∧ (∀ k, k < hd T 4 → mOK T (xga T k 1) ∧ mOK T (xga T k 2))
def small : Prop := hd T 1 ≤ 3 ∧ hd T 2 ≤ 6 ∧ hd T 3 = 1 ∧ hd T 4 ≤ 20
end Circ
theorem hd_lt (T : Nat → Nat) (c : Nat) : hd T c < 100 := by
  unfold hd hdO
  split
  · decide
  · rename_i l q e
    by_cases h : T 0 = 97 ∧ T 1 = 97 ∧ T 2 = 103 ∧ T 3 = 32
    · rw [if_pos h] at e
      exact getD_lt (exF_lt e) (by decide) c
    · rw [if_neg h] at e; cases e
theorem xin_lt (T : Nat → Nat) (k : Nat) : xin T k < 100 := vl_lt (fun _ _ _ h => exF_lt h) _ _ _
theorem xla_lt (T : Nat → Nat) (k c : Nat) : xla T k c < 100 := vl_lt (fun _ _ _ h => laF_lt h) _ _ _
theorem xou_lt (T : Nat → Nat) (k : Nat) : xou T k < 100 := vl_lt (fun _ _ _ h => exF_lt h) _ _ _
theorem xga_lt (T : Nat → Nat) (k c : Nat) : xga T k c < 100 := vl_lt (fun _ _ _ h => exF_lt h) _ _ _
