/-! what the class keeps while it reads: ni inputs, nl latches, no outputs, ng gates have been read -/
def Mn (T : Nat → Nat) (nl no ng x : Nat) : Prop := (∃ k, k < nl ∧ xla T k 1 = x) ∨ (∃ k, k < no ∧ xou T k = x) ∨ ∃ k, k < ng ∧ (xga T k 1 = x ∨ xga T k 2 = x)
/-- the first values of the first n latches -/
def stB (T : Nat → Nat) (n : Nat) : Nat := it (fun k a => a ||| xla T k 2 * 2 ^ k) n 0
def nS (T : Nat → Nat) (ni nl no ng : Nat) (df mt ig : Nat → Bool) (gl gr iv lv ln : Nat → Nat) (sa ol : Nat) : Prop :=
  dOK T (ni + nl + ng) ∧ (∀ v, v < 50 → (df v = true ↔ isD T (ni + nl + ng) v)) ∧ (∀ v, v < 50 → (mt v = true ↔ ∃ x, Mn T nl no ng x ∧ x / 2 = v)) ∧ (∀ x, Mn T nl no ng x → x ≤ 2 * hd T 0 + 1)
  ∧ (∀ k, k < nl → xla T k 2 < 2) ∧ (∀ k, k < ng → xga T k 1 < xga T k 0 ∧ xga T k 2 < xga T k 0) ∧ (∀ k, k < ni → k < 3 → iv k = xin T k / 2) ∧ (∀ k, k < nl → k < 6 → lv k = xla T k 0 / 2 ∧ ln k = xla T k 1)
  ∧ (sa = stB T (if nl ≤ 6 then nl else 6)) ∧ (0 < no → ol = xou T (no - 1)) ∧ (∀ v, v < 50 → (ig v = true ↔ ∃ k, k < ng ∧ xga T k 0 = 2 * v)) ∧ ∀ k, k < ng → gl (xga T k 0 / 2) = xga T k 1 ∧ gr (xga T k 0 / 2) = xga T k 2
theorem dOK_mono {T : Nat → Nat} {n m : Nat} (h : dOK T m) (hn : n ≤ m) : dOK T n := fun k hk => h k (by omega)
theorem isD_s {T : Nat → Nat} {n v : Nat} : isD T (n + 1) v ↔ isD T n v ∨ dl T n = 2 * v := by
  constructor
  · rintro ⟨m, hm, e⟩
    rcases Nat.lt_or_ge m n with h | h
    · exact Or.inl ⟨m, h, e⟩
    · have : m = n := by omega
      subst this; exact Or.inr e
  · rintro (⟨m, hm, e⟩ | e)
    · exact ⟨m, by omega, e⟩
    · exact ⟨n, by omega, e⟩
/-- a literal defines a variable: it is good, and not defined before -/
def dGood (T : Nat → Nat) (df : Nat → Bool) (x : Nat) : Prop := 2 ≤ x ∧ x % 2 = 0 ∧ x ≤ 2 * hd T 0 + 1 ∧ df (x / 2) = false
theorem def_ok {T : Nat → Nat} {n x : Nat} {df : Nat → Bool} (hx : dl T n = x) (hl : x < 100) (hD : dOK T n) (hdf : ∀ v, v < 50 → (df v = true ↔ isD T n v)) (h : dGood T df x) :
    dOK T (n + 1) ∧ ∀ v, v < 50 → (va_up df (x / 2) true v = true ↔ isD T (n + 1) v) := by
  obtain ⟨h1, h2, h3, h4⟩ := h
  constructor
  · intro m hm
    rcases Nat.lt_or_ge m n with h5 | h5
    · exact hD m h5
    · have : m = n := by omega
      subst this
      rw [hx]
      refine ⟨⟨h1, h2, by omega⟩, fun j hj e => ?_⟩
      have h6 := (hdf (x / 2) (by omega)).mpr ⟨j, hj, by omega⟩
      rw [h4] at h6
      cases h6
  · intro v hv
    rw [isD_s]
    by_cases e : v = x / 2
    · subst e
      rw [va_up_self]
      exact ⟨fun _ => Or.inr (by omega), fun _ => rfl⟩
    · rw [va_up_ne _ _ e, hdf v hv]
      constructor
      · exact Or.inl
      · rintro (h5 | h5)
        · exact h5
        · exact absurd (by omega) e
theorem def_no {T : Nat → Nat} {n x : Nat} {df : Nat → Bool} (hx : dl T n = x) (hl : x < 100) (hdf : ∀ v, v < 50 → (df v = true ↔ isD T n v)) (h : ¬ dGood T df x) : ¬ dOK T (n + 1) := by
  intro hD
  apply h
  obtain ⟨⟨h1, h2, h3⟩, h4⟩ := hD n (by omega)
  rw [hx] at h1 h2 h3 h4
  refine ⟨h1, h2, by omega, ?_⟩
  cases e : df (x / 2)
  · rfl
  · obtain ⟨m, hm, e2⟩ := (hdf (x / 2) (by omega)).mp e
    exact absurd (by omega) (h4 m hm)
theorem men_ok {T : Nat → Nat} {mt : Nat → Bool} {P P' : Nat → Prop} {x : Nat} (hm : ∀ v, v < 50 → (mt v = true ↔ ∃ y, P y ∧ y / 2 = v)) (hP : ∀ y, P' y ↔ P y ∨ y = x) :
    ∀ v, v < 50 → (va_up mt (x / 2) true v = true ↔ ∃ y, P' y ∧ y / 2 = v) := by
  intro v hv
  by_cases e : v = x / 2
  · subst e
    rw [va_up_self]
    exact ⟨fun _ => ⟨x, (hP x).mpr (Or.inr rfl), rfl⟩, fun _ => rfl⟩
  · rw [va_up_ne _ _ e, hm v hv]
    constructor
    · rintro ⟨y, h1, h2⟩
      exact ⟨y, (hP y).mpr (Or.inl h1), h2⟩
    · rintro ⟨y, h1, h2⟩
      rcases (hP y).mp h1 with h3 | h3
      · exact ⟨y, h3, h2⟩
      · subst h3; exact absurd h2.symm e
theorem nS_0 {T : Nat → Nat} {df mt ig : Nat → Bool} {gl gr iv lv ln : Nat → Nat} {ol : Nat} (h : ∀ v, v < 50 → df v = false ∧ mt v = false ∧ ig v = false) : nS T 0 0 0 0 df mt ig gl gr iv lv ln 0 ol := by
  refine ⟨fun m hm => by omega, fun v hv => ?_, fun v hv => ?_, ?_, fun k hk => by omega, fun k hk => by omega, fun k hk => by omega, fun k hk => by omega, rfl, fun h => by omega, fun v hv => ?_, fun k hk => by omega⟩
  · rw [(h v hv).1]
    exact ⟨fun z => (by cases z), fun ⟨m, hm, _⟩ => by omega⟩
  · rw [(h v hv).2.1]
    refine ⟨fun z => (by cases z), ?_⟩
    rintro ⟨x, (⟨k, hk, _⟩ | ⟨k, hk, _⟩ | ⟨k, hk, _⟩), _⟩ <;> omega
  · rintro x (⟨k, hk, _⟩ | ⟨k, hk, _⟩ | ⟨k, hk, _⟩) <;> omega
  · rw [(h v hv).2.2]
    exact ⟨fun z => (by cases z), fun ⟨m, hm, _⟩ => by omega⟩
section Net
variable {T : Nat → Nat} {df mt ig : Nat → Bool} {gl gr iv lv ln : Nat → Nat} {sa ol n : Nat}
theorem nS_in {k : Nat} (hk : k < hd T 1) (h : nS T k 0 0 0 df mt ig gl gr iv lv ln sa ol) (hg : dGood T df (xin T k)) {iv' : Nat → Nat} (hiv : ∀ j, j < k → j < 3 → iv' j = iv j) (hik : k < 3 → iv' k = xin T k / 2) :
    nS T (k + 1) 0 0 0 (va_up df (xin T k / 2) true) mt ig gl gr iv' lv ln sa ol := by
  obtain ⟨h1, h2, h3, h4, h5, h6, h7, h8⟩ := h
  obtain ⟨a, b⟩ := def_ok (T := T) (n := k) (x := xin T k) (df := df) (dl_in hk) (xin_lt T k) h1 h2 hg
  refine ⟨a, b, h3, h4, h5, h6, fun j hj hj3 => ?_, h8⟩
  rcases Nat.lt_or_ge j k with h9 | h9
  · rw [hiv j h9 hj3]; exact h7 j h9 hj3
  · have : j = k := by omega
    subst this; exact hik hj3
theorem no_in {k : Nat} (hk : k < hd T 1) (h : nS T k 0 0 0 df mt ig gl gr iv lv ln sa ol) (hg : ¬ dGood T df (xin T k)) : ¬ circOK T n := by
  intro hc
  exact def_no (T := T) (n := k) (x := xin T k) (df := df) (dl_in hk) (xin_lt T k) h.2.1 hg (dOK_mono hc.2.1 (by unfold dN; omega))
theorem Mn_la (k no ng y : Nat) : Mn T (k + 1) no ng y ↔ Mn T k no ng y ∨ y = xla T k 1 := by
  constructor
  · rintro (⟨j, hj, e⟩ | h)
    · rcases Nat.lt_or_ge j k with h | h
      · exact Or.inl (Or.inl ⟨j, h, e⟩)
      · have : j = k := by omega
        subst this; exact Or.inr e.symm
    · exact Or.inl (Or.inr h)
  · rintro ((⟨j, hj, e⟩ | h) | e)
    · exact Or.inl ⟨j, by omega, e⟩
    · exact Or.inr h
    · exact Or.inl ⟨k, by omega, e.symm⟩
theorem Mn_ou (nl k ng y : Nat) : Mn T nl (k + 1) ng y ↔ Mn T nl k ng y ∨ y = xou T k := by
  constructor
  · rintro (h | ⟨j, hj, e⟩ | h)
    · exact Or.inl (Or.inl h)
    · rcases Nat.lt_or_ge j k with h | h
      · exact Or.inl (Or.inr (Or.inl ⟨j, h, e⟩))
      · have : j = k := by omega
        subst this; exact Or.inr e.symm
    · exact Or.inl (Or.inr (Or.inr h))
  · rintro ((h | ⟨j, hj, e⟩ | h) | e)
    · exact Or.inl h
    · exact Or.inr (Or.inl ⟨j, by omega, e⟩)
    · exact Or.inr (Or.inr h)
    · exact Or.inr (Or.inl ⟨k, by omega, e.symm⟩)
theorem Mn_ga (nl no k y : Nat) : Mn T nl no (k + 1) y ↔ (Mn T nl no k y ∨ y = xga T k 1) ∨ y = xga T k 2 := by
  constructor
  · rintro (h | h | ⟨j, hj, e⟩)
    · exact Or.inl (Or.inl (Or.inl h))
    · exact Or.inl (Or.inl (Or.inr (Or.inl h)))
    · rcases Nat.lt_or_ge j k with h | h
      · exact Or.inl (Or.inl (Or.inr (Or.inr ⟨j, h, e⟩)))
      · have : j = k := by omega
        subst this
        rcases e with e | e
        · exact Or.inl (Or.inr e.symm)
        · exact Or.inr e.symm
  · rintro (((h | h | ⟨j, hj, e⟩) | e) | e)
    · exact Or.inl h
    · exact Or.inr (Or.inl h)
    · exact Or.inr (Or.inr ⟨j, by omega, e⟩)
    · exact Or.inr (Or.inr ⟨k, by omega, Or.inl e.symm⟩)
    · exact Or.inr (Or.inr ⟨k, by omega, Or.inr e.symm⟩)
theorem nS_la {k : Nat} (hk : k < hd T 2) (h : nS T (hd T 1) k 0 0 df mt ig gl gr iv lv ln sa ol) (hf : xla T k 2 < 2) (hg : dGood T df (xla T k 0)) (hm : xla T k 1 ≤ 2 * hd T 0 + 1)
    {lv' ln' : Nat → Nat} {sa' : Nat} (hlv : ∀ j, j < k → j < 6 → lv' j = lv j ∧ ln' j = ln j) (hlk : k < 6 → lv' k = xla T k 0 / 2 ∧ ln' k = xla T k 1) (hsa : sa' = if k < 6 then sa ||| xla T k 2 * 2 ^ k else sa) :
    nS T (hd T 1) (k + 1) 0 0 (va_up df (xla T k 0 / 2) true) (va_up mt (xla T k 1 / 2) true) ig gl gr iv lv' ln' sa' ol := by
  obtain ⟨h1, h2, h3, h4, h5, h6, h7, h8, h9, h10⟩ := h
  obtain ⟨a, b⟩ := def_ok (T := T) (n := hd T 1 + k) (x := xla T k 0) (df := df) (dl_la hk) (xla_lt T k 0) h1 h2 hg
  refine ⟨a, b, men_ok (T := T) h3 (fun y => Mn_la k 0 0 y), fun y hy => ?_, fun j hj => ?_, h6, h7, fun j hj hj6 => ?_, ?_, h10⟩
  · rcases (Mn_la k 0 0 y).mp hy with h | h
    · exact h4 y h
    · rw [h]; exact hm
  · rcases Nat.lt_or_ge j k with h | h
    · exact h5 j h
    · have : j = k := by omega
      subst this; exact hf
  · rcases Nat.lt_or_ge j k with h | h
    · rw [(hlv j h hj6).1, (hlv j h hj6).2]; exact h8 j h hj6
    · have : j = k := by omega
      subst this; exact hlk hj6
  · rw [hsa]
    by_cases h11 : k < 6
    · rw [if_pos h11, if_pos (show k + 1 ≤ 6 by omega), h9, if_pos (show k ≤ 6 by omega)]
      rfl
    · rw [if_neg h11, if_neg (show ¬ k + 1 ≤ 6 by omega), h9]
      by_cases h12 : k ≤ 6
      · have : k = 6 := by omega
        subst this; rfl
      · rw [if_neg h12]
theorem no_la {k : Nat} (hk : k < hd T 2) (h : nS T (hd T 1) k 0 0 df mt ig gl gr iv lv ln sa ol) (hg : ¬ (xla T k 2 < 2 ∧ dGood T df (xla T k 0) ∧ xla T k 1 ≤ 2 * hd T 0 + 1)) : ¬ circOK T n := by
  intro hc
  apply hg
  refine ⟨hc.2.2.1 k hk, ?_, ?_⟩
  · apply Classical.byContradiction
    intro h9
    exact def_no (T := T) (n := hd T 1 + k) (x := xla T k 0) (df := df) (dl_la hk) (xla_lt T k 0) h.2.1 h9 (dOK_mono hc.2.1 (by unfold dN; omega))
  · rcases hc.2.2.2.2.1 k hk with h1 | h1
    · omega
    · exact h1.1
theorem nS_ou {k : Nat} (h : nS T (hd T 1) (hd T 2) k 0 df mt ig gl gr iv lv ln sa ol) (hm : xou T k ≤ 2 * hd T 0 + 1) :
    nS T (hd T 1) (hd T 2) (k + 1) 0 df (va_up mt (xou T k / 2) true) ig gl gr iv lv ln sa (xou T k) := by
  obtain ⟨h1, h2, h3, h4, h5, h6, h7, h8, h9, h10, h11⟩ := h
  refine ⟨h1, h2, men_ok (T := T) h3 (fun y => Mn_ou _ k 0 y), fun y hy => ?_, h5, h6, h7, h8, h9, fun _ => rfl, h11⟩
  rcases (Mn_ou _ k 0 y).mp hy with h | h
  · exact h4 y h
  · rw [h]; exact hm
theorem no_ou {k : Nat} (hk : k < hd T 3) (hg : ¬ xou T k ≤ 2 * hd T 0 + 1) : ¬ circOK T n := by
  intro hc
  rcases hc.2.2.2.2.2.1 k hk with h1 | h1
  · omega
  · exact hg h1.1
theorem nS_ga {k : Nat} (hk : k < hd T 4) (h : nS T (hd T 1) (hd T 2) (hd T 3) k df mt ig gl gr iv lv ln sa ol) (ho : xga T k 1 < xga T k 0 ∧ xga T k 2 < xga T k 0) (hg : dGood T df (xga T k 0)) (hm1 : xga T k 1 ≤ 2 * hd T 0 + 1) (hm2 : xga T k 2 ≤ 2 * hd T 0 + 1) :
    nS T (hd T 1) (hd T 2) (hd T 3) (k + 1) (va_up df (xga T k 0 / 2) true) (va_up (va_up mt (xga T k 1 / 2) true) (xga T k 2 / 2) true) (va_up ig (xga T k 0 / 2) true) (va_up gl (xga T k 0 / 2) (xga T k 1)) (va_up gr (xga T k 0 / 2) (xga T k 2)) iv lv ln sa ol := by
  obtain ⟨h1, h2, h3, h4, h5, h6, h7, h8, h9, h10, h11, h12⟩ := h
  obtain ⟨a, b⟩ := def_ok (T := T) (n := hd T 1 + hd T 2 + k) (x := xga T k 0) (df := df) (dl_ga hk) (xga_lt T k 0) h1 h2 hg
  have hl := xga_lt T k 0
  have hne : ∀ j, j < k → xga T j 0 / 2 ≠ xga T k 0 / 2 := fun j hj e => by
    have h13 := dl_half (T := T) a (a := hd T 1 + hd T 2 + j) (b := hd T 1 + hd T 2 + k) (by omega) (by omega) (by rw [dl_ga (by omega), dl_ga hk]; exact e)
    omega
  refine ⟨a, b, men_ok (T := T) (men_ok (T := T) h3 (fun y => Iff.rfl)) (fun y => Mn_ga _ _ k y), fun y hy => ?_, h5, fun j hj => ?_, h7, h8, h9, h10, fun v hv => ?_, fun j hj => ?_⟩
  · rcases (Mn_ga _ _ k y).mp hy with (h | h) | h
    · exact h4 y h
    · rw [h]; exact hm1
    · rw [h]; exact hm2
  · rcases Nat.lt_or_ge j k with h | h
    · exact h6 j h
    · have : j = k := by omega
      subst this; exact ho
  · obtain ⟨g1, g2, -, -⟩ := hg
    by_cases e : v = xga T k 0 / 2
    · subst e
      rw [va_up_self]
      exact ⟨fun _ => ⟨k, by omega, by omega⟩, fun _ => rfl⟩
    · rw [va_up_ne _ _ e, h11 v hv]
      constructor
      · rintro ⟨j, hj, e2⟩
        exact ⟨j, by omega, e2⟩
      · rintro ⟨j, hj, e2⟩
        rcases Nat.lt_or_ge j k with h | h
        · exact ⟨j, h, e2⟩
        · have : j = k := by omega
          subst this; exact absurd (by omega) e
  · rcases Nat.lt_or_ge j k with h | h
    · rw [va_up_ne _ _ (hne j h), va_up_ne _ _ (hne j h)]; exact h12 j h
    · have : j = k := by omega
      subst this; rw [va_up_self, va_up_self]; exact ⟨rfl, rfl⟩
theorem no_ga {k : Nat} (hk : k < hd T 4) (h : nS T (hd T 1) (hd T 2) (hd T 3) k df mt ig gl gr iv lv ln sa ol) (hg : ¬ ((xga T k 1 < xga T k 0 ∧ xga T k 2 < xga T k 0) ∧ dGood T df (xga T k 0) ∧ xga T k 1 ≤ 2 * hd T 0 + 1 ∧ xga T k 2 ≤ 2 * hd T 0 + 1)) : ¬ circOK T n := by
  intro hc
  apply hg
  have hm := hc.2.2.2.2.2.2 k hk
  refine ⟨hc.2.2.2.1 k hk, ?_, ?_, ?_⟩
  · apply Classical.byContradiction
    intro h9
    exact def_no (T := T) (n := hd T 1 + hd T 2 + k) (x := xga T k 0) (df := df) (dl_ga hk) (xga_lt T k 0) h.2.1 h9 (dOK_mono hc.2.1 (by unfold dN; omega))
  · rcases hm.1 with h1 | h1
    · omega
    · exact h1.1
  · rcases hm.2 with h1 | h1
    · omega
    · exact h1.1
/-- at the end: all that is named is defined -/
theorem nS_end (hl : linesOK T n) (h : nS T (hd T 1) (hd T 2) (hd T 3) (hd T 4) df mt ig gl gr iv lv ln sa ol) (ha : ∀ v, 1 ≤ v → v < 50 → mt v = true → df v = true) : circOK T n := by
  obtain ⟨h1, h2, h3, h4, h5, h6, h7⟩ := h
  have key : ∀ x, x < 100 → Mn T (hd T 2) (hd T 3) (hd T 4) x → mOK T x := by
    intro x hx hm
    rcases Nat.lt_or_ge x 2 with h | h
    · exact Or.inl h
    · exact Or.inr ⟨h4 x hm, (h2 (x / 2) (by omega)).mp (ha (x / 2) (by omega) (by omega) ((h3 (x / 2) (by omega)).mpr ⟨x, hm, rfl⟩))⟩
  exact ⟨hl, h1, h5, h6, fun k hk => key _ (xla_lt T k 1) (Or.inl ⟨k, hk, rfl⟩), fun k hk => key _ (xou_lt T k) (Or.inr (Or.inl ⟨k, hk, rfl⟩)), fun k hk => ⟨key _ (xga_lt T k 1) (Or.inr (Or.inr ⟨k, hk, Or.inl rfl⟩)), key _ (xga_lt T k 2) (Or.inr (Or.inr ⟨k, hk, Or.inr rfl⟩))⟩⟩
theorem no_end (h : nS T (hd T 1) (hd T 2) (hd T 3) (hd T 4) df mt ig gl gr iv lv ln sa ol) {v : Nat} (hv : 1 ≤ v) (hv2 : v < 50) (hm : mt v = true) (hd0 : df v = false) : ¬ circOK T n := by
  intro hc
  obtain ⟨x, hx, e⟩ := (h.2.2.1 v hv2).mp hm
  have hmo : mOK T x := by
    rcases hx with ⟨k, hk, e⟩ | ⟨k, hk, e⟩ | ⟨k, hk, e⟩
    · rw [← e]; exact hc.2.2.2.2.1 k hk
    · rw [← e]; exact hc.2.2.2.2.2.1 k hk
    · rcases e with e | e
      · rw [← e]; exact (hc.2.2.2.2.2.2 k hk).1
      · rw [← e]; exact (hc.2.2.2.2.2.2 k hk).2
  rcases hmo with h1 | h1
  · omega
  · have h2 := (h.2.1 v hv2).mpr (by rw [← e]; exact h1.2)
    rw [hd0] at h2
    cases h2
end Net
