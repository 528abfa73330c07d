/-! values of the variables: state by state, and all states at once -/
theorem it_key {α : Type} {key : Nat → Nat} {val : Nat → α} {n : Nat} (hd : ∀ a b, a < n → b < n → key a = key b → a = b) (v : Nat → α) {j : Nat} (hj : j < n) :
    it (fun k v => va_up v (key k) (val k)) n v (key j) = val j := by
  induction n with
  | zero => omega
  | succ n ih =>
    rw [it_s]
    by_cases e : j = n
    · subst e; exact va_up_self _ _ _
    · have hne : key j ≠ key n := fun h => e (hd j n (by omega) (by omega) h)
      rw [va_up_ne _ _ hne]
      exact ih (fun a b ha hb => hd a b (by omega) (by omega)) (by omega)
theorem it_off {α : Type} {key : Nat → Nat} {val : Nat → α} {n : Nat} (v : Nat → α) {x : Nat} (hx : ∀ k, k < n → key k ≠ x) :
    it (fun k v => va_up v (key k) (val k)) n v x = v x := by
  induction n with
  | zero => rfl
  | succ n ih =>
    rw [it_s, va_up_ne _ _ (fun h => hx n (by omega) h.symm)]
    exact ih (fun k hk => hx k (by omega))
def litV (v : Nat → Bool) (x : Nat) : Bool := (decide (2 ≤ x) && v (x / 2)) != decide (x % 2 = 1)
def swC (o : Nat → Int64) (x : Nat) : Int64 := o (x / 2) ^^^ (if x % 2 = 1 then -1 else 0)
theorem lb_sw (o : Nat → Int64) (x : Nat) {s : Nat} (hs : s < 64) : lb (swC o x) s = (lb (o (x / 2)) s ^^ decide (x % 2 = 1)) := by
  unfold swC
  rw [lb_xor]
  by_cases h : x % 2 = 1
  · rw [if_pos h, lb_m1 s hs, decide_eq_true h]
  · rw [if_neg h, lb_0, decide_eq_false h]
/-- the reference's values, gate by gate -/
def gsM (T : Nat → Nat) (w : Nat) (v : Nat → Bool) : Nat → Bool :=
  it (fun k v => if xga T k 0 = 2 * (w + 1) then va_up v (w + 1) (litV v (xga T k 1) && litV v (xga T k 2)) else v) (hd T 4) v
def bsM (T : Nat → Nat) (v : Nat → Bool) (s i : Nat) : Nat → Bool :=
  it (fun k v => va_up v (xla T k 0 / 2) (s.testBit k)) (hd T 2) (it (fun k v => va_up v (xin T k / 2) (i.testBit k)) (hd T 1) v)
def evM (T : Nat → Nat) (v : Nat → Bool) (s i : Nat) : Nat → Bool := it (gsM T) (hd T 0) (bsM T v s i)
/-- the class's values: iv, lv: the variables of inputs and latches; ig, gl, gr: gates by variable -/
def gsC (ig : Nat → Bool) (gl gr : Nat → Nat) (w : Nat) (o : Nat → Int64) : Nat → Int64 :=
  if ig (w + 1) = true then va_up o (w + 1) (swC o (gl (w + 1)) &&& swC o (gr (w + 1))) else o
def bsC (T : Nat → Nat) (iv lv : Nat → Nat) (o : Nat → Int64) (i : Nat) : Nat → Int64 :=
  it (fun k o => va_up o (lv k) (L1 k)) (hd T 2) (it (fun k o => va_up o (iv k) (if i.testBit k = true then -1 else 0)) (hd T 1) (va_up o 0 0))
def evC (T : Nat → Nat) (iv lv : Nat → Nat) (ig : Nat → Bool) (gl gr : Nat → Nat) (o : Nat → Int64) (i : Nat) : Nat → Int64 := it (gsC ig gl gr) 49 (bsC T iv lv o i)
/-- what the class keeps of a circuit's lines -/
def netOK (T : Nat → Nat) (iv lv ln : Nat → Nat) (ig : Nat → Bool) (gl gr : Nat → Nat) : Prop :=
  (∀ k, k < hd T 1 → iv k = xin T k / 2) ∧ (∀ k, k < hd T 2 → lv k = xla T k 0 / 2 ∧ ln k = xla T k 1)
  ∧ (∀ v, v < 50 → (ig v = true ↔ ∃ k, k < hd T 4 ∧ xga T k 0 = 2 * v)) ∧ ∀ k, k < hd T 4 → gl (xga T k 0 / 2) = xga T k 1 ∧ gr (xga T k 0 / 2) = xga T k 2
section Ev
variable {T : Nat → Nat} {n : Nat}
theorem dl_in {k : Nat} (h : k < hd T 1) : dl T k = xin T k := by unfold dl; rw [if_pos h]
theorem dl_la {k : Nat} (h : k < hd T 2) : dl T (hd T 1 + k) = xla T k 0 := by
  unfold dl
  rw [if_neg (by omega), if_pos (by omega)]
  congr 1; omega
theorem dl_ga {k : Nat} (h : k < hd T 4) : dl T (hd T 1 + hd T 2 + k) = xga T k 0 := by
  unfold dl
  rw [if_neg (by omega), if_neg (by omega)]
  congr 1; omega
theorem dl_inj {m : Nat} (h : dOK T m) {a b : Nat} (ha : a < m) (hb : b < m) (e : dl T a = dl T b) : a = b := by
  rcases Nat.lt_trichotomy a b with h1 | h1 | h1
  · exact absurd e ((h b hb).2 a h1)
  · exact h1
  · exact absurd e.symm ((h a ha).2 b h1)
theorem dl_half {m : Nat} (h : dOK T m) {a b : Nat} (ha : a < m) (hb : b < m) (e : dl T a / 2 = dl T b / 2) : a = b := by
  have h1 := (h a ha).1
  have h2 := (h b hb).1
  unfold dfn at h1 h2
  exact dl_inj h ha hb (by omega)
/-- a variable of an input, a latch or a gate -/
theorem isD_of {v : Nat} (h : isD T (dN T) v) : (∃ k, k < hd T 1 ∧ xin T k = 2 * v) ∨ (∃ k, k < hd T 2 ∧ xla T k 0 = 2 * v) ∨ ∃ k, k < hd T 4 ∧ xga T k 0 = 2 * v := by
  obtain ⟨m, hm, e⟩ := h
  unfold dN at hm
  rcases Nat.lt_or_ge m (hd T 1) with h1 | h1
  · exact Or.inl ⟨m, h1, by rw [← dl_in h1]; exact e⟩
  · rcases Nat.lt_or_ge m (hd T 1 + hd T 2) with h2 | h2
    · right; left
      refine ⟨m - hd T 1, by omega, ?_⟩
      rw [← dl_la (k := m - hd T 1) (by omega), show hd T 1 + (m - hd T 1) = m by omega]
      exact e
    · right; right
      refine ⟨m - hd T 1 - hd T 2, by omega, ?_⟩
      rw [← dl_ga (k := m - hd T 1 - hd T 2) (by omega), show hd T 1 + hd T 2 + (m - hd T 1 - hd T 2) = m by omega]
      exact e
theorem ga_inj (h : dOK T (dN T)) {a b : Nat} (ha : a < hd T 4) (hb : b < hd T 4) (e : xga T a 0 = xga T b 0) : a = b := by
  have := dl_inj h (a := hd T 1 + hd T 2 + a) (b := hd T 1 + hd T 2 + b) (by unfold dN; omega) (by unfold dN; omega) (by rw [dl_ga ha, dl_ga hb]; exact e)
  omega
theorem gsM_none {w : Nat} (h : ∀ k, k < hd T 4 → xga T k 0 ≠ 2 * (w + 1)) (v : Nat → Bool) : gsM T w v = v := by
  unfold gsM
  generalize hd T 4 = A at h
  induction A with
  | zero => rfl
  | succ A ih => rw [it_s, if_neg (h A (by omega))]; exact ih (fun k hk => h k (by omega))
theorem gsM_one (hd0 : dOK T (dN T)) {w k : Nat} (hk : k < hd T 4) (e : xga T k 0 = 2 * (w + 1)) (v : Nat → Bool) : gsM T w v = va_up v (w + 1) (litV v (xga T k 1) && litV v (xga T k 2)) := by
  have hu : ∀ a, a < hd T 4 → a ≠ k → xga T a 0 ≠ 2 * (w + 1) := fun a ha hne h => hne (ga_inj hd0 ha hk (by rw [h, e]))
  unfold gsM
  generalize hd T 4 = A at hk hu
  induction A with
  | zero => omega
  | succ A ih =>
    rw [it_s]
    by_cases h : A = k
    · subst h
      have h0 : it (fun k v => if xga T k 0 = 2 * (w + 1) then va_up v (w + 1) (litV v (xga T k 1) && litV v (xga T k 2)) else v) A v = v := by
        clear ih
        have hu2 : ∀ a, a < A → xga T a 0 ≠ 2 * (w + 1) := fun a ha => hu a (by omega) (by omega)
        clear hu e hk
        induction A with
        | zero => rfl
        | succ A ih => rw [it_s, if_neg (hu2 A (by omega))]; exact ih (fun a ha => hu2 a (by omega))
      rw [if_pos e, h0]
    · rw [if_neg (hu A (by omega) h)]
      exact ih (by omega) (fun a ha => hu a (by omega))
/-- both give each variable that is defined the same value -/
def agr (T : Nat → Nat) (w s : Nat) (o : Nat → Int64) (v : Nat → Bool) : Prop := o 0 = 0 ∧ ∀ x, isD T (dN T) x → (x ≤ w ∨ ¬ ∃ k, k < hd T 4 ∧ xga T k 0 = 2 * x) → lb (o x) s = v x
theorem lit_agr {w s : Nat} (hs : s < 64) {o : Nat → Int64} {v : Nat → Bool} (h : agr T w s o v) {x : Nat} (hx : mOK T x) (hw : x / 2 ≤ w) : lb (swC o x) s = litV v x := by
  rw [lb_sw _ _ hs]
  unfold litV
  rcases Nat.lt_or_ge x 2 with h1 | h1
  · have e : x / 2 = 0 := by omega
    rw [e, h.1, lb_0, decide_eq_false (show ¬ 2 ≤ x by omega), Bool.false_and]
  · rcases hx with hx | hx
    · omega
    · rw [h.2 _ hx.2 (Or.inl hw), decide_eq_true h1, Bool.true_and]
theorem base_agr (hc : circOK T n) (hL : hd T 2 ≤ 6) {iv lv ln : Nat → Nat} {ig : Nat → Bool} {gl gr : Nat → Nat} (hn : netOK T iv lv ln ig gl gr) {s : Nat} (hs : s < 64) (i : Nat) (o : Nat → Int64) (v : Nat → Bool) :
    agr T 0 s (bsC T iv lv o i) (bsM T v s i) := by
  obtain ⟨-, hD, -⟩ := hc
  obtain ⟨n1, n2, -, -⟩ := hn
  have hN : dN T = hd T 1 + hd T 2 + hd T 4 := rfl
  have kin : ∀ a b, a < hd T 1 → b < hd T 1 → iv a = iv b → a = b := fun a b ha hb e => by
    rw [n1 a ha, n1 b hb, ← dl_in ha, ← dl_in hb] at e
    exact dl_half hD (by omega) (by omega) e
  have kla : ∀ a b, a < hd T 2 → b < hd T 2 → lv a = lv b → a = b := fun a b ha hb e => by
    rw [(n2 a ha).1, (n2 b hb).1, ← dl_la ha, ← dl_la hb] at e
    have := dl_half hD (by omega) (by omega) e
    omega
  have kil : ∀ a b, a < hd T 1 → b < hd T 2 → lv b ≠ iv a := fun a b ha hb e => by
    rw [n1 a ha, (n2 b hb).1, ← dl_in ha, ← dl_la hb] at e
    have := dl_half hD (by omega) (by omega) e
    omega
  have pin : ∀ a, a < hd T 1 → iv a ≠ 0 := fun a ha => by
    have := (hD a (by omega)).1
    rw [dl_in ha] at this
    unfold dfn at this
    rw [n1 a ha]; omega
  have pla : ∀ a, a < hd T 2 → lv a ≠ 0 := fun a ha => by
    have := (hD (hd T 1 + a) (by omega)).1
    rw [dl_la ha] at this
    unfold dfn at this
    rw [(n2 a ha).1]; omega
  have mI : ∀ v : Nat → Bool, it (fun k v => va_up v (xin T k / 2) (i.testBit k)) (hd T 1) v = it (fun k v => va_up v (iv k) (i.testBit k)) (hd T 1) v := fun v => it_congr (fun k hk a => by rw [n1 k hk]) v
  have mL : ∀ v : Nat → Bool, it (fun k v => va_up v (xla T k 0 / 2) (s.testBit k)) (hd T 2) v = it (fun k v => va_up v (lv k) (s.testBit k)) (hd T 2) v := fun v => it_congr (fun k hk a => by rw [(n2 k hk).1]) v
  unfold bsC bsM
  rw [mI, mL]
  refine ⟨?_, ?_⟩
  · rw [it_off _ (fun k hk => pla k hk), it_off _ (fun k hk => pin k hk), va_up_self]
  · intro x hx hg
    rcases isD_of hx with ⟨k, hk, e⟩ | ⟨k, hk, e⟩ | ⟨k, hk, e⟩
    · have ex : x = iv k := by rw [n1 k hk, e]; omega
      subst ex
      rw [it_off _ (fun b hb => kil k b hk hb), it_off _ (fun b hb => kil k b hk hb), it_key kin _ hk, it_key kin _ hk]
      cases i.testBit k
      · rw [if_neg (by decide), lb_0]
      · rw [if_pos rfl, lb_m1 s hs]
    · have ex : x = lv k := by rw [(n2 k hk).1, e]; omega
      subst ex
      rw [it_key kla _ hk, it_key kla _ hk, lb_L1 k (by omega) s hs]
    · rcases hg with hg | hg
      · have h0 : x = 0 := by omega
        have := (hD (hd T 1 + hd T 2 + k) (by omega)).1
        rw [dl_ga hk] at this
        unfold dfn at this
        omega
      · exact absurd ⟨k, hk, e⟩ hg
theorem ev_agr (hc : circOK T n) (hL : hd T 2 ≤ 6) {iv lv ln : Nat → Nat} {ig : Nat → Bool} {gl gr : Nat → Nat} (hn : netOK T iv lv ln ig gl gr) {s : Nat} (hs : s < 64) (i : Nat) (o : Nat → Int64) (v : Nat → Bool) :
    ∀ x, mOK T x → lb (swC (evC T iv lv ig gl gr o i) x) s = litV (evM T v s i) x := by
  have hD : dOK T (dN T) := hc.2.1
  have hg : ∀ k, k < hd T 4 → xga T k 1 < xga T k 0 ∧ xga T k 2 < xga T k 0 := hc.2.2.2.1
  have hm : ∀ k, k < hd T 4 → mOK T (xga T k 1) ∧ mOK T (xga T k 2) := hc.2.2.2.2.2.2
  have key : ∀ w, w ≤ 49 → agr T w s (it (gsC ig gl gr) w (bsC T iv lv o i)) (it (gsM T) w (bsM T v s i)) := by
    intro w
    induction w with
    | zero => intro _; exact base_agr hc hL hn hs i o v
    | succ w ih =>
      intro hw
      have h := ih (by omega)
      rw [it_s, it_s]
      generalize it (gsC ig gl gr) w (bsC T iv lv o i) = o' at h ⊢
      generalize it (gsM T) w (bsM T v s i) = v' at h ⊢
      obtain ⟨-, -, n3, n4⟩ := hn
      by_cases hgt : ∃ k, k < hd T 4 ∧ xga T k 0 = 2 * (w + 1)
      · obtain ⟨k, hk, e⟩ := hgt
        have e2 : xga T k 0 / 2 = w + 1 := by omega
        have hgk := hg k hk
        rw [gsM_one hD hk e]
        unfold gsC
        rw [if_pos ((n3 (w + 1) (by omega)).mpr ⟨k, hk, e⟩)]
        have n4k := n4 k hk
        rw [e2] at n4k
        rw [n4k.1, n4k.2]
        refine ⟨by rw [va_up_ne _ _ (by omega)]; exact h.1, ?_⟩
        intro x hx hxw
        by_cases hxe : x = w + 1
        · subst hxe
          rw [va_up_self, va_up_self, lb_and, lit_agr hs h (hm k hk).1 (by omega), lit_agr hs h (hm k hk).2 (by omega)]
        · rw [va_up_ne _ _ hxe, va_up_ne _ _ hxe]
          refine h.2 x hx ?_
          rcases hxw with h1 | h1
          · exact Or.inl (by omega)
          · exact Or.inr h1
      · have hno : ∀ k, k < hd T 4 → xga T k 0 ≠ 2 * (w + 1) := fun k hk e => hgt ⟨k, hk, e⟩
        rw [gsM_none hno]
        unfold gsC
        rw [if_neg (fun h1 => hgt ((n3 (w + 1) (by omega)).mp h1))]
        refine ⟨h.1, fun x hx hxw => h.2 x hx ?_⟩
        rcases hxw with h1 | h1
        · by_cases hxe : x = w + 1
          · right; rw [hxe]; exact hgt
          · exact Or.inl (by omega)
        · exact Or.inr h1
  have hno : ∀ w, 49 ≤ w → ∀ k, k < hd T 4 → xga T k 0 ≠ 2 * (w + 1) := fun w hw k hk e => by have := xga_lt T k 0; omega
  have hup : ∀ w, 49 ≤ w → it (gsM T) w (bsM T v s i) = it (gsM T) 49 (bsM T v s i) := by
    intro w
    induction w with
    | zero => intro h; omega
    | succ w ih =>
      intro hw
      rcases Nat.lt_or_ge 48 w with h1 | h1
      · rw [it_s, gsM_none (hno w (by omega)), ih (by omega)]
      · have : w = 48 := by omega
        subst this; rfl
  have hlo : ∀ w, hd T 0 ≤ w → it (gsM T) w (bsM T v s i) = it (gsM T) (hd T 0) (bsM T v s i) := by
    intro w
    induction w with
    | zero => intro h; have : hd T 0 = 0 := by omega
              rw [this]
    | succ w ih =>
      intro hw
      rcases Nat.lt_or_ge w (hd T 0) with h1 | h1
      · have : hd T 0 = w + 1 := by omega
        rw [this]
      · rw [it_s, gsM_none (fun k hk e => by
          have := (hD (hd T 1 + hd T 2 + k) (by unfold dN; omega)).1
          rw [dl_ga hk] at this
          unfold dfn at this
          omega), ih h1]
  have hall : it (gsM T) (hd T 0) (bsM T v s i) = it (gsM T) 49 (bsM T v s i) := by
    rcases Nat.lt_or_ge 49 (hd T 0) with h1 | h1
    · exact hup _ (by omega)
    · exact (hlo 49 h1).symm
  intro x hx
  have h := key 49 (Nat.le_refl _)
  unfold evC evM
  rw [hall]
  refine lit_agr hs h hx ?_
  rcases hx with hx | hx
  · omega
  · obtain ⟨m, hm1, e⟩ := hx.2
    have h1 : dl T m < 100 := by
      unfold dl
      by_cases q1 : m < hd T 1
      · rw [if_pos q1]; exact xin_lt _ _
      · rw [if_neg q1]
        by_cases q2 : m < hd T 1 + hd T 2
        · rw [if_pos q2]; exact xla_lt _ _ _
        · rw [if_neg q2]; exact xga_lt _ _ _
    omega
end Ev
