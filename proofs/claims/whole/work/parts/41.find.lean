theorem find_cl {S D : Nat} {nx : Nat → Nat → Nat} {kb : Int64} (hS : S ≤ 64) (hn : ∀ s i, s < S → i < D → nx s i < 64) : ∀ r, (r &&& nF S D nx kb 63) = 0 → (postOf S D nx r &&& nF S D nx kb 63) = 0 := by
  intro r h
  rw [eq0]
  intro t ht
  rw [lb_and]
  cases e : lb (postOf S D nx r) t
  · rfl
  · rw [post_iff hn ht] at e
    obtain ⟨s, hs, h1, i, hi, e2⟩ := e
    cases e3 : lb (nF S D nx kb 63) t
    · rfl
    · have h4 : lb (nF S D nx kb 63) s = true := by
        unfold nF
        apply gr_closed
        · exact gr_63 (pre_0 hS) (by omega)
        · rw [pre_iff hS (by omega)]
          refine ⟨hs, i, hi, ?_⟩
          rw [e2]; exact e3
      have h5 := and_c h (by omega) h1
      rw [h4] at h5
      cases h5
theorem find_s0 {x : Int64} {st : Nat} (hst : st < 64) (h : lb x st = false) : (sg st &&& x) = 0 := by
  rw [eq0]
  intro t ht
  rw [lb_and, lb_sg hst ht]
  by_cases e : t = st
  · subst e; rw [h, Bool.and_false]
  · rw [decide_eq_false e, Bool.false_and]
theorem find_all {Nf na : Nat → Int64} {m st : Nat} (h1 : 1 ≤ m) (hna : ∀ j, j < m → na j = Nf j) (hst : ∀ j, m - 1 ≤ j → Nf j = Nf (m - 1)) (h : ∀ j, j < m → lb (na j) st = false) : ∀ j, lb (Nf j) st = false := by
  intro j
  rcases Nat.lt_or_ge j m with h2 | h2
  · rw [← hna j h2]; exact h j h2
  · rw [hst j (by omega), ← hna (m - 1) (by omega)]; exact h (m - 1) (by omega)
def cntP (P : Nat → Bool) : Nat → Nat
  | 0 => 0
  | n + 1 => cntP P n + if P n = true then 1 else 0
theorem cntP_le (P : Nat → Bool) (n : Nat) : cntP P n ≤ n := by
  induction n with
  | zero => exact Nat.le_refl _
  | succ n ih => rw [cntP]; split <;> omega
def fz (x z : Int64) (a : Nat) : Int64 := su x a &&& z
def frB (x z : Int64) (j a : Nat) : Bool := decide (su (fz x z a &&& L1 j) (2 ^ j) ≠ (fz x z a &&& (L1 j ^^^ (-1)))) && !anyN (fun b => decide (fz x z b = fz x z a)) a
theorem frB_iff {x z : Int64} {j a : Nat} : frB x z j a = true ↔ hangC (fz x z a) j ∧ ∀ b, b < a → fz x z b ≠ fz x z a := by
  unfold frB hangC
  rw [Bool.and_eq_true, decide_eq_true_eq, Bool.not_eq_true']
  refine and_congr Iff.rfl ?_
  constructor
  · intro h b hb e
    rw [anyN_iff.mpr ⟨b, hb, by simp [e]⟩] at h
    cases h
  · intro h
    cases e : anyN (fun b => decide (fz x z b = fz x z a)) a
    · rfl
    · obtain ⟨b, hb, h2⟩ := anyN_iff.mp e
      exact absurd (by simpa using h2) (h b hb)
/-- what has been seen below a -/
def seenOK (x z : Int64) (j : Nat) (se : Nat → Int64) (f a : Nat) : Prop := (∀ k, k < f → ∃ b, b < a ∧ hangC (fz x z b) j ∧ se k = fz x z b) ∧ ∀ b, b < a → hangC (fz x z b) j → ∃ k, k < f ∧ se k = fz x z b
theorem seen_0 {x z : Int64} {j : Nat} {se : Nat → Int64} : seenOK x z j se 0 0 := ⟨fun k h => absurd h (Nat.not_lt_zero k), fun b h => absurd h (Nat.not_lt_zero b)⟩
theorem seen_no {x z : Int64} {j : Nat} {se : Nat → Int64} {f a : Nat} (h : seenOK x z j se f a) (hn : hangC (fz x z a) j → ∃ k, k < f ∧ se k = fz x z a) : seenOK x z j se f (a + 1) := by
  refine ⟨fun k hk => ?_, fun b hb hh => ?_⟩
  · obtain ⟨b, h1, h2, h3⟩ := h.1 k hk
    exact ⟨b, by omega, h2, h3⟩
  · rcases Nat.lt_or_ge b a with h1 | h1
    · exact h.2 b h1 hh
    · have : b = a := by omega
      subst this; exact hn hh
theorem seen_new {x z : Int64} {j : Nat} {se : Nat → Int64} {f a : Nat} (h : seenOK x z j se f a) (hh : hangC (fz x z a) j) : seenOK x z j (va_up se f (fz x z a)) (f + 1) (a + 1) := by
  refine ⟨fun k hk => ?_, fun b hb hb2 => ?_⟩
  · by_cases e : k = f
    · subst e; rw [va_up_self]; exact ⟨a, by omega, hh, rfl⟩
    · rw [va_up_ne _ _ e]
      obtain ⟨b, h1, h2, h3⟩ := h.1 k (by omega)
      exact ⟨b, by omega, h2, h3⟩
  · rcases Nat.lt_or_ge b a with h1 | h1
    · obtain ⟨k, h2, h3⟩ := h.2 b h1 hb2
      exact ⟨k, by omega, by rw [va_up_ne _ _ (by omega)]; exact h3⟩
    · have : b = a := by omega
      subst this
      exact ⟨f, by omega, va_up_self _ _ _⟩
theorem fr_no {x z : Int64} {j a : Nat} (h : ¬ hangC (fz x z a) j) : ¬ frB x z j a = true := fun e => h (frB_iff.mp e).1
theorem fr_seen {x z : Int64} {j : Nat} {se : Nat → Int64} {f a k : Nat} (h : seenOK x z j se f a) (hk : k < f) (e : se k = fz x z a) : ¬ frB x z j a = true := fun e2 => by
  obtain ⟨b, h1, h2, h3⟩ := h.1 k hk
  exact (frB_iff.mp e2).2 b h1 (by rw [← h3, e])
theorem fr_yes {x z : Int64} {j : Nat} {se : Nat → Int64} {f a : Nat} (h : seenOK x z j se f a) (hh : hangC (fz x z a) j) (hn : ∀ k, k < f → ¬ se k = fz x z a) : frB x z j a = true := frB_iff.mpr ⟨hh, fun b hb e => by
  obtain ⟨k, h1, h2⟩ := h.2 b hb (by rw [e]; exact hh)
  exact hn k h1 (by rw [h2, e])⟩
theorem p32_le {j : Nat} (h : j < 6) : 2 ^ j ≤ 32 := by
  have : 2 ^ j ≤ 2 ^ 5 := Nat.pow_le_pow_right (by decide) (by omega)
  omega
set_option maxRecDepth 100000 in
set_option maxHeartbeats 4000000 in
theorem k_A_find (l : Launch) (G : GG) (sz : Nat) (qa : Nat) (r1 : Nat) (r2 : Nat) (ns : Nat) (re : Int64) (sp : Int32) (lr : Nat) (rt : Nat) (vi : Int64) (na : Nat → Int64) (wy : Nat → Nat) (qk : Nat) (k1 : Nat) (k2 : Nat) (k3 : Nat) (k4 : Nat) (la : Nat) (ss : Nat) (ii : Nat) (ks : Nat) (kb : Int64) (kn : Nat → Int64) (ko : Nat → Int64) (ka : Nat → Int64) (nx : Nat → Nat → Nat) (hz : ss ≤ 64) (hka : ∀ sx, sx < ss → ka sx = aftOf ii nx sx) (hn6 : ∀ sx i, sx < ss → i < ii → nx sx i < 64) (hla : la ≤ 6) (hii : 1 ≤ ii ∧ ii ≤ 8) (hks : ks < 64) : Kv l yA_find cA_find 2 4 93 0 0 G [.ref qa, .ref qk] [(qa, .inr (0, [.ref r1, .int (nI ns), .long re, .int sp, .ref r2, .int (nI lr), .int (nI rt), .long vi])), (r1, aJ G 64 na), (r2, aI G 64 wy), (qk, .inr (2, [.ref k1, .int (nI la), .int (nI ss), .int (nI ii), .int (nI ks), .ref k2, .ref k3, .ref k4, .long kb])), (k2, aJ G 48 kn), (k3, aJ G 8 ko), (k4, aJ G 64 ka)] sz (fun (u : Nat × Int64 × Int32 × Nat × Nat × Int64 × (Nat → Int64) × (Nat → Nat)) => (∃ (n9 : Nat → Int64), ∃ (m9 : Nat), ∃ (d : Nat), ∃ (w9 : Nat → Nat), (1 ≤ m9 ∧ m9 ≤ 64) ∧ (∀ j, j < m9 → n9 j = nF ss ii nx kb j) ∧ (∀ j, m9 - 1 ≤ j → nF ss ii nx kb j = nF ss ii nx kb (m9 - 1)) ∧ (d < m9 ∧ lb (nF ss ii nx kb d) ks = true) ∧ (∀ j, j < d → lb (nF ss ii nx kb j) ks = false) ∧ (∀ k, k < d → w9 k = win (nxC kn la) (nF ss ii nx kb) ii d ks k) ∧ w9 d = lst (fun i => lb (ko i) (wst (nxC kn la) (nF ss ii nx kb) ii d ks d)) (ii - 1) ∧ (m9, gr (postOf ss ii nx) 64 (sg ks), nI d, lr, rt, vi, n9, w9) = u) ∨ (∃ (n9 : Nat → Int64), ∃ (m9 : Nat), (1 ≤ m9 ∧ m9 ≤ 64) ∧ (∀ j, j < m9 → n9 j = nF ss ii nx kb j) ∧ (∀ j, m9 - 1 ≤ j → nF ss ii nx kb j = nF ss ii nx kb (m9 - 1)) ∧ (∀ j, lb (nF ss ii nx kb j) ks = false) ∧ (m9, gr (postOf ss ii nx) 64 (sg ks), (-1), (prf (postOf ss ii nx) (nrF (nF ss ii nx kb)) wid la (sg ks) 4159 1 (sg ks) 0).1, (prf (postOf ss ii nx) (nrF (nF ss ii nx kb)) wid la (sg ks) 4159 1 (sg ks) 0).2.2, (prf (postOf ss ii nx) (nrF (nF ss ii nx kb)) wid la (sg ks) 4159 1 (sg ks) 0).2.1, n9, wy) = u)) (fun (u : Nat × Int64 × Int32 × Nat × Nat × Int64 × (Nat → Int64) × (Nat → Nat)) => [(qa, .inr (0, [.ref r1, .int (nI u.1), .long u.2.1, .int u.2.2.1, .ref r2, .int (nI u.2.2.2.1), .int (nI u.2.2.2.2.1), .long u.2.2.2.2.2.1])), (r1, aJ G 64 u.2.2.2.2.2.2.1), (r2, aI G 64 u.2.2.2.2.2.2.2), (qk, .inr (2, [.ref k1, .int (nI la), .int (nI ss), .int (nI ii), .int (nI ks), .ref k2, .ref k3, .ref k4, .long kb])), (k2, aJ G 48 kn), (k3, aJ G 8 ko), (k4, aJ G 64 ka)]) := by
  refine Met.ofW (cc := cA_find) (maxL := 2) (ret := none) (by decide) rfl ?_
  intro p e s m args below meth c s₁ B hml hv
  obtain ⟨hav, hsz, hP, hK, hD0, hE⟩ := hv
  have hx := B.exec
  have hb := B.bytes
  have hr := B.returns
  have htb : ∀ w ∈ TB, w.before args s = true := fun w h => atoms_spec (ws := Cond.code yA_find cA_find 2 none :: TB) B.pre w (List.mem_cons_of_mem _ h)
  have hown : s.vm.findClass "CircuitProver$Answer" = some m.cls := findClass_of_methodNamed B.named
  have hlocks := B.notSynchronized
  subst hsz
  have hD := hD0.self (sz := s.heap.size)
  clear hD0
  generalize hRm : (headSpec (Cond.code yA_find cA_find 2 none :: TB) { frames := 4, cells := 0, slots := 0, locals := 93 }).room = R
  have hRf : R.frames = 4 := by rw [← hRm]; rfl
  have hRl : R.locals = 93 := by rw [← hRm]; rfl
  have hRc : R.cells = 0 := by rw [← hRm]; rfl
  have hRs : R.slots = 0 := by rw [← hRm]; rfl
  clear hRm
  generalize hAe : va_A [(qa, .inr (0, [.ref r1, .int (nI ns), .long re, .int sp, .ref r2, .int (nI lr), .int (nI rt), .long vi])), (r1, aJ G 64 na), (r2, aI G 64 wy), (qk, .inr (2, [.ref k1, .int (nI la), .int (nI ss), .int (nI ii), .int (nI ks), .ref k2, .ref k3, .ref k4, .long kb])), (k2, aJ G 48 kn), (k3, aJ G 8 ko), (k4, aJ G 64 ka)] s.heap.size = A at hD hE ⊢
  have hA : ∀ q : Nat, s.heap.size ≤ q → A q := fun q h => by rw [← hAe]; exact Or.inr h
  clear hAe
  have hS : va_S A s.heap s.heap [] := va_S.rf
  have hl := lv_entry ([.ref qa, .ref qk]) (n := 2) (Nat.le_of_ble_eq_true rfl)
  have hent := lg_entry_eq m ([.ref qa, .ref qk]) 2
  rw [← hav] at hent
  rw [hent]
  clear hent hav
  generalize (lg_sl ([.ref qa, .ref qk]) ++ List.replicate (2 - (lg_sl ([.ref qa, .ref qk])).length) Slot.unset).toArray = ls at hl ⊢
  have hl : lv_has ls 2 [(0, .ref qa), (1, .ref qk)] := hl
  generalize hQ : MQ below _ args s 0 0 _ = Q
  have hP : va_P (gD G) vC [(qa, .inr (0, [.ref r1, .int (nI ns), .long re, .int sp, .ref r2, .int (nI lr), .int (nI rt), .long vi])), (r1, aJ G 64 na), (r2, aI G 64 wy), (qk, .inr (2, [.ref k1, .int (nI la), .int (nI ss), .int (nI ii), .int (nI ks), .ref k2, .ref k3, .ref k4, .long kb])), (k2, aJ G 48 kn), (k3, aJ G 8 ko), (k4, aJ G 64 ka)] s.heap := hP
  obtain ⟨H, hH⟩ : ∃ H : Heap, H = s.heap := ⟨_, rfl⟩
  obtain ⟨locs, hlc⟩ : ∃ L : List Loc, L = [] := ⟨_, rfl⟩
  have hS : va_S A s.heap H locs := by rw [hH, hlc]; exact hS
  have hP : va_P (gD G) vC [(qa, .inr (0, [.ref r1, .int (nI ns), .long re, .int sp, .ref r2, .int (nI lr), .int (nI rt), .long vi])), (r1, aJ G 64 na), (r2, aI G 64 wy), (qk, .inr (2, [.ref k1, .int (nI la), .int (nI ss), .int (nI ii), .int (nI ks), .ref k2, .ref k3, .ref k4, .long kb])), (k2, aJ G 48 kn), (k3, aJ G 8 ko), (k4, aJ G 64 ka)] H := by rw [hH]; exact hP
  have hgo : W p l e R s m args below meth c H locs 0 0 Q (F0 m 0 ls []) := by
    clear hH hlc
    refine lv_aload_n hx hb dA_find_0 rfl (lv_at hl 0 rfl) ?_
    refine lv_aload_n hx hb dA_find_1 rfl (lv_at hl 1 rfl) ?_
    refine k_v (ws2 := fun u => [(qa, .inr (0, [.ref r1, .int (nI (u.2)), .long re, .int sp, .ref r2, .int (nI lr), .int (nI rt), .long vi])), (r1, aJ G 64 (u.1)), (r2, aI G 64 wy), (qk, .inr (2, [.ref k1, .int (nI la), .int (nI ss), .int (nI ii), .int (nI ks), .ref k2, .ref k3, .ref k4, .long kb])), (k2, aJ G 48 kn), (k3, aJ G 8 ko), (k4, aJ G 64 ka)]) (wr := [(r2, aI G 64 wy), (k2, aJ G 48 kn), (k3, aJ G 8 ko)]) (k_runV (n := 1) (As := [.ref qk]) (rest := []) hx hb hml hown htb hP hD hK hS hA hE (k_A_findNear l G H.size qa r1 r2 ns re sp lr rt vi na qk k1 k2 k3 k4 la ss ii ks kb ka nx (show ss ≤ 64 from by omega) (show ∀ sx, sx < ss → ka sx = aftOf ii nx sx from hka) (show ∀ sx i, sx < ss → i < ii → nx sx i < 64 from hn6)) b441 b443 s16 b5 b444 (by decide +kernel) rfl rfl ⟨by rw [hRf]; exact Nat.le_of_ble_eq_true rfl, by rw [hRl]; exact Nat.le_of_ble_eq_true rfl⟩ [0, 1, 3, 6] rfl (by decide) 0 rfl rfl rfl rfl hl.1 rfl (Nat.le_of_ble_eq_true rfl) dA_find_2 ⟨Nat.zero_le _, Nat.zero_le _⟩) hP hD hS hA [0, 1, 3, 6] [2, 4, 5] [3, 4, 0, 5, 1, 2, 6] rfl rfl (by decide) (by decide) (fun u => rfl) (by decide) (fun u H locs hw hP hD hS => ?_)
    obtain ⟨n92, m92, hc2_b, hc2_a, hc2_s, rfl⟩ := hw
    have hP : va_P (gD G) vC [(qa, .inr (0, [.ref r1, .int (nI m92), .long re, .int sp, .ref r2, .int (nI lr), .int (nI rt), .long vi])), (r1, aJ G 64 n92), (r2, aI G 64 wy), (qk, .inr (2, [.ref k1, .int (nI la), .int (nI ss), .int (nI ii), .int (nI ks), .ref k2, .ref k3, .ref k4, .long kb])), (k2, aJ G 48 kn), (k3, aJ G 8 ko), (k4, aJ G 64 ka)] H := hP
    have hD : va_D A [(qa, .inr (0, [.ref r1, .int (nI m92), .long re, .int sp, .ref r2, .int (nI lr), .int (nI rt), .long vi])), (r1, aJ G 64 n92), (r2, aI G 64 wy), (qk, .inr (2, [.ref k1, .int (nI la), .int (nI ss), .int (nI ii), .int (nI ks), .ref k2, .ref k3, .ref k4, .long kb])), (k2, aJ G 48 kn), (k3, aJ G 8 ko), (k4, aJ G 64 ka)] := hD
    refine lv_aload_n hx hb dA_find_5 rfl (lv_at hl 0 rfl) ?_
    refine lv_aload_n hx hb dA_find_6 rfl (lv_at hl 1 rfl) ?_
    refine k_v (ws2 := fun u => [(qa, .inr (0, [.ref r1, .int (nI m92), .long (u), .int sp, .ref r2, .int (nI lr), .int (nI rt), .long vi])), (r1, aJ G 64 n92), (r2, aI G 64 wy), (qk, .inr (2, [.ref k1, .int (nI la), .int (nI ss), .int (nI ii), .int (nI ks), .ref k2, .ref k3, .ref k4, .long kb])), (k2, aJ G 48 kn), (k3, aJ G 8 ko), (k4, aJ G 64 ka)]) (wr := [(r1, aJ G 64 n92), (r2, aI G 64 wy), (k2, aJ G 48 kn), (k3, aJ G 8 ko)]) (k_runV (n := 1) (As := [.ref qk]) (rest := []) hx hb hml hown htb hP hD hK hS hA hE (k_A_findReached l G H.size qa r1 r2 m92 re sp lr rt vi qk k1 k2 k3 k4 la ss ii ks kb ka nx (show ss ≤ 64 from by omega) (show ∀ sx, sx < ss → ka sx = aftOf ii nx sx from hka) (show ∀ sx i, sx < ss → i < ii → nx sx i < 64 from hn6) (show ks < 64 from by omega)) b449 b451 s17 b5 b452 (by decide +kernel) rfl rfl ⟨by rw [hRf]; exact Nat.le_of_ble_eq_true rfl, by rw [hRl]; exact Nat.le_of_ble_eq_true rfl⟩ [0, 3, 6] rfl (by decide) 0 rfl rfl rfl rfl hl.1 rfl (Nat.le_of_ble_eq_true rfl) dA_find_7 ⟨Nat.zero_le _, Nat.zero_le _⟩) hP hD hS hA [0, 3, 6] [1, 2, 4, 5] [4, 0, 1, 5, 2, 3, 6] rfl rfl (by decide) (by decide) (fun u => rfl) (by decide) (fun u H locs hw hP hD hS => ?_)
    obtain rfl := hw
    have hP : va_P (gD G) vC [(qa, .inr (0, [.ref r1, .int (nI m92), .long (gr (postOf ss ii nx) 64 (sg ks)), .int sp, .ref r2, .int (nI lr), .int (nI rt), .long vi])), (r1, aJ G 64 n92), (r2, aI G 64 wy), (qk, .inr (2, [.ref k1, .int (nI la), .int (nI ss), .int (nI ii), .int (nI ks), .ref k2, .ref k3, .ref k4, .long kb])), (k2, aJ G 48 kn), (k3, aJ G 8 ko), (k4, aJ G 64 ka)] H := hP
    have hD : va_D A [(qa, .inr (0, [.ref r1, .int (nI m92), .long (gr (postOf ss ii nx) 64 (sg ks)), .int sp, .ref r2, .int (nI lr), .int (nI rt), .long vi])), (r1, aJ G 64 n92), (r2, aI G 64 wy), (qk, .inr (2, [.ref k1, .int (nI la), .int (nI ss), .int (nI ii), .int (nI ks), .ref k2, .ref k3, .ref k4, .long kb])), (k2, aJ G 48 kn), (k3, aJ G 8 ko), (k4, aJ G 64 ka)] := hD
    refine lv_aload_n hx hb dA_find_10 rfl (lv_at hl 0 rfl) ?_
    refine lv_aload_n hx hb dA_find_11 rfl (lv_at hl 1 rfl) ?_
    refine va_getN (D := gD G) (ci := 2) (v := .int (nI ks)) (C := "CircuitProver$Machine") (T := TK) (N := 9) hx hb htb inK hown hK hP 3 rfl rfl 4 (by decide) (va_Nw.use rfl (hE.nw n112)) (fun _ h9 => h9) rfl dA_find_12 ?_
    refine k_v (ws2 := fun u => [(qa, .inr (0, [.ref r1, .int (nI m92), .long (gr (postOf ss ii nx) 64 (sg ks)), .int (u), .ref r2, .int (nI lr), .int (nI rt), .long vi])), (r1, aJ G 64 n92), (r2, aI G 64 wy), (qk, .inr (2, [.ref k1, .int (nI la), .int (nI ss), .int (nI ii), .int (nI ks), .ref k2, .ref k3, .ref k4, .long kb])), (k2, aJ G 48 kn), (k3, aJ G 8 ko), (k4, aJ G 64 ka)]) (wr := [(r2, aI G 64 wy), (qk, .inr (2, [.ref k1, .int (nI la), .int (nI ss), .int (nI ii), .int (nI ks), .ref k2, .ref k3, .ref k4, .long kb])), (k2, aJ G 48 kn), (k3, aJ G 8 ko), (k4, aJ G 64 ka)]) (k_runV (n := 1) (As := [.int (nI ks)]) (rest := []) hx hb hml hown htb hP hD hK hS hA hE (k_A_findSteps l G H.size qa r1 r2 m92 (gr (postOf ss ii nx) 64 (sg ks)) sp lr rt vi n92 ks (show ks < 64 from by omega) (show m92 ≤ 64 from by omega)) b457 b459 s18 b5 b460 (by decide +kernel) rfl rfl ⟨by rw [hRf]; exact Nat.le_of_ble_eq_true rfl, by rw [hRl]; exact Nat.le_of_ble_eq_true rfl⟩ [0, 1] rfl (by decide) 0 rfl rfl rfl rfl hl.1 rfl (Nat.le_of_ble_eq_true rfl) dA_find_15 ⟨Nat.zero_le _, Nat.zero_le _⟩) hP hD hS hA [0, 1] [2, 3, 4, 5, 6] [5, 6, 0, 1, 2, 3, 4] rfl rfl (by decide) (by decide) (fun u => rfl) (by decide) (fun u H locs hw hP hD hS => ?_)
    rcases hw with ⟨k15, hc15_e, hc15_b, rfl⟩ | ⟨hc15_e, rfl⟩
    · skip
      have hP : va_P (gD G) vC [(qa, .inr (0, [.ref r1, .int (nI m92), .long (gr (postOf ss ii nx) 64 (sg ks)), .int (nI k15), .ref r2, .int (nI lr), .int (nI rt), .long vi])), (r1, aJ G 64 n92), (r2, aI G 64 wy), (qk, .inr (2, [.ref k1, .int (nI la), .int (nI ss), .int (nI ii), .int (nI ks), .ref k2, .ref k3, .ref k4, .long kb])), (k2, aJ G 48 kn), (k3, aJ G 8 ko), (k4, aJ G 64 ka)] H := hP
      have hD : va_D A [(qa, .inr (0, [.ref r1, .int (nI m92), .long (gr (postOf ss ii nx) 64 (sg ks)), .int (nI k15), .ref r2, .int (nI lr), .int (nI rt), .long vi])), (r1, aJ G 64 n92), (r2, aI G 64 wy), (qk, .inr (2, [.ref k1, .int (nI la), .int (nI ss), .int (nI ii), .int (nI ks), .ref k2, .ref k3, .ref k4, .long kb])), (k2, aJ G 48 kn), (k3, aJ G 8 ko), (k4, aJ G 64 ka)] := hD
      refine lv_aload_n hx hb dA_find_18 rfl (lv_at hl 0 rfl) ?_
      refine k_i (ws2 := fun u => [(qa, .inr (0, [.ref r1, .int (nI m92), .long (gr (postOf ss ii nx) 64 (sg ks)), .int (nI k15), .ref r2, .int (nI lr), .int (nI rt), .long vi])), (r1, aJ G 64 n92), (r2, aI G 64 wy), (qk, .inr (2, [.ref k1, .int (nI la), .int (nI ss), .int (nI ii), .int (nI ks), .ref k2, .ref k3, .ref k4, .long kb])), (k2, aJ G 48 kn), (k3, aJ G 8 ko), (k4, aJ G 64 ka)]) (wr := [(r1, aJ G 64 n92), (r2, aI G 64 wy), (qk, .inr (2, [.ref k1, .int (nI la), .int (nI ss), .int (nI ii), .int (nI ks), .ref k2, .ref k3, .ref k4, .long kb])), (k2, aJ G 48 kn), (k3, aJ G 8 ko), (k4, aJ G 64 ka)]) (k_runV (n := 0) (As := []) (rest := []) hx hb hml hown htb hP hD hK hS hA hE (k_A_isSafe l G H.size qa r1 r2 m92 (gr (postOf ss ii nx) 64 (sg ks)) (nI k15) lr rt vi ) b462 b463 b464 b5 b465 (by decide +kernel) rfl rfl ⟨by rw [hRf]; exact Nat.le_of_ble_eq_true rfl, by rw [hRl]; exact Nat.le_of_ble_eq_true rfl⟩ [0] rfl (by decide) 0 rfl rfl rfl rfl hl.1 rfl (Nat.le_of_ble_eq_true rfl) dA_find_19 ⟨Nat.zero_le _, Nat.zero_le _⟩) hP hD hS hA [0] [1, 2, 3, 4, 5, 6] [6, 0, 1, 2, 3, 4, 5] rfl rfl (by decide) (by decide) (fun u => rfl) (by decide) (fun r u H locs hw hP hD hS => ?_)
      rcases hw with ⟨hc19_e, rfl, rfl⟩ | ⟨hc19_e, rfl, rfl⟩
      · skip
        exact absurd hc19_e (nI_m1 (by omega))
      · skip
        have hP : va_P (gD G) vC [(qa, .inr (0, [.ref r1, .int (nI m92), .long (gr (postOf ss ii nx) 64 (sg ks)), .int (nI k15), .ref r2, .int (nI lr), .int (nI rt), .long vi])), (r1, aJ G 64 n92), (r2, aI G 64 wy), (qk, .inr (2, [.ref k1, .int (nI la), .int (nI ss), .int (nI ii), .int (nI ks), .ref k2, .ref k3, .ref k4, .long kb])), (k2, aJ G 48 kn), (k3, aJ G 8 ko), (k4, aJ G 64 ka)] H := hP
        have hD : va_D A [(qa, .inr (0, [.ref r1, .int (nI m92), .long (gr (postOf ss ii nx) 64 (sg ks)), .int (nI k15), .ref r2, .int (nI lr), .int (nI rt), .long vi])), (r1, aJ G 64 n92), (r2, aI G 64 wy), (qk, .inr (2, [.ref k1, .int (nI la), .int (nI ss), .int (nI ii), .int (nI ks), .ref k2, .ref k3, .ref k4, .long kb])), (k2, aJ G 48 kn), (k3, aJ G 8 ko), (k4, aJ G 64 ka)] := hD
        refine lv_if_eq (tgt := 33) hx hb dA_find_22 rfl (fun _ => ?_) (fun h22 => (by revert h22; first | decide | exact fun z => absurd z (by decide) | exact fun z => z.elim (by decide)))
        refine lv_aload_n hx hb dA_find_33 rfl (lv_at hl 0 rfl) ?_
        refine lv_aload_n hx hb dA_find_34 rfl (lv_at hl 1 rfl) ?_
        refine k_v (ws2 := fun u => [(qa, .inr (0, [.ref r1, .int (nI m92), .long (gr (postOf ss ii nx) 64 (sg ks)), .int (nI k15), .ref r2, .int (nI lr), .int (nI rt), .long vi])), (r1, aJ G 64 n92), (r2, aI G 64 (u)), (qk, .inr (2, [.ref k1, .int (nI la), .int (nI ss), .int (nI ii), .int (nI ks), .ref k2, .ref k3, .ref k4, .long kb])), (k2, aJ G 48 kn), (k3, aJ G 8 ko), (k4, aJ G 64 ka)]) (wr := [(k4, aJ G 64 ka)]) (k_runV (n := 1) (As := [.ref qk]) (rest := []) hx hb hml hown htb hP hD hK hS hA hE (k_A_findWay l G H.size qa r1 r2 m92 (gr (postOf ss ii nx) 64 (sg ks)) lr rt vi n92 wy k15 qk k1 k2 k3 k4 la ss ii ks kb kn ko (nF ss ii nx kb) (show 1 ≤ m92 ∧ m92 ≤ 64 from by omega) (show ∀ j, j < m92 → n92 j = (nF ss ii nx kb) j from hc2_a) (show ∀ j, m92 - 1 ≤ j → (nF ss ii nx kb) j = (nF ss ii nx kb) (m92 - 1) from hc2_s) (show la ≤ 6 from by omega) (show 1 ≤ ii ∧ ii ≤ 8 from by omega) (show k15 < 64 from by omega) (show ks < 64 from by omega)) b484 b486 s22 b5 b487 (by decide +kernel) rfl rfl ⟨by rw [hRf]; exact Nat.le_of_ble_eq_true rfl, by rw [hRl]; exact Nat.le_of_ble_eq_true rfl⟩ [0, 1, 2, 3, 4, 5] rfl (by decide) 0 rfl rfl rfl rfl hl.1 rfl (Nat.le_of_ble_eq_true rfl) dA_find_35 ⟨Nat.zero_le _, Nat.zero_le _⟩) hP hD hS hA [0, 1, 2, 3, 4, 5] [6] [1, 2, 3, 4, 5, 6, 0] rfl rfl (by decide) (by decide) (fun u => rfl) (by decide) (fun u H locs hw hP hD hS => ?_)
        obtain ⟨w935, hc35_a, hc35_e, rfl⟩ := hw
        have hP : va_P (gD G) vC [(qa, .inr (0, [.ref r1, .int (nI m92), .long (gr (postOf ss ii nx) 64 (sg ks)), .int (nI k15), .ref r2, .int (nI lr), .int (nI rt), .long vi])), (r1, aJ G 64 n92), (r2, aI G 64 w935), (qk, .inr (2, [.ref k1, .int (nI la), .int (nI ss), .int (nI ii), .int (nI ks), .ref k2, .ref k3, .ref k4, .long kb])), (k2, aJ G 48 kn), (k3, aJ G 8 ko), (k4, aJ G 64 ka)] H := hP
        have hD : va_D A [(qa, .inr (0, [.ref r1, .int (nI m92), .long (gr (postOf ss ii nx) 64 (sg ks)), .int (nI k15), .ref r2, .int (nI lr), .int (nI rt), .long vi])), (r1, aJ G 64 n92), (r2, aI G 64 w935), (qk, .inr (2, [.ref k1, .int (nI la), .int (nI ss), .int (nI ii), .int (nI ks), .ref k2, .ref k3, .ref k4, .long kb])), (k2, aJ G 48 kn), (k3, aJ G 8 ko), (k4, aJ G 64 ka)] := hD
        -- end 0
        rw [← hQ]
        exact k_vret hx hb hr hlocks (u := (m92, (gr (postOf ss ii nx) 64 (sg ks)), nI k15, lr, rt, vi, n92, w935)) (Or.inl ⟨n92, m92, k15, w935, hc2_b, hc2_a, hc2_s, ⟨hc15_e.1, by rw [show nF ss ii nx kb k15 = n92 k15 from (hc2_a k15 hc15_e.1).symm]; exact hc15_e.2⟩, fun j hj => by rw [show nF ss ii nx kb j = n92 j from (hc2_a j (by omega)).symm]; exact hc15_b j hj, hc35_a, hc35_e, rfl⟩) hP hD hK hS dA_find_38
    · skip
      have hP : va_P (gD G) vC [(qa, .inr (0, [.ref r1, .int (nI m92), .long (gr (postOf ss ii nx) 64 (sg ks)), .int (-1), .ref r2, .int (nI lr), .int (nI rt), .long vi])), (r1, aJ G 64 n92), (r2, aI G 64 wy), (qk, .inr (2, [.ref k1, .int (nI la), .int (nI ss), .int (nI ii), .int (nI ks), .ref k2, .ref k3, .ref k4, .long kb])), (k2, aJ G 48 kn), (k3, aJ G 8 ko), (k4, aJ G 64 ka)] H := hP
      have hD : va_D A [(qa, .inr (0, [.ref r1, .int (nI m92), .long (gr (postOf ss ii nx) 64 (sg ks)), .int (-1), .ref r2, .int (nI lr), .int (nI rt), .long vi])), (r1, aJ G 64 n92), (r2, aI G 64 wy), (qk, .inr (2, [.ref k1, .int (nI la), .int (nI ss), .int (nI ii), .int (nI ks), .ref k2, .ref k3, .ref k4, .long kb])), (k2, aJ G 48 kn), (k3, aJ G 8 ko), (k4, aJ G 64 ka)] := hD
      have hall := find_all (Nf := nF ss ii nx kb) hc2_b.1 hc2_a hc2_s hc15_e
      refine lv_aload_n hx hb dA_find_18 rfl (lv_at hl 0 rfl) ?_
      refine k_i (ws2 := fun u => [(qa, .inr (0, [.ref r1, .int (nI m92), .long (gr (postOf ss ii nx) 64 (sg ks)), .int (-1), .ref r2, .int (nI lr), .int (nI rt), .long vi])), (r1, aJ G 64 n92), (r2, aI G 64 wy), (qk, .inr (2, [.ref k1, .int (nI la), .int (nI ss), .int (nI ii), .int (nI ks), .ref k2, .ref k3, .ref k4, .long kb])), (k2, aJ G 48 kn), (k3, aJ G 8 ko), (k4, aJ G 64 ka)]) (wr := [(r1, aJ G 64 n92), (r2, aI G 64 wy), (qk, .inr (2, [.ref k1, .int (nI la), .int (nI ss), .int (nI ii), .int (nI ks), .ref k2, .ref k3, .ref k4, .long kb])), (k2, aJ G 48 kn), (k3, aJ G 8 ko), (k4, aJ G 64 ka)]) (k_runV (n := 0) (As := []) (rest := []) hx hb hml hown htb hP hD hK hS hA hE (k_A_isSafe l G H.size qa r1 r2 m92 (gr (postOf ss ii nx) 64 (sg ks)) (-1) lr rt vi ) b462 b463 b464 b5 b465 (by decide +kernel) rfl rfl ⟨by rw [hRf]; exact Nat.le_of_ble_eq_true rfl, by rw [hRl]; exact Nat.le_of_ble_eq_true rfl⟩ [0] rfl (by decide) 0 rfl rfl rfl rfl hl.1 rfl (Nat.le_of_ble_eq_true rfl) dA_find_19 ⟨Nat.zero_le _, Nat.zero_le _⟩) hP hD hS hA [0] [1, 2, 3, 4, 5, 6] [6, 0, 1, 2, 3, 4, 5] rfl rfl (by decide) (by decide) (fun u => rfl) (by decide) (fun r u H locs hw hP hD hS => ?_)
      rcases hw with ⟨hc19_e, rfl, rfl⟩ | ⟨hc19_e, rfl, rfl⟩
      · skip
        have hP : va_P (gD G) vC [(qa, .inr (0, [.ref r1, .int (nI m92), .long (gr (postOf ss ii nx) 64 (sg ks)), .int (-1), .ref r2, .int (nI lr), .int (nI rt), .long vi])), (r1, aJ G 64 n92), (r2, aI G 64 wy), (qk, .inr (2, [.ref k1, .int (nI la), .int (nI ss), .int (nI ii), .int (nI ks), .ref k2, .ref k3, .ref k4, .long kb])), (k2, aJ G 48 kn), (k3, aJ G 8 ko), (k4, aJ G 64 ka)] H := hP
        have hD : va_D A [(qa, .inr (0, [.ref r1, .int (nI m92), .long (gr (postOf ss ii nx) 64 (sg ks)), .int (-1), .ref r2, .int (nI lr), .int (nI rt), .long vi])), (r1, aJ G 64 n92), (r2, aI G 64 wy), (qk, .inr (2, [.ref k1, .int (nI la), .int (nI ss), .int (nI ii), .int (nI ks), .ref k2, .ref k3, .ref k4, .long kb])), (k2, aJ G 48 kn), (k3, aJ G 8 ko), (k4, aJ G 64 ka)] := hD
        refine lv_if_eq (tgt := 33) hx hb dA_find_22 rfl (fun h22 => (by revert h22; first | decide | exact fun z => absurd z (by decide) | exact fun z => z.elim (by decide))) (fun _ => ?_)
        refine lv_aload_n hx hb dA_find_25 rfl (lv_at hl 0 rfl) ?_
        refine lv_aload_n hx hb dA_find_26 rfl (lv_at hl 1 rfl) ?_
        refine k_v (ws2 := fun u => [(qa, .inr (0, [.ref r1, .int (nI m92), .long (gr (postOf ss ii nx) 64 (sg ks)), .int (-1), .ref r2, .int (nI (u.1)), .int (nI (u.2.1)), .long (u.2.2)])), (r1, aJ G 64 n92), (r2, aI G 64 wy), (qk, .inr (2, [.ref k1, .int (nI la), .int (nI ss), .int (nI ii), .int (nI ks), .ref k2, .ref k3, .ref k4, .long kb])), (k2, aJ G 48 kn), (k3, aJ G 8 ko), (k4, aJ G 64 ka)]) (wr := [(r2, aI G 64 wy), (k2, aJ G 48 kn), (k3, aJ G 8 ko)]) (k_runV (n := 1) (As := [.ref qk]) (rest := []) hx hb hml hown htb hP hD hK hS hA hE (k_A_prove l G H.size qa r1 r2 m92 (gr (postOf ss ii nx) 64 (sg ks)) (-1) lr rt vi n92 qk k1 k2 k3 k4 la ss ii ks kb ka nx (nF ss ii nx kb) (show ss ≤ 64 from by omega) (show ∀ sx, sx < ss → ka sx = aftOf ii nx sx from hka) (show ∀ sx i, sx < ss → i < ii → nx sx i < 64 from hn6) (show 1 ≤ m92 ∧ m92 ≤ 64 from by omega) (show ∀ j, j < m92 → n92 j = (nF ss ii nx kb) j from hc2_a) (show ∀ j, m92 - 1 ≤ j → (nF ss ii nx kb) j = (nF ss ii nx kb) (m92 - 1) from hc2_s) (show la ≤ 6 from by omega) (show ks < 64 from by omega) (show ∀ r, (r &&& (nF ss ii nx kb) 63) = 0 → (postOf ss ii nx r &&& (nF ss ii nx kb) 63) = 0 from find_cl hz hn6) (show ∀ k, (sg ks &&& (nF ss ii nx kb) k) = 0 from fun k => find_s0 hks (hall k))) b466 b468 s19 b5 b469 (by decide +kernel) rfl rfl ⟨by rw [hRf]; exact Nat.le_of_ble_eq_true rfl, by rw [hRl]; exact Nat.le_of_ble_eq_true rfl⟩ [0, 1, 3, 6] rfl (by decide) 0 rfl rfl rfl rfl hl.1 rfl (Nat.le_of_ble_eq_true rfl) dA_find_27 ⟨Nat.zero_le _, Nat.zero_le _⟩) hP hD hS hA [0, 1, 3, 6] [2, 4, 5] [3, 4, 0, 5, 1, 2, 6] rfl rfl (by decide) (by decide) (fun u => rfl) (by decide) (fun u H locs hw hP hD hS => ?_)
        obtain rfl := hw
        have hP : va_P (gD G) vC [(qa, .inr (0, [.ref r1, .int (nI m92), .long (gr (postOf ss ii nx) 64 (sg ks)), .int (-1), .ref r2, .int (nI ((prf (postOf ss ii nx) (nrF (nF ss ii nx kb)) wid la (sg ks) 4159 1 (sg ks) 0).1)), .int (nI ((prf (postOf ss ii nx) (nrF (nF ss ii nx kb)) wid la (sg ks) 4159 1 (sg ks) 0).2.2)), .long ((prf (postOf ss ii nx) (nrF (nF ss ii nx kb)) wid la (sg ks) 4159 1 (sg ks) 0).2.1)])), (r1, aJ G 64 n92), (r2, aI G 64 wy), (qk, .inr (2, [.ref k1, .int (nI la), .int (nI ss), .int (nI ii), .int (nI ks), .ref k2, .ref k3, .ref k4, .long kb])), (k2, aJ G 48 kn), (k3, aJ G 8 ko), (k4, aJ G 64 ka)] H := hP
        have hD : va_D A [(qa, .inr (0, [.ref r1, .int (nI m92), .long (gr (postOf ss ii nx) 64 (sg ks)), .int (-1), .ref r2, .int (nI ((prf (postOf ss ii nx) (nrF (nF ss ii nx kb)) wid la (sg ks) 4159 1 (sg ks) 0).1)), .int (nI ((prf (postOf ss ii nx) (nrF (nF ss ii nx kb)) wid la (sg ks) 4159 1 (sg ks) 0).2.2)), .long ((prf (postOf ss ii nx) (nrF (nF ss ii nx kb)) wid la (sg ks) 4159 1 (sg ks) 0).2.1)])), (r1, aJ G 64 n92), (r2, aI G 64 wy), (qk, .inr (2, [.ref k1, .int (nI la), .int (nI ss), .int (nI ii), .int (nI ks), .ref k2, .ref k3, .ref k4, .long kb])), (k2, aJ G 48 kn), (k3, aJ G 8 ko), (k4, aJ G 64 ka)] := hD
        refine lv_goto (tgt := 38) hx hb dA_find_30 rfl ?_
        -- end 1
        rw [← hQ]
        exact k_vret hx hb hr hlocks (u := (m92, (gr (postOf ss ii nx) 64 (sg ks)), (-1), ((prf (postOf ss ii nx) (nrF (nF ss ii nx kb)) wid la (sg ks) 4159 1 (sg ks) 0).1), ((prf (postOf ss ii nx) (nrF (nF ss ii nx kb)) wid la (sg ks) 4159 1 (sg ks) 0).2.2), ((prf (postOf ss ii nx) (nrF (nF ss ii nx kb)) wid la (sg ks) 4159 1 (sg ks) 0).2.1), n92, wy)) (Or.inr ⟨n92, m92, hc2_b, hc2_a, hc2_s, hall, rfl⟩) hP hD hK hS dA_find_38
      · skip
        exact absurd rfl hc19_e
  rw [hH, hlc] at hgo
  exact hgo
set_option maxRecDepth 100000 in
set_option maxHeartbeats 4000000 in
theorem k_D_hangsOn (l : Launch) (G : GG) (sz : Nat) (x : Int64) (j : Nat) (hj : j < 6) : Ki l yD_hangsOn cD_hangsOn 5 .boolean 0 0 G [.long x, .int (nI j)] [] sz (fun (r : Int32) (u : Unit) => (hangC x j ∧ nI 1 = r ∧ () = u) ∨ (¬ hangC x j ∧ nI 0 = r ∧ () = u)) (fun (u : Unit) => []) := by
  refine Met.ofW (cc := cD_hangsOn) (maxL := 5) (ret := (some .boolean)) (by decide) rfl ?_
  intro p e s m args below meth c s₁ B hml hv
  obtain ⟨hav, hsz, hP, hK, hD0, hE⟩ := hv
  have hx := B.exec
  have hb := B.bytes
  have hr := B.returns
  have htb : ∀ w ∈ TB, w.before args s = true := fun w h => atoms_spec (ws := Cond.code yD_hangsOn cD_hangsOn 5 (some .boolean) :: TB) B.pre w (List.mem_cons_of_mem _ h)
  have hown : s.vm.findClass "CircuitProver$Diagram" = some m.cls := findClass_of_methodNamed B.named
  have hlocks := B.notSynchronized
  subst hsz
  have hD := hD0.self (sz := s.heap.size)
  clear hD0
  generalize hRm : (headSpec (Cond.code yD_hangsOn cD_hangsOn 5 (some .boolean) :: TB) { frames := 0, cells := 0, slots := 0, locals := 0 }).room = R
  have hRf : R.frames = 0 := by rw [← hRm]; rfl
  have hRl : R.locals = 0 := by rw [← hRm]; rfl
  have hRc : R.cells = 0 := by rw [← hRm]; rfl
  have hRs : R.slots = 0 := by rw [← hRm]; rfl
  clear hRm
  generalize hAe : va_A [] s.heap.size = A at hD hE ⊢
  have hA : ∀ q : Nat, s.heap.size ≤ q → A q := fun q h => by rw [← hAe]; exact Or.inr h
  clear hAe
  have hS : va_S A s.heap s.heap [] := va_S.rf
  have hl := lv_entry ([.long x, .int (nI j)]) (n := 5) (Nat.le_of_ble_eq_true rfl)
  have hent := lg_entry_eq m ([.long x, .int (nI j)]) 5
  rw [← hav] at hent
  rw [hent]
  clear hent hav
  generalize (lg_sl ([.long x, .int (nI j)]) ++ List.replicate (5 - (lg_sl ([.long x, .int (nI j)])).length) Slot.unset).toArray = ls at hl ⊢
  have hl : lv_has ls 5 [(0, .long x), (2, .int (nI j))] := hl
  generalize hQ : MQ below _ args s 0 0 _ = Q
  have hP : va_P (gD G) vC [] s.heap := hP
  obtain ⟨H, hH⟩ : ∃ H : Heap, H = s.heap := ⟨_, rfl⟩
  obtain ⟨locs, hlc⟩ : ∃ L : List Loc, L = [] := ⟨_, rfl⟩
  have hS : va_S A s.heap H locs := by rw [hH, hlc]; exact hS
  have hP : va_P (gD G) vC [] H := by rw [hH]; exact hP
  have hgo : W p l e R s m args below meth c H locs 0 0 Q (F0 m 0 ls []) := by
    clear hH hlc
    obtain ⟨tq, hZ, hT⟩ := hE.2.1
    refine va_getsN hx hb hZ hS hown (va_Nw.use rfl (hE.nw n660)) (fun _ h9 => h9) dD_hangsOn_0 ?_
    refine lv_iload_n hx hb dD_hangsOn_3 rfl (lv_at hl 1 rfl) ?_
    refine va_tl (v := .long (L1 j)) hx hb hT hS (vp_in_nI (show j < 6 by omega) (by decide)) (by rw [nI_clamp (by omega)]) dD_hangsOn_4 ?_
    refine lv_lstore_n (lv' := [(3, .long (L1 j)), (0, .long x), (2, .int (nI j))]) hx hb dD_hangsOn_5 rfl hl (by decide) rfl (fun ls hl => ?_)
    refine lv_lload_n hx hb dD_hangsOn_6 rfl (lv_at hl 1 rfl) ?_
    refine lv_lload_n hx hb dD_hangsOn_7 rfl (lv_at hl 0 rfl) ?_
    refine lv_land hx hb dD_hangsOn_8 ?_
    refine lv_iconst (v := nI 1) hx hb dD_hangsOn_9 (by decide) ?_
    refine lv_iload_n hx hb dD_hangsOn_10 rfl (lv_at hl 2 rfl) ?_
    refine lv_ishl hx hb dD_hangsOn_11 ?_
    refine k_toi (y := nI (2 ^ j)) (sh1 (by omega)) ?_
    refine lv_lushr (v := su (x &&& (L1 j)) (2 ^ j)) hx hb dD_hangsOn_12 rfl ?_
    refine lv_lload_n hx hb dD_hangsOn_13 rfl (lv_at hl 1 rfl) ?_
    refine lv_lload_n hx hb dD_hangsOn_14 rfl (lv_at hl 0 rfl) ?_
    refine lv_ldc2 (v := (-1)) hx hb hown (htb _ b652) dD_hangsOn_15 ?_
    refine lv_lxor hx hb dD_hangsOn_18 ?_
    refine lv_land hx hb dD_hangsOn_19 ?_
    refine W.lcmp hx hb dD_hangsOn_20 ?_
    refine lv_if_eq (tgt := 28) hx hb dD_hangsOn_21 rfl (fun h21 => ?_) (fun h21 => ?_)
    · have h21 : (su (x &&& (L1 j)) (2 ^ j)) = (x &&& ((L1 j) ^^^ (-1))) := (lg_cmp_eq _ _).mp h21
      refine lv_iconst (v := nI 0) hx hb dD_hangsOn_28 (by decide) ?_
      -- end 0
      rw [← hQ]
      exact k_iret hx hb hr hlocks (by decide) (u := ()) (Or.inr ⟨fun z => z h21, rfl, rfl⟩) hP hD hK hS dD_hangsOn_29
    · have h21 : ¬ (su (x &&& (L1 j)) (2 ^ j)) = (x &&& ((L1 j) ^^^ (-1))) := fun z => h21 ((lg_cmp_eq _ _).mpr z)
      refine lv_iconst (v := nI 1) hx hb dD_hangsOn_24 (by decide) ?_
      refine lv_goto (tgt := 29) hx hb dD_hangsOn_25 rfl ?_
      -- end 1
      rw [← hQ]
      exact k_iret hx hb hr hlocks (by decide) (u := ()) (Or.inl ⟨h21, rfl, rfl⟩) hP hD hK hS dD_hangsOn_29
  rw [hH, hlc] at hgo
  exact hgo
set_option maxRecDepth 100000 in
set_option maxHeartbeats 4000000 in
theorem k_D_isSeen (l : Launch) (G : GG) (sz : Nat) (qd : Nat) (d1 : Nat) (se : Nat → Int64) (x : Int64) (f : Nat) (hf : f ≤ 32) : Ki l yD_isSeen cD_isSeen 5 .boolean 0 0 G [.ref qd, .long x, .int (nI f)] [(qd, .inr (1, [.ref d1])), (d1, aJ G 32 se)] sz (fun (r : Int32) (u : Unit) => (∃ (k : Nat), (k < f ∧ se k = x) ∧ nI 1 = r ∧ () = u) ∨ ((∀ k, k < f → ¬ se k = x) ∧ nI 0 = r ∧ () = u)) (fun (u : Unit) => [(qd, .inr (1, [.ref d1])), (d1, aJ G 32 se)]) := by
  refine Met.ofW (cc := cD_isSeen) (maxL := 5) (ret := (some .boolean)) (by decide) rfl ?_
  intro p e s m args below meth c s₁ B hml hv
  obtain ⟨hav, hsz, hP, hK, hD0, hE⟩ := hv
  have hx := B.exec
  have hb := B.bytes
  have hr := B.returns
  have htb : ∀ w ∈ TB, w.before args s = true := fun w h => atoms_spec (ws := Cond.code yD_isSeen cD_isSeen 5 (some .boolean) :: TB) B.pre w (List.mem_cons_of_mem _ h)
  have hown : s.vm.findClass "CircuitProver$Diagram" = some m.cls := findClass_of_methodNamed B.named
  have hlocks := B.notSynchronized
  subst hsz
  have hD := hD0.self (sz := s.heap.size)
  clear hD0
  generalize hRm : (headSpec (Cond.code yD_isSeen cD_isSeen 5 (some .boolean) :: TB) { frames := 0, cells := 0, slots := 0, locals := 0 }).room = R
  have hRf : R.frames = 0 := by rw [← hRm]; rfl
  have hRl : R.locals = 0 := by rw [← hRm]; rfl
  have hRc : R.cells = 0 := by rw [← hRm]; rfl
  have hRs : R.slots = 0 := by rw [← hRm]; rfl
  clear hRm
  generalize hAe : va_A [(qd, .inr (1, [.ref d1])), (d1, aJ G 32 se)] s.heap.size = A at hD hE ⊢
  have hA : ∀ q : Nat, s.heap.size ≤ q → A q := fun q h => by rw [← hAe]; exact Or.inr h
  clear hAe
  have hS : va_S A s.heap s.heap [] := va_S.rf
  have hl := lv_entry ([.ref qd, .long x, .int (nI f)]) (n := 5) (Nat.le_of_ble_eq_true rfl)
  have hent := lg_entry_eq m ([.ref qd, .long x, .int (nI f)]) 5
  rw [← hav] at hent
  rw [hent]
  clear hent hav
  generalize (lg_sl ([.ref qd, .long x, .int (nI f)]) ++ List.replicate (5 - (lg_sl ([.ref qd, .long x, .int (nI f)])).length) Slot.unset).toArray = ls at hl ⊢
  have hl : lv_has ls 5 [(0, .ref qd), (1, .long x), (3, .int (nI f))] := hl
  generalize hQ : MQ below _ args s 0 0 _ = Q
  have hP : va_P (gD G) vC [(qd, .inr (1, [.ref d1])), (d1, aJ G 32 se)] s.heap := hP
  obtain ⟨H, hH⟩ : ∃ H : Heap, H = s.heap := ⟨_, rfl⟩
  obtain ⟨locs, hlc⟩ : ∃ L : List Loc, L = [] := ⟨_, rfl⟩
  have hS : va_S A s.heap H locs := by rw [hH, hlc]; exact hS
  have hP : va_P (gD G) vC [(qd, .inr (1, [.ref d1])), (d1, aJ G 32 se)] H := by rw [hH]; exact hP
  have hgo : W p l e R s m args below meth c H locs 0 0 Q (F0 m 0 ls []) := by
    clear hH hlc
    refine lv_iconst (v := nI 0) hx hb dD_isSeen_0 (by decide) ?_
    refine lv_istore (lv' := [(4, .int (nI 0)), (0, .ref qd), (1, .long x), (3, .int (nI f))]) hx hb dD_isSeen_1 hl (by decide) rfl (fun ls hl => ?_)
    have loop3 : ∀ (n : Nat) (k : Nat) (H : Heap) (locs : List Loc) (ls : Array Slot), f - k < n → (k ≤ f) → (∀ i, i < k → ¬ se i = x) → va_P (gD G) vC [(qd, .inr (1, [.ref d1])), (d1, aJ G 32 se)] H → va_D A [(qd, .inr (1, [.ref d1])), (d1, aJ G 32 se)] → va_S A s.heap H locs → lv_has ls 5 [(0, .ref qd), (1, .long x), (3, .int (nI f)), (4, .int (nI k))] → W p l e R s m args below meth c H locs 0 0 Q (F0 m 3 ls []) := by
      intro n
      induction n with
      | zero => intro k H locs ls hmu; omega
      | succ n ih =>
        intro k H locs ls hmu hk ha hP hD hS hl
        have ih3 := ih
        clear ih
        refine lv_iload hx hb dD_isSeen_3 (lv_at hl 3 rfl) ?_
        refine lv_iload_n hx hb dD_isSeen_5 rfl (lv_at hl 2 rfl) ?_
        refine lv_icmp_ge (tgt := 39) hx hb dD_isSeen_6 rfl (fun h6 => ?_) (fun h6 => ?_)
        · have h6 : f ≤ k := (nI_leI (a := f) (b := k) (by omega) (by omega)).mp h6
          refine lv_iconst (v := nI 0) hx hb dD_isSeen_39 (by decide) ?_
          -- end 0
          rw [← hQ]
          exact k_iret hx hb hr hlocks (by decide) (u := ()) (Or.inr ⟨fun i hi => ha i (by omega), rfl, rfl⟩) hP hD hK hS dD_isSeen_40
        · have h6 : k < f := Nat.lt_of_not_le (fun z => h6 ((nI_leI (a := f) (b := k) (by omega) (by omega)).mpr z))
          refine lv_iload hx hb dD_isSeen_9 (lv_at hl 3 rfl) ?_
          refine lv_aload_n hx hb dD_isSeen_11 rfl (lv_at hl 0 rfl) ?_
          refine va_get (D := gD G) (ci := 1) (v := .ref d1) (C := "CircuitProver$Diagram") (T := TD) (N := 1) hx hb htb inD hown hK hP 0 rfl rfl 0 (by decide) (htb _ b183) (fun _ h9 => h9) rfl dD_isSeen_12 ?_
          refine va_alen (v := nI 32) hx hb hK hP 1 3 rfl rfl rfl dD_isSeen_15 ?_
          refine lv_icmp_ge (tgt := 39) hx hb dD_isSeen_16 rfl (fun h16 => ?_) (fun h16 => ?_)
          · have h16 : 32 ≤ k := (nI_leI (a := 32) (b := k) (by omega) (by omega)).mp h16
            exfalso; omega
          · have h16 : k < 32 := Nat.lt_of_not_le (fun z => h16 ((nI_leI (a := 32) (b := k) (by omega) (by omega)).mpr z))
            refine lv_aload_n hx hb dD_isSeen_19 rfl (lv_at hl 0 rfl) ?_
            refine va_get (D := gD G) (ci := 1) (v := .ref d1) (C := "CircuitProver$Diagram") (T := TD) (N := 1) hx hb htb inD hown hK hP 0 rfl rfl 0 (by decide) (htb _ b183) (fun _ h9 => h9) rfl dD_isSeen_20 ?_
            refine lv_iload hx hb dD_isSeen_23 (lv_at hl 3 rfl) ?_
            refine k_lald hx hb hK hP 1 rfl (k := k) (by omega) (by decide) dD_isSeen_25 ?_
            refine lv_lload_n hx hb dD_isSeen_26 rfl (lv_at hl 1 rfl) ?_
            refine W.lcmp hx hb dD_isSeen_27 ?_
            refine lv_if_ne (tgt := 33) hx hb dD_isSeen_28 rfl (fun h28 => ?_) (fun h28 => ?_)
            · have h28 : ¬ (se k) = x := fun z => h28 ((lg_cmp_eq _ _).mpr z)
              refine lv_iinc (v := nI (k + 1)) (lv' := [(4, .int (nI (k + 1))), (0, .ref qd), (1, .long x), (3, .int (nI f))]) hx hb dD_isSeen_33 hl (k := 3) rfl (nI_add _ 1) (by decide) rfl (fun ls hl => ?_)
              refine lv_goto (tgt := 3) hx hb dD_isSeen_36 rfl ?_
              have hl : lv_has ls 5 [(0, .ref qd), (1, .long x), (3, .int (nI f)), (4, .int (nI (k + 1)))] := lv_sub hl [1, 2, 3, 0] rfl
              exact ih3 (k + 1) _ _ _ (by omega) (by omega) (fun i hi => by by_cases e9 : i = k; (subst e9; exact h28); (exact ha i (by omega))) hP hD hS hl
            · have h28 : (se k) = x := (lg_cmp_eq _ _).mp h28
              refine lv_iconst (v := nI 1) hx hb dD_isSeen_31 (by decide) ?_
              -- end 1
              rw [← hQ]
              exact k_iret hx hb hr hlocks (by decide) (u := ()) (Or.inl ⟨k, ⟨by omega, h28⟩, rfl, rfl⟩) hP hD hK hS dD_isSeen_32
    have hl : lv_has ls 5 [(0, .ref qd), (1, .long x), (3, .int (nI f)), (4, .int (nI 0))] := lv_sub hl [1, 2, 3, 0] rfl
    exact loop3 (f - 0 + 1) 0 _ _ _ (by omega) (by omega) (fun i hi => absurd hi (Nat.not_lt_zero i)) hP hD hS hl
  rw [hH, hlc] at hgo
  exact hgo
set_option maxRecDepth 100000 in
set_option maxHeartbeats 4000000 in
theorem k_D_nodesAt (l : Launch) (G : GG) (sz : Nat) (qd : Nat) (d1 : Nat) (se : Nat → Int64) (x : Int64) (j : Nat) (z : Int64) (hj : j < 6) : Ki l yD_nodesAt cD_nodesAt 10 .int 1 24 G [.ref qd, .long x, .int (nI j), .long z] [(qd, .inr (1, [.ref d1])), (d1, aJ G 32 se)] sz (fun (r : Int32) (u : (Nat → Int64)) => (∃ (s9 : Nat → Int64), nI (cntP (frB x z j) (2 ^ j)) = r ∧ s9 = u)) (fun (u : (Nat → Int64)) => [(qd, .inr (1, [.ref d1])), (d1, aJ G 32 u)]) := by
  refine Met.ofW (cc := cD_nodesAt) (maxL := 10) (ret := (some .int)) (by decide) rfl ?_
  intro p e s m args below meth c s₁ B hml hv
  obtain ⟨hav, hsz, hP, hK, hD0, hE⟩ := hv
  have hx := B.exec
  have hb := B.bytes
  have hr := B.returns
  have htb : ∀ w ∈ TB, w.before args s = true := fun w h => atoms_spec (ws := Cond.code yD_nodesAt cD_nodesAt 10 (some .int) :: TB) B.pre w (List.mem_cons_of_mem _ h)
  have hown : s.vm.findClass "CircuitProver$Diagram" = some m.cls := findClass_of_methodNamed B.named
  have hlocks := B.notSynchronized
  subst hsz
  have hD := hD0.self (sz := s.heap.size)
  clear hD0
  generalize hRm : (headSpec (Cond.code yD_nodesAt cD_nodesAt 10 (some .int) :: TB) { frames := 1, cells := 0, slots := 0, locals := 24 }).room = R
  have hRf : R.frames = 1 := by rw [← hRm]; rfl
  have hRl : R.locals = 24 := by rw [← hRm]; rfl
  have hRc : R.cells = 0 := by rw [← hRm]; rfl
  have hRs : R.slots = 0 := by rw [← hRm]; rfl
  clear hRm
  generalize hAe : va_A [(qd, .inr (1, [.ref d1])), (d1, aJ G 32 se)] s.heap.size = A at hD hE ⊢
  have hA : ∀ q : Nat, s.heap.size ≤ q → A q := fun q h => by rw [← hAe]; exact Or.inr h
  clear hAe
  have hS : va_S A s.heap s.heap [] := va_S.rf
  have hl := lv_entry ([.ref qd, .long x, .int (nI j), .long z]) (n := 10) (Nat.le_of_ble_eq_true rfl)
  have hent := lg_entry_eq m ([.ref qd, .long x, .int (nI j), .long z]) 10
  rw [← hav] at hent
  rw [hent]
  clear hent hav
  generalize (lg_sl ([.ref qd, .long x, .int (nI j), .long z]) ++ List.replicate (10 - (lg_sl ([.ref qd, .long x, .int (nI j), .long z])).length) Slot.unset).toArray = ls at hl ⊢
  have hl : lv_has ls 10 [(0, .ref qd), (1, .long x), (3, .int (nI j)), (4, .long z)] := hl
  generalize hQ : MQ below _ args s 0 0 _ = Q
  have hP : va_P (gD G) vC [(qd, .inr (1, [.ref d1])), (d1, aJ G 32 se)] s.heap := hP
  obtain ⟨H, hH⟩ : ∃ H : Heap, H = s.heap := ⟨_, rfl⟩
  obtain ⟨locs, hlc⟩ : ∃ L : List Loc, L = [] := ⟨_, rfl⟩
  have hS : va_S A s.heap H locs := by rw [hH, hlc]; exact hS
  have hP : va_P (gD G) vC [(qd, .inr (1, [.ref d1])), (d1, aJ G 32 se)] H := by rw [hH]; exact hP
  have hgo : W p l e R s m args below meth c H locs 0 0 Q (F0 m 0 ls []) := by
    clear hH hlc
    have hp := p32_le hj
    have hpp := Nat.two_pow_pos j
    refine lv_iconst (v := nI 0) hx hb dD_nodesAt_0 (by decide) ?_
    refine lv_istore (lv' := [(6, .int (nI 0)), (0, .ref qd), (1, .long x), (3, .int (nI j)), (4, .long z)]) hx hb dD_nodesAt_1 hl (by decide) rfl (fun ls hl => ?_)
    refine lv_iconst (v := nI 0) hx hb dD_nodesAt_3 (by decide) ?_
    refine lv_istore (lv' := [(7, .int (nI 0)), (6, .int (nI 0)), (0, .ref qd), (1, .long x), (3, .int (nI j)), (4, .long z)]) hx hb dD_nodesAt_4 hl (by decide) rfl (fun ls hl => ?_)
    have loop6 : ∀ (n : Nat) (f : Nat) (a : Nat) (s9 : Nat → Int64) (H : Heap) (locs : List Loc) (ls : Array Slot), 2 ^ j - a < n → (a ≤ 2 ^ j) → (f = cntP (frB x z j) a) → (seenOK x z j s9 f a) → va_P (gD G) vC [(qd, .inr (1, [.ref d1])), (d1, aJ G 32 s9)] H → va_D A [(qd, .inr (1, [.ref d1])), (d1, aJ G 32 s9)] → va_S A s.heap H locs → lv_has ls 10 [(0, .ref qd), (1, .long x), (3, .int (nI j)), (4, .long z), (6, .int (nI f)), (7, .int (nI a))] → W p l e R s m args below meth c H locs 0 0 Q (F0 m 6 ls []) := by
      intro n
      induction n with
      | zero => intro f a s9 H locs ls hmu; omega
      | succ n ih =>
        intro f a s9 H locs ls hmu ha hf hs9 hP hD hS hl
        have ih6 := ih
        clear ih
        have hfa : f ≤ a := by rw [hf]; exact cntP_le _ _
        refine lv_iload hx hb dD_nodesAt_6 (lv_at hl 5 rfl) ?_
        refine lv_iconst (v := nI 1) hx hb dD_nodesAt_8 (by decide) ?_
        refine lv_iload_n hx hb dD_nodesAt_9 rfl (lv_at hl 2 rfl) ?_
        refine lv_ishl hx hb dD_nodesAt_10 ?_
        refine k_toi (y := nI (2 ^ j)) (sh1 (by omega)) ?_
        refine lv_icmp_ge (tgt := 71) hx hb dD_nodesAt_11 rfl (fun h11 => ?_) (fun h11 => ?_)
        · have h11 : 2 ^ j ≤ a := (nI_leI (a := 2 ^ j) (b := a) (by omega) (by omega)).mp h11
          refine lv_iload hx hb dD_nodesAt_71 (lv_at hl 4 rfl) ?_
          -- end 0
          rw [← hQ]
          exact k_iret hx hb hr hlocks rfl (u := s9) (⟨s9, by rw [hf, show a = 2 ^ j by omega], rfl⟩) hP hD hK hS dD_nodesAt_73
        · have h11 : a < 2 ^ j := Nat.lt_of_not_le (fun z => h11 ((nI_leI (a := 2 ^ j) (b := a) (by omega) (by omega)).mpr z))
          refine lv_lload_n hx hb dD_nodesAt_14 rfl (lv_at hl 1 rfl) ?_
          refine lv_iload hx hb dD_nodesAt_15 (lv_at hl 5 rfl) ?_
          refine lv_lushr (v := su x a) hx hb dD_nodesAt_17 rfl ?_
          refine lv_lload hx hb dD_nodesAt_18 (lv_at hl 3 rfl) ?_
          refine lv_land hx hb dD_nodesAt_20 ?_
          refine k_tol (y := fz x z a) (rfl) ?_
          refine lv_lstore (lv' := [(8, .long (fz x z a)), (0, .ref qd), (1, .long x), (3, .int (nI j)), (4, .long z), (6, .int (nI f)), (7, .int (nI a))]) hx hb dD_nodesAt_21 hl (by decide) rfl (fun ls hl => ?_)
          refine lv_lload hx hb dD_nodesAt_23 (lv_at hl 0 rfl) ?_
          refine lv_iload_n hx hb dD_nodesAt_25 rfl (lv_at hl 3 rfl) ?_
          refine k_i (ws2 := fun u => [(qd, .inr (1, [.ref d1])), (d1, aJ G 32 s9)]) (wr := [(qd, .inr (1, [.ref d1])), (d1, aJ G 32 s9)]) (k_runS (n := 2) (As := [.long (fz x z a), .int (nI j)]) (rest := []) (wc := []) hx hb hml hown htb hP hD hK hS hA hE (k_D_hangsOn l G H.size (fz x z a) j (show j < 6 from by omega)) b657 b658 b6 b659 (by decide +kernel) rfl rfl ⟨by rw [hRf]; exact Nat.le_of_ble_eq_true rfl, by rw [hRl]; exact Nat.le_of_ble_eq_true rfl⟩ [] rfl (by decide) rfl hl.1 rfl (Nat.le_of_ble_eq_true rfl) dD_nodesAt_26 ⟨Nat.zero_le _, Nat.zero_le _⟩) hP hD hS hA [] [0, 1] [0, 1] rfl rfl (by decide) (by decide) (fun u => rfl) (by decide) (fun r u H locs hw hP hD hS => ?_)
          rcases hw with ⟨hc26_e, rfl, rfl⟩ | ⟨hc26_e, rfl, rfl⟩
          · skip
            have hP : va_P (gD G) vC [(qd, .inr (1, [.ref d1])), (d1, aJ G 32 s9)] H := hP
            have hD : va_D A [(qd, .inr (1, [.ref d1])), (d1, aJ G 32 s9)] := hD
            refine lv_if_eq (tgt := 65) hx hb dD_nodesAt_29 rfl (fun h29 => (by revert h29; first | decide | exact fun z => absurd z (by decide) | exact fun z => z.elim (by decide))) (fun _ => ?_)
            refine lv_aload_n hx hb dD_nodesAt_32 rfl (lv_at hl 1 rfl) ?_
            refine lv_lload hx hb dD_nodesAt_33 (lv_at hl 0 rfl) ?_
            refine lv_iload hx hb dD_nodesAt_35 (lv_at hl 5 rfl) ?_
            refine k_i (ws2 := fun u => [(qd, .inr (1, [.ref d1])), (d1, aJ G 32 s9)]) (wr := []) (k_runV (n := 2) (As := [.long (fz x z a), .int (nI f)]) (rest := []) hx hb hml hown htb hP hD hK hS hA hE (k_D_isSeen l G H.size qd d1 s9 (fz x z a) f (show f ≤ 32 from by omega)) b661 b663 s28 b6 b664 (by decide +kernel) rfl rfl ⟨by rw [hRf]; exact Nat.le_of_ble_eq_true rfl, by rw [hRl]; exact Nat.le_of_ble_eq_true rfl⟩ [0, 1] rfl (by decide) 0 rfl rfl rfl rfl hl.1 rfl (Nat.le_of_ble_eq_true rfl) dD_nodesAt_37 ⟨Nat.zero_le _, Nat.zero_le _⟩) hP hD hS hA [0, 1] [] [0, 1] rfl rfl (by decide) (by decide) (fun u => rfl) (by decide) (fun r u H locs hw hP hD hS => ?_)
            rcases hw with ⟨k37, hc37_e, rfl, rfl⟩ | ⟨hc37_e, rfl, rfl⟩
            · skip
              have hP : va_P (gD G) vC [(qd, .inr (1, [.ref d1])), (d1, aJ G 32 s9)] H := hP
              have hD : va_D A [(qd, .inr (1, [.ref d1])), (d1, aJ G 32 s9)] := hD
              refine lv_if_ne (tgt := 65) hx hb dD_nodesAt_40 rfl (fun _ => ?_) (fun h40 => (by revert h40; first | decide | exact fun z => absurd z (by decide) | exact fun z => z.elim (by decide)))
              refine lv_iinc (v := nI (a + 1)) (lv' := [(7, .int (nI (a + 1))), (8, .long (fz x z a)), (0, .ref qd), (1, .long x), (3, .int (nI j)), (4, .long z), (6, .int (nI f))]) hx hb dD_nodesAt_65 hl (k := 6) rfl (nI_add _ 1) (by decide) rfl (fun ls hl => ?_)
              refine lv_goto (tgt := 6) hx hb dD_nodesAt_68 rfl ?_
              have hl : lv_has ls 10 [(0, .ref qd), (1, .long x), (3, .int (nI j)), (4, .long z), (6, .int (nI f)), (7, .int (nI (a + 1)))] := lv_sub hl [2, 3, 4, 5, 6, 0] rfl
              exact ih6 f (a + 1) s9 _ _ _ (by omega) (by omega) (by rw [cntP]; first | (rw [if_pos (fr_yes hs9 hc26_e hc37_e), hf]) | (rw [if_neg (fr_seen hs9 hc37_e.1 hc37_e.2), hf, Nat.add_zero]) | (rw [if_neg (fr_no hc26_e), hf, Nat.add_zero])) (by first | exact seen_new hs9 hc26_e | exact seen_no hs9 (fun _ => ⟨_, hc37_e⟩) | exact seen_no hs9 (fun q => absurd q hc26_e)) hP hD hS hl
            · skip
              have hP : va_P (gD G) vC [(qd, .inr (1, [.ref d1])), (d1, aJ G 32 s9)] H := hP
              have hD : va_D A [(qd, .inr (1, [.ref d1])), (d1, aJ G 32 s9)] := hD
              refine lv_if_ne (tgt := 65) hx hb dD_nodesAt_40 rfl (fun h40 => (by revert h40; first | decide | exact fun z => absurd z (by decide) | exact fun z => z.elim (by decide))) (fun _ => ?_)
              refine lv_iload hx hb dD_nodesAt_43 (lv_at hl 5 rfl) ?_
              refine lv_aload_n hx hb dD_nodesAt_45 rfl (lv_at hl 1 rfl) ?_
              refine va_get (D := gD G) (ci := 1) (v := .ref d1) (C := "CircuitProver$Diagram") (T := TD) (N := 1) hx hb htb inD hown hK hP 0 rfl rfl 0 (by decide) (htb _ b183) (fun _ h9 => h9) rfl dD_nodesAt_46 ?_
              refine va_alen (v := nI 32) hx hb hK hP 1 3 rfl rfl rfl dD_nodesAt_49 ?_
              refine lv_icmp_ge (tgt := 65) hx hb dD_nodesAt_50 rfl (fun h50 => ?_) (fun h50 => ?_)
              · have h50 : 32 ≤ f := (nI_leI (a := 32) (b := f) (by omega) (by omega)).mp h50
                exfalso; omega
              · have h50 : f < 32 := Nat.lt_of_not_le (fun z => h50 ((nI_leI (a := 32) (b := f) (by omega) (by omega)).mpr z))
                refine lv_aload_n hx hb dD_nodesAt_53 rfl (lv_at hl 1 rfl) ?_
                refine va_get (D := gD G) (ci := 1) (v := .ref d1) (C := "CircuitProver$Diagram") (T := TD) (N := 1) hx hb htb inD hown hK hP 0 rfl rfl 0 (by decide) (htb _ b183) (fun _ h9 => h9) rfl dD_nodesAt_54 ?_
                refine lv_iload hx hb dD_nodesAt_57 (lv_at hl 5 rfl) ?_
                refine lv_lload hx hb dD_nodesAt_59 (lv_at hl 0 rfl) ?_
                refine k_last hx hb hK hP hD hS 1 rfl (k := f) (v := fz x z a) (by omega) (by decide) dD_nodesAt_61 (fun H locs hP hD hS => ?_)
                have hP : va_P (gD G) vC [(qd, .inr (1, [.ref d1])), (d1, aJ G 32 (va_up s9 f (fz x z a)))] H := hP
                have hD : va_D A [(qd, .inr (1, [.ref d1])), (d1, aJ G 32 (va_up s9 f (fz x z a)))] := hD
                refine lv_iinc (v := nI (f + 1)) (lv' := [(6, .int (nI (f + 1))), (8, .long (fz x z a)), (0, .ref qd), (1, .long x), (3, .int (nI j)), (4, .long z), (7, .int (nI a))]) hx hb dD_nodesAt_62 hl (k := 5) rfl (nI_add _ 1) (by decide) rfl (fun ls hl => ?_)
                refine lv_iinc (v := nI (a + 1)) (lv' := [(7, .int (nI (a + 1))), (6, .int (nI (f + 1))), (8, .long (fz x z a)), (0, .ref qd), (1, .long x), (3, .int (nI j)), (4, .long z)]) hx hb dD_nodesAt_65 hl (k := 6) rfl (nI_add _ 1) (by decide) rfl (fun ls hl => ?_)
                refine lv_goto (tgt := 6) hx hb dD_nodesAt_68 rfl ?_
                have hl : lv_has ls 10 [(0, .ref qd), (1, .long x), (3, .int (nI j)), (4, .long z), (6, .int (nI (f + 1))), (7, .int (nI (a + 1)))] := lv_sub hl [3, 4, 5, 6, 1, 0] rfl
                exact ih6 (f + 1) (a + 1) (va_up s9 f (fz x z a)) _ _ _ (by omega) (by omega) (by rw [cntP]; first | (rw [if_pos (fr_yes hs9 hc26_e hc37_e), hf]) | (rw [if_neg (fr_seen hs9 hc37_e.1 hc37_e.2), hf, Nat.add_zero]) | (rw [if_neg (fr_no hc26_e), hf, Nat.add_zero])) (by first | exact seen_new hs9 hc26_e | exact seen_no hs9 (fun _ => ⟨_, hc37_e⟩) | exact seen_no hs9 (fun q => absurd q hc26_e)) hP hD hS hl
          · skip
            have hP : va_P (gD G) vC [(qd, .inr (1, [.ref d1])), (d1, aJ G 32 s9)] H := hP
            have hD : va_D A [(qd, .inr (1, [.ref d1])), (d1, aJ G 32 s9)] := hD
            refine lv_if_eq (tgt := 65) hx hb dD_nodesAt_29 rfl (fun _ => ?_) (fun h29 => (by revert h29; first | decide | exact fun z => absurd z (by decide) | exact fun z => z.elim (by decide)))
            refine lv_iinc (v := nI (a + 1)) (lv' := [(7, .int (nI (a + 1))), (8, .long (fz x z a)), (0, .ref qd), (1, .long x), (3, .int (nI j)), (4, .long z), (6, .int (nI f))]) hx hb dD_nodesAt_65 hl (k := 6) rfl (nI_add _ 1) (by decide) rfl (fun ls hl => ?_)
            refine lv_goto (tgt := 6) hx hb dD_nodesAt_68 rfl ?_
            have hl : lv_has ls 10 [(0, .ref qd), (1, .long x), (3, .int (nI j)), (4, .long z), (6, .int (nI f)), (7, .int (nI (a + 1)))] := lv_sub hl [2, 3, 4, 5, 6, 0] rfl
            exact ih6 f (a + 1) s9 _ _ _ (by omega) (by omega) (by rw [cntP]; first | (rw [if_pos (fr_yes hs9 hc26_e hc37_e), hf]) | (rw [if_neg (fr_seen hs9 hc37_e.1 hc37_e.2), hf, Nat.add_zero]) | (rw [if_neg (fr_no hc26_e), hf, Nat.add_zero])) (by first | exact seen_new hs9 hc26_e | exact seen_no hs9 (fun _ => ⟨_, hc37_e⟩) | exact seen_no hs9 (fun q => absurd q hc26_e)) hP hD hS hl
    have hl : lv_has ls 10 [(0, .ref qd), (1, .long x), (3, .int (nI j)), (4, .long z), (6, .int (nI 0)), (7, .int (nI 0))] := lv_sub hl [2, 3, 4, 5, 1, 0] rfl
    exact loop6 (2 ^ j - 0 + 1) 0 0 se _ _ _ (by omega) (by omega) rfl seen_0 hP hD hS hl
  rw [hH, hlc] at hgo
  exact hgo
set_option maxRecDepth 100000 in
set_option maxHeartbeats 4000000 in
theorem k_D_nodes (l : Launch) (G : GG) (sz : Nat) (qd : Nat) (d1 : Nat) (se : Nat → Int64) (x : Int64) (la : Nat) (hla : la ≤ 6) : Ki l yD_nodes cD_nodes 8 .int 2 53 G [.ref qd, .long x, .int (nI la)] [(qd, .inr (1, [.ref d1])), (d1, aJ G 32 se)] sz (fun (r : Int32) (u : (Nat → Int64)) => (∃ (s9 : Nat → Int64), nI (it (fun j a => a + cntP (frB x (lz (2 ^ la) j) j) (2 ^ j)) la 0) = r ∧ s9 = u)) (fun (u : (Nat → Int64)) => [(qd, .inr (1, [.ref d1])), (d1, aJ G 32 u)]) := by
  refine Met.ofW (cc := cD_nodes) (maxL := 8) (ret := (some .int)) (by decide) rfl ?_
  intro p e s m args below meth c s₁ B hml hv
  obtain ⟨hav, hsz, hP, hK, hD0, hE⟩ := hv
  have hx := B.exec
  have hb := B.bytes
  have hr := B.returns
  have htb : ∀ w ∈ TB, w.before args s = true := fun w h => atoms_spec (ws := Cond.code yD_nodes cD_nodes 8 (some .int) :: TB) B.pre w (List.mem_cons_of_mem _ h)
  have hown : s.vm.findClass "CircuitProver$Diagram" = some m.cls := findClass_of_methodNamed B.named
  have hlocks := B.notSynchronized
  subst hsz
  have hD := hD0.self (sz := s.heap.size)
  clear hD0
  generalize hRm : (headSpec (Cond.code yD_nodes cD_nodes 8 (some .int) :: TB) { frames := 2, cells := 0, slots := 0, locals := 53 }).room = R
  have hRf : R.frames = 2 := by rw [← hRm]; rfl
  have hRl : R.locals = 53 := by rw [← hRm]; rfl
  have hRc : R.cells = 0 := by rw [← hRm]; rfl
  have hRs : R.slots = 0 := by rw [← hRm]; rfl
  clear hRm
  generalize hAe : va_A [(qd, .inr (1, [.ref d1])), (d1, aJ G 32 se)] s.heap.size = A at hD hE ⊢
  have hA : ∀ q : Nat, s.heap.size ≤ q → A q := fun q h => by rw [← hAe]; exact Or.inr h
  clear hAe
  have hS : va_S A s.heap s.heap [] := va_S.rf
  have hl := lv_entry ([.ref qd, .long x, .int (nI la)]) (n := 8) (Nat.le_of_ble_eq_true rfl)
  have hent := lg_entry_eq m ([.ref qd, .long x, .int (nI la)]) 8
  rw [← hav] at hent
  rw [hent]
  clear hent hav
  generalize (lg_sl ([.ref qd, .long x, .int (nI la)]) ++ List.replicate (8 - (lg_sl ([.ref qd, .long x, .int (nI la)])).length) Slot.unset).toArray = ls at hl ⊢
  have hl : lv_has ls 8 [(0, .ref qd), (1, .long x), (3, .int (nI la))] := hl
  generalize hQ : MQ below _ args s 0 0 _ = Q
  have hP : va_P (gD G) vC [(qd, .inr (1, [.ref d1])), (d1, aJ G 32 se)] s.heap := hP
  obtain ⟨H, hH⟩ : ∃ H : Heap, H = s.heap := ⟨_, rfl⟩
  obtain ⟨locs, hlc⟩ : ∃ L : List Loc, L = [] := ⟨_, rfl⟩
  have hS : va_S A s.heap H locs := by rw [hH, hlc]; exact hS
  have hP : va_P (gD G) vC [(qd, .inr (1, [.ref d1])), (d1, aJ G 32 se)] H := by rw [hH]; exact hP
  have hgo : W p l e R s m args below meth c H locs 0 0 Q (F0 m 0 ls []) := by
    clear hH hlc
    have hp := p2_le hla
    have hpp := Nat.two_pow_pos la
    refine lv_iconst (v := nI 0) hx hb dD_nodes_0 (by decide) ?_
    refine lv_istore (lv' := [(4, .int (nI 0)), (0, .ref qd), (1, .long x), (3, .int (nI la))]) hx hb dD_nodes_1 hl (by decide) rfl (fun ls hl => ?_)
    refine lv_ldc2 (v := (-1)) hx hb hown (htb _ b652) dD_nodes_3 ?_
    refine lv_bipush (v := nI 64) hx hb dD_nodes_6 (by decide) ?_
    refine lv_iconst (v := nI 1) hx hb dD_nodes_8 (by decide) ?_
    refine lv_iload_n hx hb dD_nodes_9 rfl (lv_at hl 3 rfl) ?_
    refine lv_ishl hx hb dD_nodes_10 ?_
    refine k_toi (y := nI (2 ^ la)) (sh1 (by omega)) ?_
    refine lv_isub hx hb dD_nodes_11 ?_
    refine k_toi (y := nI (64 - (2 ^ la))) (pk_sub (by omega)) ?_
    refine lv_lushr (v := su (-1) (64 - (2 ^ la))) hx hb dD_nodes_12 rfl ?_
    refine lv_lstore (lv' := [(5, .long (su (-1) (64 - (2 ^ la)))), (4, .int (nI 0)), (0, .ref qd), (1, .long x), (3, .int (nI la))]) hx hb dD_nodes_13 hl (by decide) rfl (fun ls hl => ?_)
    refine lv_iconst (v := nI 0) hx hb dD_nodes_15 (by decide) ?_
    refine lv_istore (lv' := [(7, .int (nI 0)), (5, .long (su (-1) (64 - (2 ^ la)))), (4, .int (nI 0)), (0, .ref qd), (1, .long x), (3, .int (nI la))]) hx hb dD_nodes_16 hl (by decide) rfl (fun ls hl => ?_)
    have loop18 : ∀ (n : Nat) (c9 : Nat) (z9 : Int64) (j : Nat) (s9 : Nat → Int64) (H : Heap) (locs : List Loc) (ls : Array Slot), la - j < n → (j ≤ la) → (c9 = it (fun j a => a + cntP (frB x (lz (2 ^ la) j) j) (2 ^ j)) j 0) → (z9 = lz (2 ^ la) j) → va_P (gD G) vC [(qd, .inr (1, [.ref d1])), (d1, aJ G 32 s9)] H → va_D A [(qd, .inr (1, [.ref d1])), (d1, aJ G 32 s9)] → va_S A s.heap H locs → lv_has ls 8 [(0, .ref qd), (1, .long x), (3, .int (nI la)), (4, .int (nI c9)), (5, .long z9), (7, .int (nI j))] → W p l e R s m args below meth c H locs 0 0 Q (F0 m 18 ls []) := by
      intro n
      induction n with
      | zero => intro c9 z9 j s9 H locs ls hmu; omega
      | succ n ih =>
        intro c9 z9 j s9 H locs ls hmu hj hc hz9 hP hD hS hl
        have ih18 := ih
        clear ih
        refine lv_iload hx hb dD_nodes_18 (lv_at hl 5 rfl) ?_
        refine lv_iload_n hx hb dD_nodes_20 rfl (lv_at hl 2 rfl) ?_
        refine lv_icmp_ge (tgt := 59) hx hb dD_nodes_21 rfl (fun h21 => ?_) (fun h21 => ?_)
        · have h21 : la ≤ j := (nI_leI (a := la) (b := j) (by omega) (by omega)).mp h21
          refine lv_iload hx hb dD_nodes_59 (lv_at hl 3 rfl) ?_
          -- end 0
          rw [← hQ]
          exact k_iret hx hb hr hlocks rfl (u := s9) (⟨s9, by rw [hc, show j = la by omega], rfl⟩) hP hD hK hS dD_nodes_61
        · have h21 : j < la := Nat.lt_of_not_le (fun z => h21 ((nI_leI (a := la) (b := j) (by omega) (by omega)).mpr z))
          refine lv_iload hx hb dD_nodes_24 (lv_at hl 3 rfl) ?_
          refine lv_aload_n hx hb dD_nodes_26 rfl (lv_at hl 0 rfl) ?_
          refine lv_lload_n hx hb dD_nodes_27 rfl (lv_at hl 1 rfl) ?_
          refine lv_iload hx hb dD_nodes_28 (lv_at hl 5 rfl) ?_
          refine lv_lload hx hb dD_nodes_30 (lv_at hl 4 rfl) ?_
          refine k_i (ws2 := fun u => [(qd, .inr (1, [.ref d1])), (d1, aJ G 32 (u))]) (wr := []) (k_runV (n := 3) (As := [.long x, .int (nI j), .long z9]) (rest := [.int (nI c9)]) hx hb hml hown htb hP hD hK hS hA hE (k_D_nodesAt l G H.size qd d1 s9 x j z9 (show j < 6 from by omega)) b653 b655 s27 b6 b656 (by decide +kernel) rfl rfl ⟨by rw [hRf]; exact Nat.le_of_ble_eq_true rfl, by rw [hRl]; exact Nat.le_of_ble_eq_true rfl⟩ [0, 1] rfl (by decide) 0 rfl rfl rfl rfl hl.1 rfl (Nat.le_of_ble_eq_true rfl) dD_nodes_32 ⟨Nat.zero_le _, Nat.zero_le _⟩) hP hD hS hA [0, 1] [] [0, 1] rfl rfl (by decide) (by decide) (fun u => rfl) (by decide) (fun r u H locs hw hP hD hS => ?_)
          obtain ⟨s932, rfl, rfl⟩ := hw
          have hP : va_P (gD G) vC [(qd, .inr (1, [.ref d1])), (d1, aJ G 32 s932)] H := hP
          have hD : va_D A [(qd, .inr (1, [.ref d1])), (d1, aJ G 32 s932)] := hD
          refine lv_iadd hx hb dD_nodes_35 ?_
          refine k_toi (y := nI (c9 + (cntP (frB x z9 j) (2 ^ j)))) (nI_add _ _) ?_
          refine lv_istore (lv' := [(4, .int (nI (c9 + (cntP (frB x z9 j) (2 ^ j))))), (0, .ref qd), (1, .long x), (3, .int (nI la)), (5, .long z9), (7, .int (nI j))]) hx hb dD_nodes_36 hl (by decide) rfl (fun ls hl => ?_)
          refine lv_lload hx hb dD_nodes_38 (lv_at hl 4 rfl) ?_
          obtain ⟨tq, hZ, hT⟩ := hE.2.1
          refine va_getsN hx hb hZ hS hown (va_Nw.use rfl (hE.nw n660)) (fun _ h9 => h9) dD_nodes_40 ?_
          refine lv_iload hx hb dD_nodes_43 (lv_at hl 5 rfl) ?_
          refine va_tl (v := .long (L1 j)) hx hb hT hS (vp_in_nI (show j < 6 by omega) (by decide)) (by rw [nI_clamp (by omega)]) dD_nodes_45 ?_
          refine lv_ldc2 (v := (-1)) hx hb hown (htb _ b652) dD_nodes_46 ?_
          refine lv_lxor hx hb dD_nodes_49 ?_
          refine lv_land hx hb dD_nodes_50 ?_
          refine lv_lstore (lv' := [(5, .long (z9 &&& ((L1 j) ^^^ (-1)))), (4, .int (nI (c9 + (cntP (frB x z9 j) (2 ^ j))))), (0, .ref qd), (1, .long x), (3, .int (nI la)), (7, .int (nI j))]) hx hb dD_nodes_51 hl (by decide) rfl (fun ls hl => ?_)
          refine lv_iinc (v := nI (j + 1)) (lv' := [(7, .int (nI (j + 1))), (5, .long (z9 &&& ((L1 j) ^^^ (-1)))), (4, .int (nI (c9 + (cntP (frB x z9 j) (2 ^ j))))), (0, .ref qd), (1, .long x), (3, .int (nI la))]) hx hb dD_nodes_53 hl (k := 5) rfl (nI_add _ 1) (by decide) rfl (fun ls hl => ?_)
          refine lv_goto (tgt := 18) hx hb dD_nodes_56 rfl ?_
          have hl : lv_has ls 8 [(0, .ref qd), (1, .long x), (3, .int (nI la)), (4, .int (nI (c9 + (cntP (frB x z9 j) (2 ^ j))))), (5, .long (z9 &&& ((L1 j) ^^^ (-1)))), (7, .int (nI (j + 1)))] := lv_sub hl [3, 4, 5, 2, 1, 0] rfl
          exact ih18 (c9 + (cntP (frB x z9 j) (2 ^ j))) (z9 &&& ((L1 j) ^^^ (-1))) (j + 1) s932 _ _ _ (by omega) (by omega) (by rw [it_s, ← hc, hz9]) (by rw [hz9]; rfl) hP hD hS hl
    have hl : lv_has ls 8 [(0, .ref qd), (1, .long x), (3, .int (nI la)), (4, .int (nI 0)), (5, .long (su (-1) (64 - (2 ^ la)))), (7, .int (nI 0))] := lv_sub hl [3, 4, 5, 2, 1, 0] rfl
    exact loop18 (la - 0 + 1) 0 (su (-1) (64 - (2 ^ la))) 0 se _ _ _ (by omega) (by omega) rfl rfl hP hD hS hl
  rw [hH, hlc] at hgo
  exact hgo
