/-- the circuit's machine: values, where one goes, where the output is 1 -/
def val (T : Nat → Nat) (s i x : Nat) : Bool := litV (evM T (fun _ => false) s i) x
def nxT (T : Nat → Nat) (s i : Nat) : Nat := it (fun k a => if val T s i (xla T k 1) = true then a ||| 2 ^ k else a) (hd T 2) 0
def bdT (T : Nat → Nat) (s i : Nat) : Bool := val T s i (xou T 0)
def nxC (kn : Nat → Int64) (la s i : Nat) : Nat := it (fun j a => if lb (kn (i * 6 + j)) s = true then a ||| 2 ^ j else a) la 0
theorem or_it_lt (c : Nat → Prop) [∀ j, Decidable (c j)] (n : Nat) : it (fun j a => if c j then a ||| 2 ^ j else a) n 0 < 2 ^ n := by
  induction n with
  | zero => exact Nat.one_pos
  | succ n ih =>
    rw [it_s]
    have h1 : 2 ^ n < 2 ^ (n + 1) := Nat.pow_lt_pow_right (by decide) (by omega)
    by_cases h : c n
    · rw [if_pos h]; exact Nat.or_lt_two_pow (by omega) h1
    · rw [if_neg h]; omega
theorem nxC_lt (kn : Nat → Int64) (la s i : Nat) : nxC kn la s i < 2 ^ la := or_it_lt (fun j => lb (kn (i * 6 + j)) s = true) la
theorem nxT_lt (T : Nat → Nat) (s i : Nat) : nxT T s i < 2 ^ hd T 2 := or_it_lt (fun k => val T s i (xla T k 1) = true) (hd T 2)
theorem it_lt6 {c : Nat → Prop} [∀ j, Decidable (c j)] {n : Nat} (h : n ≤ 6) : it (fun j a => if c j then a ||| 2 ^ j else a) n 0 < 64 := by
  have h1 := or_it_lt c n
  have h2 := p2_le h
  omega
theorem p1_le {a : Nat} (h : a ≤ 3) : 2 ^ a ≤ 8 := by
  have : 2 ^ a ≤ 2 ^ 3 := Nat.pow_le_pow_right (by decide) h
  omega
theorem aft_congr {D s : Nat} {f g : Nat → Nat → Nat} (h : ∀ i, i < D → f s i = g s i) : aftOf D f s = aftOf D g s := it_congr (fun i hi a => by rw [h i hi]) 0
theorem nx_val {T : Nat → Nat} {kn : Nat → Int64} {s i : Nat} (h : ∀ j, j < hd T 2 → lb (kn (i * 6 + j)) s = val T s i (xla T j 1)) : nxC kn (hd T 2) s i = nxT T s i := it_congr (fun j hj a => by rw [h j hj]) 0
theorem bad_val {T : Nat → Nat} {kb : Int64} {S D : Nat} (hS : S ≤ 64) (h : ∀ s, s < 64 → lb kb s = anyN (fun a => val T s a (xou T 0) && decide (s < S)) D) : kb = badOf S D (bdT T) := by
  apply lb_iff
  intro t ht
  rw [bad_iff hS ht, h t ht, anyN_iff]
  constructor
  · rintro ⟨i, hi, h1⟩
    rw [Bool.and_eq_true, decide_eq_true_eq] at h1
    exact ⟨h1.2, i, hi, h1.1⟩
  · rintro ⟨h2, i, hi, h1⟩
    refine ⟨i, hi, ?_⟩
    rw [Bool.and_eq_true, decide_eq_true_eq]
    exact ⟨h1, h2⟩
theorem lb_all {S s : Nat} (hS : S ≤ 64) (h1 : 1 ≤ S) (hs : s < 64) : lb (su (-1) (64 - S)) s = decide (s < S) := by
  rw [lb_su _ (by omega)]
  rcases Nat.lt_or_ge s S with h | h
  · rw [lb_m1 _ (by omega), decide_eq_true h]
  · rw [lb_big (by omega), decide_eq_false (by omega)]
set_option maxRecDepth 100000 in
set_option maxHeartbeats 4000000 in
theorem k_K_isState (l : Launch) (G : GG) (sz : Nat) (qk : Nat) (k1 : Nat) (k2 : Nat) (k3 : Nat) (k4 : Nat) (la : Nat) (ss : Nat) (ii : Nat) (ks : Nat) (kb : Int64) (x : Int32) (hz : ss ≤ 64) : Ki l yK_isState cK_isState 2 .boolean 0 0 G [.ref qk, .int x] [(qk, .inr (2, [.ref k1, .int (nI la), .int (nI ss), .int (nI ii), .int (nI ks), .ref k2, .ref k3, .ref k4, .long kb]))] sz (fun (r : Int32) (u : Unit) => (∃ (j : Nat), (j < ss ∧ x = nI j) ∧ nI 1 = r ∧ () = u) ∨ ((∀ j, j < ss → ¬ x = nI j) ∧ nI 0 = r ∧ () = u)) (fun (u : Unit) => [(qk, .inr (2, [.ref k1, .int (nI la), .int (nI ss), .int (nI ii), .int (nI ks), .ref k2, .ref k3, .ref k4, .long kb]))]) := by
  refine Met.ofW (cc := cK_isState) (maxL := 2) (ret := (some .boolean)) (by decide) rfl ?_
  intro p e s m args below meth c s₁ B hml hv
  obtain ⟨hav, hsz, hP, hK, hD0, hE⟩ := hv
  have hx := B.exec
  have hb := B.bytes
  have hr := B.returns
  have htb : ∀ w ∈ TB, w.before args s = true := fun w h => atoms_spec (ws := Cond.code yK_isState cK_isState 2 (some .boolean) :: TB) B.pre w (List.mem_cons_of_mem _ h)
  have hown : s.vm.findClass "CircuitProver$Machine" = some m.cls := findClass_of_methodNamed B.named
  have hlocks := B.notSynchronized
  subst hsz
  have hD := hD0.self (sz := s.heap.size)
  clear hD0
  generalize hRm : (headSpec (Cond.code yK_isState cK_isState 2 (some .boolean) :: TB) { frames := 0, cells := 0, slots := 0, locals := 0 }).room = R
  have hRf : R.frames = 0 := by rw [← hRm]; rfl
  have hRl : R.locals = 0 := by rw [← hRm]; rfl
  have hRc : R.cells = 0 := by rw [← hRm]; rfl
  have hRs : R.slots = 0 := by rw [← hRm]; rfl
  clear hRm
  generalize hAe : va_A [(qk, .inr (2, [.ref k1, .int (nI la), .int (nI ss), .int (nI ii), .int (nI ks), .ref k2, .ref k3, .ref k4, .long kb]))] s.heap.size = A at hD hE ⊢
  have hA : ∀ q : Nat, s.heap.size ≤ q → A q := fun q h => by rw [← hAe]; exact Or.inr h
  clear hAe
  have hS : va_S A s.heap s.heap [] := va_S.rf
  have hl := lv_entry ([.ref qk, .int x]) (n := 2) (Nat.le_of_ble_eq_true rfl)
  have hent := lg_entry_eq m ([.ref qk, .int x]) 2
  rw [← hav] at hent
  rw [hent]
  clear hent hav
  generalize (lg_sl ([.ref qk, .int x]) ++ List.replicate (2 - (lg_sl ([.ref qk, .int x])).length) Slot.unset).toArray = ls at hl ⊢
  have hl : lv_has ls 2 [(0, .ref qk), (1, .int x)] := hl
  generalize hQ : MQ below _ args s 0 0 _ = Q
  have hP : va_P (gD G) vC [(qk, .inr (2, [.ref k1, .int (nI la), .int (nI ss), .int (nI ii), .int (nI ks), .ref k2, .ref k3, .ref k4, .long kb]))] s.heap := hP
  obtain ⟨H, hH⟩ : ∃ H : Heap, H = s.heap := ⟨_, rfl⟩
  obtain ⟨locs, hlc⟩ : ∃ L : List Loc, L = [] := ⟨_, rfl⟩
  have hS : va_S A s.heap H locs := by rw [hH, hlc]; exact hS
  have hP : va_P (gD G) vC [(qk, .inr (2, [.ref k1, .int (nI la), .int (nI ss), .int (nI ii), .int (nI ks), .ref k2, .ref k3, .ref k4, .long kb]))] H := by rw [hH]; exact hP
  have hgo : W p l e R s m args below meth c H locs 0 0 Q (F0 m 0 ls []) := by
    clear hH hlc
    refine lv_iload_n hx hb dK_isState_0 rfl (lv_at hl 1 rfl) ?_
    refine lv_if_lt (tgt := 16) hx hb dK_isState_1 rfl (fun h1 => ?_) (fun h1 => ?_)
    · skip
      refine lv_iconst (v := nI 0) hx hb dK_isState_16 (by decide) ?_
      -- end 0
      rw [← hQ]
      exact k_iret hx hb hr hlocks (by decide) (u := ()) (Or.inr ⟨fun j hj e9 => by rw [e9] at h1; exact nI_pos (by omega) h1, rfl, rfl⟩) hP hD hK hS dK_isState_17
    · skip
      refine lv_iload_n hx hb dK_isState_4 rfl (lv_at hl 1 rfl) ?_
      refine lv_aload_n hx hb dK_isState_5 rfl (lv_at hl 0 rfl) ?_
      refine va_get (D := gD G) (ci := 2) (v := .int (nI ss)) (C := "CircuitProver$Machine") (T := TK) (N := 9) hx hb htb inK hown hK hP 0 rfl rfl 2 (by decide) (htb _ b109) (fun _ h9 => h9) rfl dK_isState_6 ?_
      refine lv_icmp_ge (tgt := 16) hx hb dK_isState_9 rfl (fun h9 => ?_) (fun h9 => ?_)
      · skip
        refine lv_iconst (v := nI 0) hx hb dK_isState_16 (by decide) ?_
        -- end 1
        rw [← hQ]
        exact k_iret hx hb hr hlocks (by decide) (u := ()) (Or.inr ⟨fun j hj e9 => by rw [e9] at h9; exact nI_ge hj (by omega) h9, rfl, rfl⟩) hP hD hK hS dK_isState_17
      · skip
        refine lv_iconst (v := nI 1) hx hb dK_isState_12 (by decide) ?_
        refine lv_goto (tgt := 17) hx hb dK_isState_13 rfl ?_
        -- end 2
        rw [← hQ]
        exact k_iret hx hb hr hlocks (by decide) (u := ()) (Or.inl (by rcases pk_ix x (n := ss) (by omega) with h | h | ⟨j, hj, e9⟩; (exact absurd h h1); (exact absurd h h9); exact ⟨j, ⟨hj, e9⟩, rfl, rfl⟩)) hP hD hK hS dK_isState_17
  rw [hH, hlc] at hgo
  exact hgo
set_option maxRecDepth 100000 in
set_option maxHeartbeats 4000000 in
theorem k_K_isInput (l : Launch) (G : GG) (sz : Nat) (qk : Nat) (k1 : Nat) (k2 : Nat) (k3 : Nat) (k4 : Nat) (la : Nat) (ss : Nat) (ii : Nat) (ks : Nat) (kb : Int64) (x : Int32) (hz : ii ≤ 64) : Ki l yK_isInput cK_isInput 2 .boolean 0 0 G [.ref qk, .int x] [(qk, .inr (2, [.ref k1, .int (nI la), .int (nI ss), .int (nI ii), .int (nI ks), .ref k2, .ref k3, .ref k4, .long kb]))] sz (fun (r : Int32) (u : Unit) => (∃ (j : Nat), (j < ii ∧ x = nI j) ∧ nI 1 = r ∧ () = u) ∨ ((∀ j, j < ii → ¬ x = nI j) ∧ nI 0 = r ∧ () = u)) (fun (u : Unit) => [(qk, .inr (2, [.ref k1, .int (nI la), .int (nI ss), .int (nI ii), .int (nI ks), .ref k2, .ref k3, .ref k4, .long kb]))]) := by
  refine Met.ofW (cc := cK_isInput) (maxL := 2) (ret := (some .boolean)) (by decide) rfl ?_
  intro p e s m args below meth c s₁ B hml hv
  obtain ⟨hav, hsz, hP, hK, hD0, hE⟩ := hv
  have hx := B.exec
  have hb := B.bytes
  have hr := B.returns
  have htb : ∀ w ∈ TB, w.before args s = true := fun w h => atoms_spec (ws := Cond.code yK_isInput cK_isInput 2 (some .boolean) :: TB) B.pre w (List.mem_cons_of_mem _ h)
  have hown : s.vm.findClass "CircuitProver$Machine" = some m.cls := findClass_of_methodNamed B.named
  have hlocks := B.notSynchronized
  subst hsz
  have hD := hD0.self (sz := s.heap.size)
  clear hD0
  generalize hRm : (headSpec (Cond.code yK_isInput cK_isInput 2 (some .boolean) :: TB) { frames := 0, cells := 0, slots := 0, locals := 0 }).room = R
  have hRf : R.frames = 0 := by rw [← hRm]; rfl
  have hRl : R.locals = 0 := by rw [← hRm]; rfl
  have hRc : R.cells = 0 := by rw [← hRm]; rfl
  have hRs : R.slots = 0 := by rw [← hRm]; rfl
  clear hRm
  generalize hAe : va_A [(qk, .inr (2, [.ref k1, .int (nI la), .int (nI ss), .int (nI ii), .int (nI ks), .ref k2, .ref k3, .ref k4, .long kb]))] s.heap.size = A at hD hE ⊢
  have hA : ∀ q : Nat, s.heap.size ≤ q → A q := fun q h => by rw [← hAe]; exact Or.inr h
  clear hAe
  have hS : va_S A s.heap s.heap [] := va_S.rf
  have hl := lv_entry ([.ref qk, .int x]) (n := 2) (Nat.le_of_ble_eq_true rfl)
  have hent := lg_entry_eq m ([.ref qk, .int x]) 2
  rw [← hav] at hent
  rw [hent]
  clear hent hav
  generalize (lg_sl ([.ref qk, .int x]) ++ List.replicate (2 - (lg_sl ([.ref qk, .int x])).length) Slot.unset).toArray = ls at hl ⊢
  have hl : lv_has ls 2 [(0, .ref qk), (1, .int x)] := hl
  generalize hQ : MQ below _ args s 0 0 _ = Q
  have hP : va_P (gD G) vC [(qk, .inr (2, [.ref k1, .int (nI la), .int (nI ss), .int (nI ii), .int (nI ks), .ref k2, .ref k3, .ref k4, .long kb]))] s.heap := hP
  obtain ⟨H, hH⟩ : ∃ H : Heap, H = s.heap := ⟨_, rfl⟩
  obtain ⟨locs, hlc⟩ : ∃ L : List Loc, L = [] := ⟨_, rfl⟩
  have hS : va_S A s.heap H locs := by rw [hH, hlc]; exact hS
  have hP : va_P (gD G) vC [(qk, .inr (2, [.ref k1, .int (nI la), .int (nI ss), .int (nI ii), .int (nI ks), .ref k2, .ref k3, .ref k4, .long kb]))] H := by rw [hH]; exact hP
  have hgo : W p l e R s m args below meth c H locs 0 0 Q (F0 m 0 ls []) := by
    clear hH hlc
    refine lv_iload_n hx hb dK_isInput_0 rfl (lv_at hl 1 rfl) ?_
    refine lv_if_lt (tgt := 16) hx hb dK_isInput_1 rfl (fun h1 => ?_) (fun h1 => ?_)
    · skip
      refine lv_iconst (v := nI 0) hx hb dK_isInput_16 (by decide) ?_
      -- end 0
      rw [← hQ]
      exact k_iret hx hb hr hlocks (by decide) (u := ()) (Or.inr ⟨fun j hj e9 => by rw [e9] at h1; exact nI_pos (by omega) h1, rfl, rfl⟩) hP hD hK hS dK_isInput_17
    · skip
      refine lv_iload_n hx hb dK_isInput_4 rfl (lv_at hl 1 rfl) ?_
      refine lv_aload_n hx hb dK_isInput_5 rfl (lv_at hl 0 rfl) ?_
      refine va_get (D := gD G) (ci := 2) (v := .int (nI ii)) (C := "CircuitProver$Machine") (T := TK) (N := 9) hx hb htb inK hown hK hP 0 rfl rfl 3 (by decide) (htb _ b110) (fun _ h9 => h9) rfl dK_isInput_6 ?_
      refine lv_icmp_ge (tgt := 16) hx hb dK_isInput_9 rfl (fun h9 => ?_) (fun h9 => ?_)
      · skip
        refine lv_iconst (v := nI 0) hx hb dK_isInput_16 (by decide) ?_
        -- end 1
        rw [← hQ]
        exact k_iret hx hb hr hlocks (by decide) (u := ()) (Or.inr ⟨fun j hj e9 => by rw [e9] at h9; exact nI_ge hj (by omega) h9, rfl, rfl⟩) hP hD hK hS dK_isInput_17
      · skip
        refine lv_iconst (v := nI 1) hx hb dK_isInput_12 (by decide) ?_
        refine lv_goto (tgt := 17) hx hb dK_isInput_13 rfl ?_
        -- end 2
        rw [← hQ]
        exact k_iret hx hb hr hlocks (by decide) (u := ()) (Or.inl (by rcases pk_ix x (n := ii) (by omega) with h | h | ⟨j, hj, e9⟩; (exact absurd h h1); (exact absurd h h9); exact ⟨j, ⟨hj, e9⟩, rfl, rfl⟩)) hP hD hK hS dK_isInput_17
  rw [hH, hlc] at hgo
  exact hgo
set_option maxRecDepth 100000 in
set_option maxHeartbeats 4000000 in
theorem k_K_allStates (l : Launch) (G : GG) (sz : Nat) (qk : Nat) (k1 : Nat) (k2 : Nat) (k3 : Nat) (k4 : Nat) (la : Nat) (ss : Nat) (ii : Nat) (ks : Nat) (kb : Int64) (hz : ss ≤ 64) : Kl l yK_allStates cK_allStates 1 0 0 G [.ref qk] [(qk, .inr (2, [.ref k1, .int (nI la), .int (nI ss), .int (nI ii), .int (nI ks), .ref k2, .ref k3, .ref k4, .long kb]))] sz (fun (r : Int64) (u : Unit) => (su (-1) (64 - ss) = r ∧ () = u)) (fun (u : Unit) => [(qk, .inr (2, [.ref k1, .int (nI la), .int (nI ss), .int (nI ii), .int (nI ks), .ref k2, .ref k3, .ref k4, .long kb]))]) := by
  refine Met.ofW (cc := cK_allStates) (maxL := 1) (ret := (some .long)) (by decide) rfl ?_
  intro p e s m args below meth c s₁ B hml hv
  obtain ⟨hav, hsz, hP, hK, hD0, hE⟩ := hv
  have hx := B.exec
  have hb := B.bytes
  have hr := B.returns
  have htb : ∀ w ∈ TB, w.before args s = true := fun w h => atoms_spec (ws := Cond.code yK_allStates cK_allStates 1 (some .long) :: TB) B.pre w (List.mem_cons_of_mem _ h)
  have hown : s.vm.findClass "CircuitProver$Machine" = some m.cls := findClass_of_methodNamed B.named
  have hlocks := B.notSynchronized
  subst hsz
  have hD := hD0.self (sz := s.heap.size)
  clear hD0
  generalize hRm : (headSpec (Cond.code yK_allStates cK_allStates 1 (some .long) :: TB) { frames := 0, cells := 0, slots := 0, locals := 0 }).room = R
  have hRf : R.frames = 0 := by rw [← hRm]; rfl
  have hRl : R.locals = 0 := by rw [← hRm]; rfl
  have hRc : R.cells = 0 := by rw [← hRm]; rfl
  have hRs : R.slots = 0 := by rw [← hRm]; rfl
  clear hRm
  generalize hAe : va_A [(qk, .inr (2, [.ref k1, .int (nI la), .int (nI ss), .int (nI ii), .int (nI ks), .ref k2, .ref k3, .ref k4, .long kb]))] s.heap.size = A at hD hE ⊢
  have hA : ∀ q : Nat, s.heap.size ≤ q → A q := fun q h => by rw [← hAe]; exact Or.inr h
  clear hAe
  have hS : va_S A s.heap s.heap [] := va_S.rf
  have hl := lv_entry ([.ref qk]) (n := 1) (Nat.le_of_ble_eq_true rfl)
  have hent := lg_entry_eq m ([.ref qk]) 1
  rw [← hav] at hent
  rw [hent]
  clear hent hav
  generalize (lg_sl ([.ref qk]) ++ List.replicate (1 - (lg_sl ([.ref qk])).length) Slot.unset).toArray = ls at hl ⊢
  have hl : lv_has ls 1 [(0, .ref qk)] := hl
  generalize hQ : MQ below _ args s 0 0 _ = Q
  have hP : va_P (gD G) vC [(qk, .inr (2, [.ref k1, .int (nI la), .int (nI ss), .int (nI ii), .int (nI ks), .ref k2, .ref k3, .ref k4, .long kb]))] s.heap := hP
  obtain ⟨H, hH⟩ : ∃ H : Heap, H = s.heap := ⟨_, rfl⟩
  obtain ⟨locs, hlc⟩ : ∃ L : List Loc, L = [] := ⟨_, rfl⟩
  have hS : va_S A s.heap H locs := by rw [hH, hlc]; exact hS
  have hP : va_P (gD G) vC [(qk, .inr (2, [.ref k1, .int (nI la), .int (nI ss), .int (nI ii), .int (nI ks), .ref k2, .ref k3, .ref k4, .long kb]))] H := by rw [hH]; exact hP
  have hgo : W p l e R s m args below meth c H locs 0 0 Q (F0 m 0 ls []) := by
    clear hH hlc
    refine lv_ldc2 (v := (-1)) hx hb hown (htb _ b425) dK_allStates_0 ?_
    refine lv_bipush (v := nI 64) hx hb dK_allStates_3 (by decide) ?_
    refine lv_aload_n hx hb dK_allStates_5 rfl (lv_at hl 0 rfl) ?_
    refine va_get (D := gD G) (ci := 2) (v := .int (nI ss)) (C := "CircuitProver$Machine") (T := TK) (N := 9) hx hb htb inK hown hK hP 0 rfl rfl 2 (by decide) (htb _ b109) (fun _ h9 => h9) rfl dK_allStates_6 ?_
    refine lv_isub hx hb dK_allStates_9 ?_
    refine k_toi (y := nI (64 - ss)) (pk_sub (by omega)) ?_
    refine lv_lushr (v := su (-1) (64 - ss)) hx hb dK_allStates_10 rfl ?_
    -- end 0
    rw [← hQ]
    exact k_lret hx hb hr hlocks (u := ()) (⟨rfl, rfl⟩) hP hD hK hS dK_allStates_11
  rw [hH, hlc] at hgo
  exact hgo
set_option maxRecDepth 100000 in
set_option maxHeartbeats 4000000 in
theorem k_K_next (l : Launch) (G : GG) (sz : Nat) (qk : Nat) (k1 : Nat) (k2 : Nat) (k3 : Nat) (k4 : Nat) (la : Nat) (ss : Nat) (ii : Nat) (ks : Nat) (kb : Int64) (kn : Nat → Int64) (sx : Nat) (i : Nat) (hla : la ≤ 6) (hi : i < 8) (hsx : sx < 64) : Ki l yK_next cK_next 5 .int 1 22 G [.ref qk, .int (nI sx), .int (nI i)] [(qk, .inr (2, [.ref k1, .int (nI la), .int (nI ss), .int (nI ii), .int (nI ks), .ref k2, .ref k3, .ref k4, .long kb])), (k2, aJ G 48 kn)] sz (fun (r : Int32) (u : Unit) => (nI (nxC kn la sx i) = r ∧ () = u)) (fun (u : Unit) => [(qk, .inr (2, [.ref k1, .int (nI la), .int (nI ss), .int (nI ii), .int (nI ks), .ref k2, .ref k3, .ref k4, .long kb])), (k2, aJ G 48 kn)]) := by
  refine Met.ofW (cc := cK_next) (maxL := 5) (ret := (some .int)) (by decide) rfl ?_
  intro p e s m args below meth c s₁ B hml hv
  obtain ⟨hav, hsz, hP, hK, hD0, hE⟩ := hv
  have hx := B.exec
  have hb := B.bytes
  have hr := B.returns
  have htb : ∀ w ∈ TB, w.before args s = true := fun w h => atoms_spec (ws := Cond.code yK_next cK_next 5 (some .int) :: TB) B.pre w (List.mem_cons_of_mem _ h)
  have hown : s.vm.findClass "CircuitProver$Machine" = some m.cls := findClass_of_methodNamed B.named
  have hlocks := B.notSynchronized
  subst hsz
  have hD := hD0.self (sz := s.heap.size)
  clear hD0
  generalize hRm : (headSpec (Cond.code yK_next cK_next 5 (some .int) :: TB) { frames := 1, cells := 0, slots := 0, locals := 22 }).room = R
  have hRf : R.frames = 1 := by rw [← hRm]; rfl
  have hRl : R.locals = 22 := by rw [← hRm]; rfl
  have hRc : R.cells = 0 := by rw [← hRm]; rfl
  have hRs : R.slots = 0 := by rw [← hRm]; rfl
  clear hRm
  generalize hAe : va_A [(qk, .inr (2, [.ref k1, .int (nI la), .int (nI ss), .int (nI ii), .int (nI ks), .ref k2, .ref k3, .ref k4, .long kb])), (k2, aJ G 48 kn)] s.heap.size = A at hD hE ⊢
  have hA : ∀ q : Nat, s.heap.size ≤ q → A q := fun q h => by rw [← hAe]; exact Or.inr h
  clear hAe
  have hS : va_S A s.heap s.heap [] := va_S.rf
  have hl := lv_entry ([.ref qk, .int (nI sx), .int (nI i)]) (n := 5) (Nat.le_of_ble_eq_true rfl)
  have hent := lg_entry_eq m ([.ref qk, .int (nI sx), .int (nI i)]) 5
  rw [← hav] at hent
  rw [hent]
  clear hent hav
  generalize (lg_sl ([.ref qk, .int (nI sx), .int (nI i)]) ++ List.replicate (5 - (lg_sl ([.ref qk, .int (nI sx), .int (nI i)])).length) Slot.unset).toArray = ls at hl ⊢
  have hl : lv_has ls 5 [(0, .ref qk), (1, .int (nI sx)), (2, .int (nI i))] := hl
  generalize hQ : MQ below _ args s 0 0 _ = Q
  have hP : va_P (gD G) vC [(qk, .inr (2, [.ref k1, .int (nI la), .int (nI ss), .int (nI ii), .int (nI ks), .ref k2, .ref k3, .ref k4, .long kb])), (k2, aJ G 48 kn)] s.heap := hP
  obtain ⟨H, hH⟩ : ∃ H : Heap, H = s.heap := ⟨_, rfl⟩
  obtain ⟨locs, hlc⟩ : ∃ L : List Loc, L = [] := ⟨_, rfl⟩
  have hS : va_S A s.heap H locs := by rw [hH, hlc]; exact hS
  have hP : va_P (gD G) vC [(qk, .inr (2, [.ref k1, .int (nI la), .int (nI ss), .int (nI ii), .int (nI ks), .ref k2, .ref k3, .ref k4, .long kb])), (k2, aJ G 48 kn)] H := by rw [hH]; exact hP
  have hgo : W p l e R s m args below meth c H locs 0 0 Q (F0 m 0 ls []) := by
    clear hH hlc
    refine lv_iconst (v := nI 0) hx hb dK_next_0 (by decide) ?_
    refine lv_istore_n (lv' := [(3, .int (nI 0)), (0, .ref qk), (1, .int (nI sx)), (2, .int (nI i))]) hx hb dK_next_1 rfl hl (by decide) rfl (fun ls hl => ?_)
    refine lv_iconst (v := nI 0) hx hb dK_next_2 (by decide) ?_
    refine lv_istore (lv' := [(4, .int (nI 0)), (3, .int (nI 0)), (0, .ref qk), (1, .int (nI sx)), (2, .int (nI i))]) hx hb dK_next_3 hl (by decide) rfl (fun ls hl => ?_)
    have loop5 : ∀ (n : Nat) (t : Nat) (j : Nat) (H : Heap) (locs : List Loc) (ls : Array Slot), la - j < n → (j ≤ la) → (t = it (fun j a => if lb (kn (i * 6 + j)) sx = true then a ||| 2 ^ j else a) j 0) → va_P (gD G) vC [(qk, .inr (2, [.ref k1, .int (nI la), .int (nI ss), .int (nI ii), .int (nI ks), .ref k2, .ref k3, .ref k4, .long kb])), (k2, aJ G 48 kn)] H → va_D A [(qk, .inr (2, [.ref k1, .int (nI la), .int (nI ss), .int (nI ii), .int (nI ks), .ref k2, .ref k3, .ref k4, .long kb])), (k2, aJ G 48 kn)] → va_S A s.heap H locs → lv_has ls 5 [(0, .ref qk), (1, .int (nI sx)), (2, .int (nI i)), (3, .int (nI t)), (4, .int (nI j))] → W p l e R s m args below meth c H locs 0 0 Q (F0 m 5 ls []) := by
      intro n
      induction n with
      | zero => intro t j H locs ls hmu; omega
      | succ n ih =>
        intro t j H locs ls hmu hj ht hP hD hS hl
        have ih5 := ih
        clear ih
        refine lv_iload hx hb dK_next_5 (lv_at hl 4 rfl) ?_
        refine lv_aload_n hx hb dK_next_7 rfl (lv_at hl 0 rfl) ?_
        refine va_get (D := gD G) (ci := 2) (v := .int (nI la)) (C := "CircuitProver$Machine") (T := TK) (N := 9) hx hb htb inK hown hK hP 0 rfl rfl 1 (by decide) (htb _ b106) (fun _ h9 => h9) rfl dK_next_8 ?_
        refine lv_icmp_ge (tgt := 46) hx hb dK_next_11 rfl (fun h11 => ?_) (fun h11 => ?_)
        · have h11 : la ≤ j := (nI_leI (a := la) (b := j) (by omega) (by omega)).mp h11
          refine lv_iload_n hx hb dK_next_46 rfl (lv_at hl 3 rfl) ?_
          -- end 0
          rw [← hQ]
          exact k_iret hx hb hr hlocks rfl (u := ()) (⟨by rw [ht, show j = la by omega]; rfl, rfl⟩) hP hD hK hS dK_next_47
        · have h11 : j < la := Nat.lt_of_not_le (fun z => h11 ((nI_leI (a := la) (b := j) (by omega) (by omega)).mpr z))
          have hjn : (i * 6) + j < 48 := by omega
          refine lv_aload_n hx hb dK_next_14 rfl (lv_at hl 0 rfl) ?_
          refine va_get (D := gD G) (ci := 2) (v := .ref k2) (C := "CircuitProver$Machine") (T := TK) (N := 9) hx hb htb inK hown hK hP 0 rfl rfl 5 (by decide) (htb _ b115) (fun _ h9 => h9) rfl dK_next_15 ?_
          refine lv_iload_n hx hb dK_next_18 rfl (lv_at hl 2 rfl) ?_
          refine lv_bipush (v := nI 6) hx hb dK_next_19 (by decide) ?_
          refine lv_imul hx hb dK_next_21 ?_
          refine k_toi (y := nI (i * 6)) (pk_mul _ _) ?_
          refine lv_iload hx hb dK_next_22 (lv_at hl 4 rfl) ?_
          refine lv_iadd hx hb dK_next_24 ?_
          refine k_toi (y := nI ((i * 6) + j)) (nI_add _ _) ?_
          refine k_lald hx hb hK hP 1 rfl (k := (i * 6) + j) (by omega) (by decide) dK_next_25 ?_
          refine lv_iload_n hx hb dK_next_26 rfl (lv_at hl 1 rfl) ?_
          refine k_i (ws2 := fun u => [(qk, .inr (2, [.ref k1, .int (nI la), .int (nI ss), .int (nI ii), .int (nI ks), .ref k2, .ref k3, .ref k4, .long kb])), (k2, aJ G 48 kn)]) (wr := [(qk, .inr (2, [.ref k1, .int (nI la), .int (nI ss), .int (nI ii), .int (nI ks), .ref k2, .ref k3, .ref k4, .long kb])), (k2, aJ G 48 kn)]) (k_runSN (n := 2) (As := [.long (kn ((i * 6) + j)), .int (nI sx)]) (rest := []) (wc := []) hx hb hml hown htb hP hD hK hS hA hE (k_C_contains l G H.size (kn ((i * 6) + j)) sx (show sx < 64 from by omega)) n434 b435 b1 b436 (by decide +kernel) rfl rfl ⟨by rw [hRf]; exact Nat.le_of_ble_eq_true rfl, by rw [hRl]; exact Nat.le_of_ble_eq_true rfl⟩ [] rfl (by decide) rfl hl.1 rfl (Nat.le_of_ble_eq_true rfl) dK_next_27 ⟨Nat.zero_le _, Nat.zero_le _⟩) hP hD hS hA [] [0, 1] [0, 1] rfl rfl (by decide) (by decide) (fun u => rfl) (by decide) (fun r u H locs hw hP hD hS => ?_)
          rcases hw with ⟨hc27_e, rfl, rfl⟩ | ⟨hc27_e, rfl, rfl⟩
          · skip
            have hP : va_P (gD G) vC [(qk, .inr (2, [.ref k1, .int (nI la), .int (nI ss), .int (nI ii), .int (nI ks), .ref k2, .ref k3, .ref k4, .long kb])), (k2, aJ G 48 kn)] H := hP
            have hD : va_D A [(qk, .inr (2, [.ref k1, .int (nI la), .int (nI ss), .int (nI ii), .int (nI ks), .ref k2, .ref k3, .ref k4, .long kb])), (k2, aJ G 48 kn)] := hD
            refine lv_if_eq (tgt := 40) hx hb dK_next_30 rfl (fun h30 => (by revert h30; first | decide | exact fun z => absurd z (by decide) | exact fun z => z.elim (by decide))) (fun _ => ?_)
            refine lv_iload_n hx hb dK_next_33 rfl (lv_at hl 3 rfl) ?_
            refine lv_iconst (v := nI 1) hx hb dK_next_34 (by decide) ?_
            refine lv_iload hx hb dK_next_35 (lv_at hl 4 rfl) ?_
            refine lv_ishl hx hb dK_next_37 ?_
            refine k_toi (y := nI (2 ^ j)) (sh1 (by omega)) ?_
            refine lv_ior hx hb dK_next_38 ?_
            refine k_toi (y := nI (t ||| (2 ^ j))) (nx_or _ _) ?_
            refine lv_istore_n (lv' := [(3, .int (nI (t ||| (2 ^ j)))), (0, .ref qk), (1, .int (nI sx)), (2, .int (nI i)), (4, .int (nI j))]) hx hb dK_next_39 rfl hl (by decide) rfl (fun ls hl => ?_)
            refine lv_iinc (v := nI (j + 1)) (lv' := [(4, .int (nI (j + 1))), (3, .int (nI (t ||| (2 ^ j)))), (0, .ref qk), (1, .int (nI sx)), (2, .int (nI i))]) hx hb dK_next_40 hl (k := 4) rfl (nI_add _ 1) (by decide) rfl (fun ls hl => ?_)
            refine lv_goto (tgt := 5) hx hb dK_next_43 rfl ?_
            have hl : lv_has ls 5 [(0, .ref qk), (1, .int (nI sx)), (2, .int (nI i)), (3, .int (nI (t ||| (2 ^ j)))), (4, .int (nI (j + 1)))] := lv_sub hl [2, 3, 4, 1, 0] rfl
            exact ih5 (t ||| (2 ^ j)) (j + 1) _ _ _ (by omega) (by omega) (by rw [it_s, ← ht]; first | rw [if_pos hc27_e] | rw [if_neg (by rw [hc27_e]; decide)]) hP hD hS hl
          · skip
            have hP : va_P (gD G) vC [(qk, .inr (2, [.ref k1, .int (nI la), .int (nI ss), .int (nI ii), .int (nI ks), .ref k2, .ref k3, .ref k4, .long kb])), (k2, aJ G 48 kn)] H := hP
            have hD : va_D A [(qk, .inr (2, [.ref k1, .int (nI la), .int (nI ss), .int (nI ii), .int (nI ks), .ref k2, .ref k3, .ref k4, .long kb])), (k2, aJ G 48 kn)] := hD
            refine lv_if_eq (tgt := 40) hx hb dK_next_30 rfl (fun _ => ?_) (fun h30 => (by revert h30; first | decide | exact fun z => absurd z (by decide) | exact fun z => z.elim (by decide)))
            refine lv_iinc (v := nI (j + 1)) (lv' := [(4, .int (nI (j + 1))), (0, .ref qk), (1, .int (nI sx)), (2, .int (nI i)), (3, .int (nI t))]) hx hb dK_next_40 hl (k := 4) rfl (nI_add _ 1) (by decide) rfl (fun ls hl => ?_)
            refine lv_goto (tgt := 5) hx hb dK_next_43 rfl ?_
            have hl : lv_has ls 5 [(0, .ref qk), (1, .int (nI sx)), (2, .int (nI i)), (3, .int (nI t)), (4, .int (nI (j + 1)))] := lv_sub hl [1, 2, 3, 4, 0] rfl
            exact ih5 t (j + 1) _ _ _ (by omega) (by omega) (by rw [it_s, ← ht]; first | rw [if_pos hc27_e] | rw [if_neg (by rw [hc27_e]; decide)]) hP hD hS hl
    have hl : lv_has ls 5 [(0, .ref qk), (1, .int (nI sx)), (2, .int (nI i)), (3, .int (nI 0)), (4, .int (nI 0))] := lv_sub hl [2, 3, 4, 1, 0] rfl
    exact loop5 (la - 0 + 1) 0 0 _ _ _ (by omega) (by omega) rfl hP hD hS hl
  rw [hH, hlc] at hgo
  exact hgo
set_option maxRecDepth 100000 in
set_option maxHeartbeats 4000000 in
theorem k_K_hasOutput (l : Launch) (G : GG) (sz : Nat) (qk : Nat) (k1 : Nat) (k2 : Nat) (k3 : Nat) (k4 : Nat) (la : Nat) (ss : Nat) (ii : Nat) (ks : Nat) (kb : Int64) (ko : Nat → Int64) (sx : Nat) (i : Nat) (hi : i < 8) (hsx : sx < 64) : Ki l yK_hasOutput cK_hasOutput 3 .boolean 1 22 G [.ref qk, .int (nI sx), .int (nI i)] [(qk, .inr (2, [.ref k1, .int (nI la), .int (nI ss), .int (nI ii), .int (nI ks), .ref k2, .ref k3, .ref k4, .long kb])), (k3, aJ G 8 ko)] sz (fun (r : Int32) (u : Unit) => (lb (ko i) sx = true ∧ nI 1 = r ∧ () = u) ∨ (lb (ko i) sx = false ∧ nI 0 = r ∧ () = u)) (fun (u : Unit) => [(qk, .inr (2, [.ref k1, .int (nI la), .int (nI ss), .int (nI ii), .int (nI ks), .ref k2, .ref k3, .ref k4, .long kb])), (k3, aJ G 8 ko)]) := by
  refine Met.ofW (cc := cK_hasOutput) (maxL := 3) (ret := (some .boolean)) (by decide) rfl ?_
  intro p e s m args below meth c s₁ B hml hv
  obtain ⟨hav, hsz, hP, hK, hD0, hE⟩ := hv
  have hx := B.exec
  have hb := B.bytes
  have hr := B.returns
  have htb : ∀ w ∈ TB, w.before args s = true := fun w h => atoms_spec (ws := Cond.code yK_hasOutput cK_hasOutput 3 (some .boolean) :: TB) B.pre w (List.mem_cons_of_mem _ h)
  have hown : s.vm.findClass "CircuitProver$Machine" = some m.cls := findClass_of_methodNamed B.named
  have hlocks := B.notSynchronized
  subst hsz
  have hD := hD0.self (sz := s.heap.size)
  clear hD0
  generalize hRm : (headSpec (Cond.code yK_hasOutput cK_hasOutput 3 (some .boolean) :: TB) { frames := 1, cells := 0, slots := 0, locals := 22 }).room = R
  have hRf : R.frames = 1 := by rw [← hRm]; rfl
  have hRl : R.locals = 22 := by rw [← hRm]; rfl
  have hRc : R.cells = 0 := by rw [← hRm]; rfl
  have hRs : R.slots = 0 := by rw [← hRm]; rfl
  clear hRm
  generalize hAe : va_A [(qk, .inr (2, [.ref k1, .int (nI la), .int (nI ss), .int (nI ii), .int (nI ks), .ref k2, .ref k3, .ref k4, .long kb])), (k3, aJ G 8 ko)] s.heap.size = A at hD hE ⊢
  have hA : ∀ q : Nat, s.heap.size ≤ q → A q := fun q h => by rw [← hAe]; exact Or.inr h
  clear hAe
  have hS : va_S A s.heap s.heap [] := va_S.rf
  have hl := lv_entry ([.ref qk, .int (nI sx), .int (nI i)]) (n := 3) (Nat.le_of_ble_eq_true rfl)
  have hent := lg_entry_eq m ([.ref qk, .int (nI sx), .int (nI i)]) 3
  rw [← hav] at hent
  rw [hent]
  clear hent hav
  generalize (lg_sl ([.ref qk, .int (nI sx), .int (nI i)]) ++ List.replicate (3 - (lg_sl ([.ref qk, .int (nI sx), .int (nI i)])).length) Slot.unset).toArray = ls at hl ⊢
  have hl : lv_has ls 3 [(0, .ref qk), (1, .int (nI sx)), (2, .int (nI i))] := hl
  generalize hQ : MQ below _ args s 0 0 _ = Q
  have hP : va_P (gD G) vC [(qk, .inr (2, [.ref k1, .int (nI la), .int (nI ss), .int (nI ii), .int (nI ks), .ref k2, .ref k3, .ref k4, .long kb])), (k3, aJ G 8 ko)] s.heap := hP
  obtain ⟨H, hH⟩ : ∃ H : Heap, H = s.heap := ⟨_, rfl⟩
  obtain ⟨locs, hlc⟩ : ∃ L : List Loc, L = [] := ⟨_, rfl⟩
  have hS : va_S A s.heap H locs := by rw [hH, hlc]; exact hS
  have hP : va_P (gD G) vC [(qk, .inr (2, [.ref k1, .int (nI la), .int (nI ss), .int (nI ii), .int (nI ks), .ref k2, .ref k3, .ref k4, .long kb])), (k3, aJ G 8 ko)] H := by rw [hH]; exact hP
  have hgo : W p l e R s m args below meth c H locs 0 0 Q (F0 m 0 ls []) := by
    clear hH hlc
    refine lv_aload_n hx hb dK_hasOutput_0 rfl (lv_at hl 0 rfl) ?_
    refine va_get (D := gD G) (ci := 2) (v := .ref k3) (C := "CircuitProver$Machine") (T := TK) (N := 9) hx hb htb inK hown hK hP 0 rfl rfl 6 (by decide) (htb _ b116) (fun _ h9 => h9) rfl dK_hasOutput_1 ?_
    refine lv_iload_n hx hb dK_hasOutput_4 rfl (lv_at hl 2 rfl) ?_
    refine k_lald hx hb hK hP 1 rfl (k := i) (by omega) (by decide) dK_hasOutput_5 ?_
    refine lv_iload_n hx hb dK_hasOutput_6 rfl (lv_at hl 1 rfl) ?_
    refine k_i (ws2 := fun u => [(qk, .inr (2, [.ref k1, .int (nI la), .int (nI ss), .int (nI ii), .int (nI ks), .ref k2, .ref k3, .ref k4, .long kb])), (k3, aJ G 8 ko)]) (wr := [(qk, .inr (2, [.ref k1, .int (nI la), .int (nI ss), .int (nI ii), .int (nI ks), .ref k2, .ref k3, .ref k4, .long kb])), (k3, aJ G 8 ko)]) (k_runSN (n := 2) (As := [.long (ko i), .int (nI sx)]) (rest := []) (wc := []) hx hb hml hown htb hP hD hK hS hA hE (k_C_contains l G H.size (ko i) sx (show sx < 64 from by omega)) n434 b435 b1 b436 (by decide +kernel) rfl rfl ⟨by rw [hRf]; exact Nat.le_of_ble_eq_true rfl, by rw [hRl]; exact Nat.le_of_ble_eq_true rfl⟩ [] rfl (by decide) rfl hl.1 rfl (Nat.le_of_ble_eq_true rfl) dK_hasOutput_7 ⟨Nat.zero_le _, Nat.zero_le _⟩) hP hD hS hA [] [0, 1] [0, 1] rfl rfl (by decide) (by decide) (fun u => rfl) (by decide) (fun r u H locs hw hP hD hS => ?_)
    rcases hw with ⟨hc7_e, rfl, rfl⟩ | ⟨hc7_e, rfl, rfl⟩
    · skip
      have hP : va_P (gD G) vC [(qk, .inr (2, [.ref k1, .int (nI la), .int (nI ss), .int (nI ii), .int (nI ks), .ref k2, .ref k3, .ref k4, .long kb])), (k3, aJ G 8 ko)] H := hP
      have hD : va_D A [(qk, .inr (2, [.ref k1, .int (nI la), .int (nI ss), .int (nI ii), .int (nI ks), .ref k2, .ref k3, .ref k4, .long kb])), (k3, aJ G 8 ko)] := hD
      -- end 0
      rw [← hQ]
      exact k_iret hx hb hr hlocks (by decide) (u := ()) (Or.inl ⟨hc7_e, rfl, rfl⟩) hP hD hK hS dK_hasOutput_10
    · skip
      have hP : va_P (gD G) vC [(qk, .inr (2, [.ref k1, .int (nI la), .int (nI ss), .int (nI ii), .int (nI ks), .ref k2, .ref k3, .ref k4, .long kb])), (k3, aJ G 8 ko)] H := hP
      have hD : va_D A [(qk, .inr (2, [.ref k1, .int (nI la), .int (nI ss), .int (nI ii), .int (nI ks), .ref k2, .ref k3, .ref k4, .long kb])), (k3, aJ G 8 ko)] := hD
      -- end 1
      rw [← hQ]
      exact k_iret hx hb hr hlocks (by decide) (u := ()) (Or.inr ⟨hc7_e, rfl, rfl⟩) hP hD hK hS dK_hasOutput_10
  rw [hH, hlc] at hgo
  exact hgo
set_option maxRecDepth 100000 in
set_option maxHeartbeats 4000000 in
theorem k_K_post (l : Launch) (G : GG) (sz : Nat) (qk : Nat) (k1 : Nat) (k2 : Nat) (k3 : Nat) (k4 : Nat) (la : Nat) (ss : Nat) (ii : Nat) (ks : Nat) (kb : Int64) (ka : Nat → Int64) (x : Int64) (hz : ss ≤ 64) : Kl l yK_post cK_post 6 1 22 G [.ref qk, .long x] [(qk, .inr (2, [.ref k1, .int (nI la), .int (nI ss), .int (nI ii), .int (nI ks), .ref k2, .ref k3, .ref k4, .long kb])), (k4, aJ G 64 ka)] sz (fun (r : Int64) (u : Unit) => (it (fun s a => if lb x s = true then a ||| ka s else a) ss 0 = r ∧ () = u)) (fun (u : Unit) => [(qk, .inr (2, [.ref k1, .int (nI la), .int (nI ss), .int (nI ii), .int (nI ks), .ref k2, .ref k3, .ref k4, .long kb])), (k4, aJ G 64 ka)]) := by
  refine Met.ofW (cc := cK_post) (maxL := 6) (ret := (some .long)) (by decide) rfl ?_
  intro p e s m args below meth c s₁ B hml hv
  obtain ⟨hav, hsz, hP, hK, hD0, hE⟩ := hv
  have hx := B.exec
  have hb := B.bytes
  have hr := B.returns
  have htb : ∀ w ∈ TB, w.before args s = true := fun w h => atoms_spec (ws := Cond.code yK_post cK_post 6 (some .long) :: TB) B.pre w (List.mem_cons_of_mem _ h)
  have hown : s.vm.findClass "CircuitProver$Machine" = some m.cls := findClass_of_methodNamed B.named
  have hlocks := B.notSynchronized
  subst hsz
  have hD := hD0.self (sz := s.heap.size)
  clear hD0
  generalize hRm : (headSpec (Cond.code yK_post cK_post 6 (some .long) :: TB) { frames := 1, cells := 0, slots := 0, locals := 22 }).room = R
  have hRf : R.frames = 1 := by rw [← hRm]; rfl
  have hRl : R.locals = 22 := by rw [← hRm]; rfl
  have hRc : R.cells = 0 := by rw [← hRm]; rfl
  have hRs : R.slots = 0 := by rw [← hRm]; rfl
  clear hRm
  generalize hAe : va_A [(qk, .inr (2, [.ref k1, .int (nI la), .int (nI ss), .int (nI ii), .int (nI ks), .ref k2, .ref k3, .ref k4, .long kb])), (k4, aJ G 64 ka)] s.heap.size = A at hD hE ⊢
  have hA : ∀ q : Nat, s.heap.size ≤ q → A q := fun q h => by rw [← hAe]; exact Or.inr h
  clear hAe
  have hS : va_S A s.heap s.heap [] := va_S.rf
  have hl := lv_entry ([.ref qk, .long x]) (n := 6) (Nat.le_of_ble_eq_true rfl)
  have hent := lg_entry_eq m ([.ref qk, .long x]) 6
  rw [← hav] at hent
  rw [hent]
  clear hent hav
  generalize (lg_sl ([.ref qk, .long x]) ++ List.replicate (6 - (lg_sl ([.ref qk, .long x])).length) Slot.unset).toArray = ls at hl ⊢
  have hl : lv_has ls 6 [(0, .ref qk), (1, .long x)] := hl
  generalize hQ : MQ below _ args s 0 0 _ = Q
  have hP : va_P (gD G) vC [(qk, .inr (2, [.ref k1, .int (nI la), .int (nI ss), .int (nI ii), .int (nI ks), .ref k2, .ref k3, .ref k4, .long kb])), (k4, aJ G 64 ka)] s.heap := hP
  obtain ⟨H, hH⟩ : ∃ H : Heap, H = s.heap := ⟨_, rfl⟩
  obtain ⟨locs, hlc⟩ : ∃ L : List Loc, L = [] := ⟨_, rfl⟩
  have hS : va_S A s.heap H locs := by rw [hH, hlc]; exact hS
  have hP : va_P (gD G) vC [(qk, .inr (2, [.ref k1, .int (nI la), .int (nI ss), .int (nI ii), .int (nI ks), .ref k2, .ref k3, .ref k4, .long kb])), (k4, aJ G 64 ka)] H := by rw [hH]; exact hP
  have hgo : W p l e R s m args below meth c H locs 0 0 Q (F0 m 0 ls []) := by
    clear hH hlc
    refine lv_lconst (v := 0) hx hb dK_post_0 (by decide) ?_
    refine lv_lstore_n (lv' := [(3, .long 0), (0, .ref qk), (1, .long x)]) hx hb dK_post_1 rfl hl (by decide) rfl (fun ls hl => ?_)
    refine lv_iconst (v := nI 0) hx hb dK_post_2 (by decide) ?_
    refine lv_istore (lv' := [(5, .int (nI 0)), (3, .long 0), (0, .ref qk), (1, .long x)]) hx hb dK_post_3 hl (by decide) rfl (fun ls hl => ?_)
    have loop5 : ∀ (n : Nat) (t : Int64) (j : Nat) (H : Heap) (locs : List Loc) (ls : Array Slot), ss - j < n → (j ≤ ss) → (t = it (fun s a => if lb x s = true then a ||| ka s else a) j 0) → va_P (gD G) vC [(qk, .inr (2, [.ref k1, .int (nI la), .int (nI ss), .int (nI ii), .int (nI ks), .ref k2, .ref k3, .ref k4, .long kb])), (k4, aJ G 64 ka)] H → va_D A [(qk, .inr (2, [.ref k1, .int (nI la), .int (nI ss), .int (nI ii), .int (nI ks), .ref k2, .ref k3, .ref k4, .long kb])), (k4, aJ G 64 ka)] → va_S A s.heap H locs → lv_has ls 6 [(0, .ref qk), (1, .long x), (3, .long t), (5, .int (nI j))] → W p l e R s m args below meth c H locs 0 0 Q (F0 m 5 ls []) := by
      intro n
      induction n with
      | zero => intro t j H locs ls hmu; omega
      | succ n ih =>
        intro t j H locs ls hmu hj ht hP hD hS hl
        have ih5 := ih
        clear ih
        refine lv_iload hx hb dK_post_5 (lv_at hl 3 rfl) ?_
        refine lv_aload_n hx hb dK_post_7 rfl (lv_at hl 0 rfl) ?_
        refine va_get (D := gD G) (ci := 2) (v := .int (nI ss)) (C := "CircuitProver$Machine") (T := TK) (N := 9) hx hb htb inK hown hK hP 0 rfl rfl 2 (by decide) (htb _ b109) (fun _ h9 => h9) rfl dK_post_8 ?_
        refine lv_icmp_ge (tgt := 39) hx hb dK_post_11 rfl (fun h11 => ?_) (fun h11 => ?_)
        · have h11 : ss ≤ j := (nI_leI (a := ss) (b := j) (by omega) (by omega)).mp h11
          refine lv_lload_n hx hb dK_post_39 rfl (lv_at hl 2 rfl) ?_
          -- end 0
          rw [← hQ]
          exact k_lret hx hb hr hlocks (u := ()) (⟨by rw [ht, show j = ss by omega], rfl⟩) hP hD hK hS dK_post_40
        · have h11 : j < ss := Nat.lt_of_not_le (fun z => h11 ((nI_leI (a := ss) (b := j) (by omega) (by omega)).mpr z))
          refine lv_lload_n hx hb dK_post_14 rfl (lv_at hl 1 rfl) ?_
          refine lv_iload hx hb dK_post_15 (lv_at hl 3 rfl) ?_
          refine k_i (ws2 := fun u => [(qk, .inr (2, [.ref k1, .int (nI la), .int (nI ss), .int (nI ii), .int (nI ks), .ref k2, .ref k3, .ref k4, .long kb])), (k4, aJ G 64 ka)]) (wr := [(qk, .inr (2, [.ref k1, .int (nI la), .int (nI ss), .int (nI ii), .int (nI ks), .ref k2, .ref k3, .ref k4, .long kb])), (k4, aJ G 64 ka)]) (k_runSN (n := 2) (As := [.long x, .int (nI j)]) (rest := []) (wc := []) hx hb hml hown htb hP hD hK hS hA hE (k_C_contains l G H.size x j (show j < 64 from by omega)) n434 b435 b1 b436 (by decide +kernel) rfl rfl ⟨by rw [hRf]; exact Nat.le_of_ble_eq_true rfl, by rw [hRl]; exact Nat.le_of_ble_eq_true rfl⟩ [] rfl (by decide) rfl hl.1 rfl (Nat.le_of_ble_eq_true rfl) dK_post_17 ⟨Nat.zero_le _, Nat.zero_le _⟩) hP hD hS hA [] [0, 1] [0, 1] rfl rfl (by decide) (by decide) (fun u => rfl) (by decide) (fun r u H locs hw hP hD hS => ?_)
          rcases hw with ⟨hc17_e, rfl, rfl⟩ | ⟨hc17_e, rfl, rfl⟩
          · skip
            have hP : va_P (gD G) vC [(qk, .inr (2, [.ref k1, .int (nI la), .int (nI ss), .int (nI ii), .int (nI ks), .ref k2, .ref k3, .ref k4, .long kb])), (k4, aJ G 64 ka)] H := hP
            have hD : va_D A [(qk, .inr (2, [.ref k1, .int (nI la), .int (nI ss), .int (nI ii), .int (nI ks), .ref k2, .ref k3, .ref k4, .long kb])), (k4, aJ G 64 ka)] := hD
            refine lv_if_eq (tgt := 33) hx hb dK_post_20 rfl (fun h20 => (by revert h20; first | decide | exact fun z => absurd z (by decide) | exact fun z => z.elim (by decide))) (fun _ => ?_)
            refine lv_lload_n hx hb dK_post_23 rfl (lv_at hl 2 rfl) ?_
            refine lv_aload_n hx hb dK_post_24 rfl (lv_at hl 0 rfl) ?_
            refine va_get (D := gD G) (ci := 2) (v := .ref k4) (C := "CircuitProver$Machine") (T := TK) (N := 9) hx hb htb inK hown hK hP 0 rfl rfl 7 (by decide) (htb _ b117) (fun _ h9 => h9) rfl dK_post_25 ?_
            refine lv_iload hx hb dK_post_28 (lv_at hl 3 rfl) ?_
            refine k_lald hx hb hK hP 1 rfl (k := j) (by omega) (by decide) dK_post_30 ?_
            refine lv_lor hx hb dK_post_31 ?_
            refine lv_lstore_n (lv' := [(3, .long (t ||| (ka j))), (0, .ref qk), (1, .long x), (5, .int (nI j))]) hx hb dK_post_32 rfl hl (by decide) rfl (fun ls hl => ?_)
            refine lv_iinc (v := nI (j + 1)) (lv' := [(5, .int (nI (j + 1))), (3, .long (t ||| (ka j))), (0, .ref qk), (1, .long x)]) hx hb dK_post_33 hl (k := 3) rfl (nI_add _ 1) (by decide) rfl (fun ls hl => ?_)
            refine lv_goto (tgt := 5) hx hb dK_post_36 rfl ?_
            have hl : lv_has ls 6 [(0, .ref qk), (1, .long x), (3, .long (t ||| (ka j))), (5, .int (nI (j + 1)))] := lv_sub hl [2, 3, 1, 0] rfl
            exact ih5 (t ||| (ka j)) (j + 1) _ _ _ (by omega) (by omega) (by rw [it_s, ← ht]; first | rw [if_pos hc17_e] | rw [if_neg (by rw [hc17_e]; decide)]) hP hD hS hl
          · skip
            have hP : va_P (gD G) vC [(qk, .inr (2, [.ref k1, .int (nI la), .int (nI ss), .int (nI ii), .int (nI ks), .ref k2, .ref k3, .ref k4, .long kb])), (k4, aJ G 64 ka)] H := hP
            have hD : va_D A [(qk, .inr (2, [.ref k1, .int (nI la), .int (nI ss), .int (nI ii), .int (nI ks), .ref k2, .ref k3, .ref k4, .long kb])), (k4, aJ G 64 ka)] := hD
            refine lv_if_eq (tgt := 33) hx hb dK_post_20 rfl (fun _ => ?_) (fun h20 => (by revert h20; first | decide | exact fun z => absurd z (by decide) | exact fun z => z.elim (by decide)))
            refine lv_iinc (v := nI (j + 1)) (lv' := [(5, .int (nI (j + 1))), (0, .ref qk), (1, .long x), (3, .long t)]) hx hb dK_post_33 hl (k := 3) rfl (nI_add _ 1) (by decide) rfl (fun ls hl => ?_)
            refine lv_goto (tgt := 5) hx hb dK_post_36 rfl ?_
            have hl : lv_has ls 6 [(0, .ref qk), (1, .long x), (3, .long t), (5, .int (nI (j + 1)))] := lv_sub hl [1, 2, 3, 0] rfl
            exact ih5 t (j + 1) _ _ _ (by omega) (by omega) (by rw [it_s, ← ht]; first | rw [if_pos hc17_e] | rw [if_neg (by rw [hc17_e]; decide)]) hP hD hS hl
    have hl : lv_has ls 6 [(0, .ref qk), (1, .long x), (3, .long 0), (5, .int (nI 0))] := lv_sub hl [2, 3, 1, 0] rfl
    exact loop5 (ss - 0 + 1) 0 0 _ _ _ (by omega) (by omega) rfl hP hD hS hl
  rw [hH, hlc] at hgo
  exact hgo
set_option maxRecDepth 100000 in
set_option maxHeartbeats 4000000 in
theorem k_K_before (l : Launch) (G : GG) (sz : Nat) (qk : Nat) (k1 : Nat) (k2 : Nat) (k3 : Nat) (k4 : Nat) (la : Nat) (ss : Nat) (ii : Nat) (ks : Nat) (kb : Int64) (ka : Nat → Int64) (x : Int64) (hz : ss ≤ 64) : Kl l yK_before cK_before 6 0 0 G [.ref qk, .long x] [(qk, .inr (2, [.ref k1, .int (nI la), .int (nI ss), .int (nI ii), .int (nI ks), .ref k2, .ref k3, .ref k4, .long kb])), (k4, aJ G 64 ka)] sz (fun (r : Int64) (u : Unit) => (it (fun s a => if (ka s &&& x) ≠ 0 then a ||| sg s else a) ss 0 = r ∧ () = u)) (fun (u : Unit) => [(qk, .inr (2, [.ref k1, .int (nI la), .int (nI ss), .int (nI ii), .int (nI ks), .ref k2, .ref k3, .ref k4, .long kb])), (k4, aJ G 64 ka)]) := by
  refine Met.ofW (cc := cK_before) (maxL := 6) (ret := (some .long)) (by decide) rfl ?_
  intro p e s m args below meth c s₁ B hml hv
  obtain ⟨hav, hsz, hP, hK, hD0, hE⟩ := hv
  have hx := B.exec
  have hb := B.bytes
  have hr := B.returns
  have htb : ∀ w ∈ TB, w.before args s = true := fun w h => atoms_spec (ws := Cond.code yK_before cK_before 6 (some .long) :: TB) B.pre w (List.mem_cons_of_mem _ h)
  have hown : s.vm.findClass "CircuitProver$Machine" = some m.cls := findClass_of_methodNamed B.named
  have hlocks := B.notSynchronized
  subst hsz
  have hD := hD0.self (sz := s.heap.size)
  clear hD0
  generalize hRm : (headSpec (Cond.code yK_before cK_before 6 (some .long) :: TB) { frames := 0, cells := 0, slots := 0, locals := 0 }).room = R
  have hRf : R.frames = 0 := by rw [← hRm]; rfl
  have hRl : R.locals = 0 := by rw [← hRm]; rfl
  have hRc : R.cells = 0 := by rw [← hRm]; rfl
  have hRs : R.slots = 0 := by rw [← hRm]; rfl
  clear hRm
  generalize hAe : va_A [(qk, .inr (2, [.ref k1, .int (nI la), .int (nI ss), .int (nI ii), .int (nI ks), .ref k2, .ref k3, .ref k4, .long kb])), (k4, aJ G 64 ka)] s.heap.size = A at hD hE ⊢
  have hA : ∀ q : Nat, s.heap.size ≤ q → A q := fun q h => by rw [← hAe]; exact Or.inr h
  clear hAe
  have hS : va_S A s.heap s.heap [] := va_S.rf
  have hl := lv_entry ([.ref qk, .long x]) (n := 6) (Nat.le_of_ble_eq_true rfl)
  have hent := lg_entry_eq m ([.ref qk, .long x]) 6
  rw [← hav] at hent
  rw [hent]
  clear hent hav
  generalize (lg_sl ([.ref qk, .long x]) ++ List.replicate (6 - (lg_sl ([.ref qk, .long x])).length) Slot.unset).toArray = ls at hl ⊢
  have hl : lv_has ls 6 [(0, .ref qk), (1, .long x)] := hl
  generalize hQ : MQ below _ args s 0 0 _ = Q
  have hP : va_P (gD G) vC [(qk, .inr (2, [.ref k1, .int (nI la), .int (nI ss), .int (nI ii), .int (nI ks), .ref k2, .ref k3, .ref k4, .long kb])), (k4, aJ G 64 ka)] s.heap := hP
  obtain ⟨H, hH⟩ : ∃ H : Heap, H = s.heap := ⟨_, rfl⟩
  obtain ⟨locs, hlc⟩ : ∃ L : List Loc, L = [] := ⟨_, rfl⟩
  have hS : va_S A s.heap H locs := by rw [hH, hlc]; exact hS
  have hP : va_P (gD G) vC [(qk, .inr (2, [.ref k1, .int (nI la), .int (nI ss), .int (nI ii), .int (nI ks), .ref k2, .ref k3, .ref k4, .long kb])), (k4, aJ G 64 ka)] H := by rw [hH]; exact hP
  have hgo : W p l e R s m args below meth c H locs 0 0 Q (F0 m 0 ls []) := by
    clear hH hlc
    refine lv_lconst (v := 0) hx hb dK_before_0 (by decide) ?_
    refine lv_lstore_n (lv' := [(3, .long 0), (0, .ref qk), (1, .long x)]) hx hb dK_before_1 rfl hl (by decide) rfl (fun ls hl => ?_)
    refine lv_iconst (v := nI 0) hx hb dK_before_2 (by decide) ?_
    refine lv_istore (lv' := [(5, .int (nI 0)), (3, .long 0), (0, .ref qk), (1, .long x)]) hx hb dK_before_3 hl (by decide) rfl (fun ls hl => ?_)
    have loop5 : ∀ (n : Nat) (t : Int64) (j : Nat) (H : Heap) (locs : List Loc) (ls : Array Slot), ss - j < n → (j ≤ ss) → (t = it (fun s a => if (ka s &&& x) ≠ 0 then a ||| sg s else a) j 0) → va_P (gD G) vC [(qk, .inr (2, [.ref k1, .int (nI la), .int (nI ss), .int (nI ii), .int (nI ks), .ref k2, .ref k3, .ref k4, .long kb])), (k4, aJ G 64 ka)] H → va_D A [(qk, .inr (2, [.ref k1, .int (nI la), .int (nI ss), .int (nI ii), .int (nI ks), .ref k2, .ref k3, .ref k4, .long kb])), (k4, aJ G 64 ka)] → va_S A s.heap H locs → lv_has ls 6 [(0, .ref qk), (1, .long x), (3, .long t), (5, .int (nI j))] → W p l e R s m args below meth c H locs 0 0 Q (F0 m 5 ls []) := by
      intro n
      induction n with
      | zero => intro t j H locs ls hmu; omega
      | succ n ih =>
        intro t j H locs ls hmu hj ht hP hD hS hl
        have ih5 := ih
        clear ih
        refine lv_iload hx hb dK_before_5 (lv_at hl 3 rfl) ?_
        refine lv_aload_n hx hb dK_before_7 rfl (lv_at hl 0 rfl) ?_
        refine va_get (D := gD G) (ci := 2) (v := .int (nI ss)) (C := "CircuitProver$Machine") (T := TK) (N := 9) hx hb htb inK hown hK hP 0 rfl rfl 2 (by decide) (htb _ b109) (fun _ h9 => h9) rfl dK_before_8 ?_
        refine lv_icmp_ge (tgt := 41) hx hb dK_before_11 rfl (fun h11 => ?_) (fun h11 => ?_)
        · have h11 : ss ≤ j := (nI_leI (a := ss) (b := j) (by omega) (by omega)).mp h11
          refine lv_lload_n hx hb dK_before_41 rfl (lv_at hl 2 rfl) ?_
          -- end 0
          rw [← hQ]
          exact k_lret hx hb hr hlocks (u := ()) (⟨by rw [ht, show j = ss by omega], rfl⟩) hP hD hK hS dK_before_42
        · have h11 : j < ss := Nat.lt_of_not_le (fun z => h11 ((nI_leI (a := ss) (b := j) (by omega) (by omega)).mpr z))
          refine lv_aload_n hx hb dK_before_14 rfl (lv_at hl 0 rfl) ?_
          refine va_get (D := gD G) (ci := 2) (v := .ref k4) (C := "CircuitProver$Machine") (T := TK) (N := 9) hx hb htb inK hown hK hP 0 rfl rfl 7 (by decide) (htb _ b117) (fun _ h9 => h9) rfl dK_before_15 ?_
          refine lv_iload hx hb dK_before_18 (lv_at hl 3 rfl) ?_
          refine k_lald hx hb hK hP 1 rfl (k := j) (by omega) (by decide) dK_before_20 ?_
          refine lv_lload_n hx hb dK_before_21 rfl (lv_at hl 1 rfl) ?_
          refine lv_land hx hb dK_before_22 ?_
          refine lv_lconst (v := 0) hx hb dK_before_23 (by decide) ?_
          refine W.lcmp hx hb dK_before_24 ?_
          refine lv_if_eq (tgt := 35) hx hb dK_before_25 rfl (fun h25 => ?_) (fun h25 => ?_)
          · have h25 : ((ka j) &&& x) = 0 := (lg_cmp_eq _ _).mp h25
            refine lv_iinc (v := nI (j + 1)) (lv' := [(5, .int (nI (j + 1))), (0, .ref qk), (1, .long x), (3, .long t)]) hx hb dK_before_35 hl (k := 3) rfl (nI_add _ 1) (by decide) rfl (fun ls hl => ?_)
            refine lv_goto (tgt := 5) hx hb dK_before_38 rfl ?_
            have hl : lv_has ls 6 [(0, .ref qk), (1, .long x), (3, .long t), (5, .int (nI (j + 1)))] := lv_sub hl [1, 2, 3, 0] rfl
            exact ih5 t (j + 1) _ _ _ (by omega) (by omega) (by rw [it_s, ← ht]; first | rw [if_pos h25] | rw [if_neg (fun z => z h25)]) hP hD hS hl
          · have h25 : ¬ ((ka j) &&& x) = 0 := fun z => h25 ((lg_cmp_eq _ _).mpr z)
            refine lv_lload_n hx hb dK_before_28 rfl (lv_at hl 2 rfl) ?_
            refine lv_lconst (v := 1) hx hb dK_before_29 (by decide) ?_
            refine lv_iload hx hb dK_before_30 (lv_at hl 3 rfl) ?_
            refine lv_lshl (v := sg j) hx hb dK_before_32 rfl ?_
            refine lv_lor hx hb dK_before_33 ?_
            refine lv_lstore_n (lv' := [(3, .long (t ||| (sg j))), (0, .ref qk), (1, .long x), (5, .int (nI j))]) hx hb dK_before_34 rfl hl (by decide) rfl (fun ls hl => ?_)
            refine lv_iinc (v := nI (j + 1)) (lv' := [(5, .int (nI (j + 1))), (3, .long (t ||| (sg j))), (0, .ref qk), (1, .long x)]) hx hb dK_before_35 hl (k := 3) rfl (nI_add _ 1) (by decide) rfl (fun ls hl => ?_)
            refine lv_goto (tgt := 5) hx hb dK_before_38 rfl ?_
            have hl : lv_has ls 6 [(0, .ref qk), (1, .long x), (3, .long (t ||| (sg j))), (5, .int (nI (j + 1)))] := lv_sub hl [2, 3, 1, 0] rfl
            exact ih5 (t ||| (sg j)) (j + 1) _ _ _ (by omega) (by omega) (by rw [it_s, ← ht]; first | rw [if_pos h25] | rw [if_neg (fun z => z h25)]) hP hD hS hl
    have hl : lv_has ls 6 [(0, .ref qk), (1, .long x), (3, .long 0), (5, .int (nI 0))] := lv_sub hl [2, 3, 1, 0] rfl
    exact loop5 (ss - 0 + 1) 0 0 _ _ _ (by omega) (by omega) rfl hP hD hS hl
  rw [hH, hlc] at hgo
  exact hgo
set_option maxRecDepth 100000 in
set_option maxHeartbeats 4000000 in
theorem k_K_joinSteps (l : Launch) (G : GG) (sz : Nat) (qk : Nat) (k1 : Nat) (k2 : Nat) (k3 : Nat) (k4 : Nat) (la : Nat) (ss : Nat) (ii : Nat) (ks : Nat) (kb : Int64) (kn : Nat → Int64) (ka : Nat → Int64) (hla : la ≤ 6) (hz : ss ≤ 64) (hi : ii ≤ 8) : Kv l yK_joinSteps cK_joinSteps 3 2 46 0 0 G [.ref qk] [(qk, .inr (2, [.ref k1, .int (nI la), .int (nI ss), .int (nI ii), .int (nI ks), .ref k2, .ref k3, .ref k4, .long kb])), (k2, aJ G 48 kn), (k4, aJ G 64 ka)] sz (fun (u : (Nat → Int64)) => (∃ (a1 : Nat → Int64), (∀ s, s < ss → a1 s = aftOf ii (nxC kn la) s) ∧ a1 = u)) (fun (u : (Nat → Int64)) => [(qk, .inr (2, [.ref k1, .int (nI la), .int (nI ss), .int (nI ii), .int (nI ks), .ref k2, .ref k3, .ref k4, .long kb])), (k2, aJ G 48 kn), (k4, aJ G 64 u)]) := by
  refine Met.ofW (cc := cK_joinSteps) (maxL := 3) (ret := none) (by decide) rfl ?_
  intro p e s m args below meth c s₁ B hml hv
  obtain ⟨hav, hsz, hP, hK, hD0, hE⟩ := hv
  have hx := B.exec
  have hb := B.bytes
  have hr := B.returns
  have htb : ∀ w ∈ TB, w.before args s = true := fun w h => atoms_spec (ws := Cond.code yK_joinSteps cK_joinSteps 3 none :: TB) B.pre w (List.mem_cons_of_mem _ h)
  have hown : s.vm.findClass "CircuitProver$Machine" = some m.cls := findClass_of_methodNamed B.named
  have hlocks := B.notSynchronized
  subst hsz
  have hD := hD0.self (sz := s.heap.size)
  clear hD0
  generalize hRm : (headSpec (Cond.code yK_joinSteps cK_joinSteps 3 none :: TB) { frames := 2, cells := 0, slots := 0, locals := 46 }).room = R
  have hRf : R.frames = 2 := by rw [← hRm]; rfl
  have hRl : R.locals = 46 := by rw [← hRm]; rfl
  have hRc : R.cells = 0 := by rw [← hRm]; rfl
  have hRs : R.slots = 0 := by rw [← hRm]; rfl
  clear hRm
  generalize hAe : va_A [(qk, .inr (2, [.ref k1, .int (nI la), .int (nI ss), .int (nI ii), .int (nI ks), .ref k2, .ref k3, .ref k4, .long kb])), (k2, aJ G 48 kn), (k4, aJ G 64 ka)] s.heap.size = A at hD hE ⊢
  have hA : ∀ q : Nat, s.heap.size ≤ q → A q := fun q h => by rw [← hAe]; exact Or.inr h
  clear hAe
  have hS : va_S A s.heap s.heap [] := va_S.rf
  have hl := lv_entry ([.ref qk]) (n := 3) (Nat.le_of_ble_eq_true rfl)
  have hent := lg_entry_eq m ([.ref qk]) 3
  rw [← hav] at hent
  rw [hent]
  clear hent hav
  generalize (lg_sl ([.ref qk]) ++ List.replicate (3 - (lg_sl ([.ref qk])).length) Slot.unset).toArray = ls at hl ⊢
  have hl : lv_has ls 3 [(0, .ref qk)] := hl
  generalize hQ : MQ below _ args s 0 0 _ = Q
  have hP : va_P (gD G) vC [(qk, .inr (2, [.ref k1, .int (nI la), .int (nI ss), .int (nI ii), .int (nI ks), .ref k2, .ref k3, .ref k4, .long kb])), (k2, aJ G 48 kn), (k4, aJ G 64 ka)] s.heap := hP
  obtain ⟨H, hH⟩ : ∃ H : Heap, H = s.heap := ⟨_, rfl⟩
  obtain ⟨locs, hlc⟩ : ∃ L : List Loc, L = [] := ⟨_, rfl⟩
  have hS : va_S A s.heap H locs := by rw [hH, hlc]; exact hS
  have hP : va_P (gD G) vC [(qk, .inr (2, [.ref k1, .int (nI la), .int (nI ss), .int (nI ii), .int (nI ks), .ref k2, .ref k3, .ref k4, .long kb])), (k2, aJ G 48 kn), (k4, aJ G 64 ka)] H := by rw [hH]; exact hP
  have hgo : W p l e R s m args below meth c H locs 0 0 Q (F0 m 0 ls []) := by
    clear hH hlc
    refine lv_iconst (v := nI 0) hx hb dK_joinSteps_0 (by decide) ?_
    refine lv_istore_n (lv' := [(1, .int (nI 0)), (0, .ref qk)]) hx hb dK_joinSteps_1 rfl hl (by decide) rfl (fun ls hl => ?_)
    have loop2 : ∀ (n : Nat) (sx : Nat) (a1 : Nat → Int64) (H : Heap) (locs : List Loc) (ls : Array Slot), ss - sx < n → (sx ≤ ss) → (∀ t, t < sx → a1 t = aftOf ii (nxC kn la) t) → va_P (gD G) vC [(qk, .inr (2, [.ref k1, .int (nI la), .int (nI ss), .int (nI ii), .int (nI ks), .ref k2, .ref k3, .ref k4, .long kb])), (k2, aJ G 48 kn), (k4, aJ G 64 a1)] H → va_D A [(qk, .inr (2, [.ref k1, .int (nI la), .int (nI ss), .int (nI ii), .int (nI ks), .ref k2, .ref k3, .ref k4, .long kb])), (k2, aJ G 48 kn), (k4, aJ G 64 a1)] → va_S A s.heap H locs → lv_has ls 3 [(0, .ref qk), (1, .int (nI sx))] → W p l e R s m args below meth c H locs 0 0 Q (F0 m 2 ls []) := by
      intro n
      induction n with
      | zero => intro sx a1 H locs ls hmu; omega
      | succ n ih =>
        intro sx a1 H locs ls hmu hsx ha hP hD hS hl
        have ih2 := ih
        clear ih
        refine lv_iload_n hx hb dK_joinSteps_2 rfl (lv_at hl 1 rfl) ?_
        refine lv_aload_n hx hb dK_joinSteps_3 rfl (lv_at hl 0 rfl) ?_
        refine va_get (D := gD G) (ci := 2) (v := .int (nI ss)) (C := "CircuitProver$Machine") (T := TK) (N := 9) hx hb htb inK hown hK hP 0 rfl rfl 2 (by decide) (htb _ b109) (fun _ h9 => h9) rfl dK_joinSteps_4 ?_
        refine lv_icmp_ge (tgt := 56) hx hb dK_joinSteps_7 rfl (fun h7 => ?_) (fun h7 => ?_)
        · have h7 : ss ≤ sx := (nI_leI (a := ss) (b := sx) (by omega) (by omega)).mp h7
          -- end 0
          rw [← hQ]
          exact k_vret hx hb hr hlocks (u := a1) (⟨a1, fun t h => ha t (by omega), rfl⟩) hP hD hK hS dK_joinSteps_56
        · have h7 : sx < ss := Nat.lt_of_not_le (fun z => h7 ((nI_leI (a := ss) (b := sx) (by omega) (by omega)).mpr z))
          refine lv_aload_n hx hb dK_joinSteps_10 rfl (lv_at hl 0 rfl) ?_
          refine va_get (D := gD G) (ci := 2) (v := .ref k4) (C := "CircuitProver$Machine") (T := TK) (N := 9) hx hb htb inK hown hK hP 0 rfl rfl 7 (by decide) (htb _ b117) (fun _ h9 => h9) rfl dK_joinSteps_11 ?_
          refine lv_iload_n hx hb dK_joinSteps_14 rfl (lv_at hl 1 rfl) ?_
          refine lv_lconst (v := 0) hx hb dK_joinSteps_15 (by decide) ?_
          refine k_last hx hb hK hP hD hS 2 rfl (k := sx) (v := 0) (by omega) (by decide) dK_joinSteps_16 (fun H locs hP hD hS => ?_)
          have hP : va_P (gD G) vC [(qk, .inr (2, [.ref k1, .int (nI la), .int (nI ss), .int (nI ii), .int (nI ks), .ref k2, .ref k3, .ref k4, .long kb])), (k2, aJ G 48 kn), (k4, aJ G 64 (va_up a1 sx 0))] H := hP
          have hD : va_D A [(qk, .inr (2, [.ref k1, .int (nI la), .int (nI ss), .int (nI ii), .int (nI ks), .ref k2, .ref k3, .ref k4, .long kb])), (k2, aJ G 48 kn), (k4, aJ G 64 (va_up a1 sx 0))] := hD
          refine lv_iconst (v := nI 0) hx hb dK_joinSteps_17 (by decide) ?_
          refine lv_istore_n (lv' := [(2, .int (nI 0)), (0, .ref qk), (1, .int (nI sx))]) hx hb dK_joinSteps_18 rfl hl (by decide) rfl (fun ls hl => ?_)
          have loop19 : ∀ (n : Nat) (i : Nat) (a2 : Nat → Int64) (H : Heap) (locs : List Loc) (ls : Array Slot), ii - i < n → (i ≤ ii) → (∀ t, t < sx → a2 t = aftOf ii (nxC kn la) t) → (a2 sx = it (fun i a => a ||| sg (nxC kn la sx i)) i 0) → va_P (gD G) vC [(qk, .inr (2, [.ref k1, .int (nI la), .int (nI ss), .int (nI ii), .int (nI ks), .ref k2, .ref k3, .ref k4, .long kb])), (k2, aJ G 48 kn), (k4, aJ G 64 a2)] H → va_D A [(qk, .inr (2, [.ref k1, .int (nI la), .int (nI ss), .int (nI ii), .int (nI ks), .ref k2, .ref k3, .ref k4, .long kb])), (k2, aJ G 48 kn), (k4, aJ G 64 a2)] → va_S A s.heap H locs → lv_has ls 3 [(0, .ref qk), (1, .int (nI sx)), (2, .int (nI i))] → W p l e R s m args below meth c H locs 0 0 Q (F0 m 19 ls []) := by
            intro n
            induction n with
            | zero => intro i a2 H locs ls hmu; omega
            | succ n ih =>
              intro i a2 H locs ls hmu hii hb1 hb2 hP hD hS hl
              have ih19 := ih
              clear ih
              refine lv_iload_n hx hb dK_joinSteps_19 rfl (lv_at hl 2 rfl) ?_
              refine lv_aload_n hx hb dK_joinSteps_20 rfl (lv_at hl 0 rfl) ?_
              refine va_get (D := gD G) (ci := 2) (v := .int (nI ii)) (C := "CircuitProver$Machine") (T := TK) (N := 9) hx hb htb inK hown hK hP 0 rfl rfl 3 (by decide) (htb _ b110) (fun _ h9 => h9) rfl dK_joinSteps_21 ?_
              refine lv_icmp_ge (tgt := 50) hx hb dK_joinSteps_24 rfl (fun h24 => ?_) (fun h24 => ?_)
              · have h24 : ii ≤ i := (nI_leI (a := ii) (b := i) (by omega) (by omega)).mp h24
                refine lv_iinc (v := nI (sx + 1)) (lv' := [(1, .int (nI (sx + 1))), (0, .ref qk), (2, .int (nI i))]) hx hb dK_joinSteps_50 hl (k := 1) rfl (nI_add _ 1) (by decide) rfl (fun ls hl => ?_)
                refine lv_goto (tgt := 2) hx hb dK_joinSteps_53 rfl ?_
                have hl : lv_has ls 3 [(0, .ref qk), (1, .int (nI (sx + 1)))] := lv_sub hl [1, 0] rfl
                exact ih2 (sx + 1) a2 _ _ _ (by omega) (by omega) (fun t h => by by_cases e9 : t = sx; (subst e9; rw [hb2, show i = ii by omega]; rfl); (exact hb1 t (by omega))) hP hD hS hl
              · have h24 : i < ii := Nat.lt_of_not_le (fun z => h24 ((nI_leI (a := ii) (b := i) (by omega) (by omega)).mpr z))
                refine lv_aload_n hx hb dK_joinSteps_27 rfl (lv_at hl 0 rfl) ?_
                refine va_get (D := gD G) (ci := 2) (v := .ref k4) (C := "CircuitProver$Machine") (T := TK) (N := 9) hx hb htb inK hown hK hP 0 rfl rfl 7 (by decide) (htb _ b117) (fun _ h9 => h9) rfl dK_joinSteps_28 ?_
                refine lv_iload_n hx hb dK_joinSteps_31 rfl (lv_at hl 1 rfl) ?_
                refine lv_dup2_11 hx hb dK_joinSteps_32 rfl rfl ?_
                refine k_lald hx hb hK hP 2 rfl (k := sx) (by omega) (by decide) dK_joinSteps_33 ?_
                refine lv_lconst (v := 1) hx hb dK_joinSteps_34 (by decide) ?_
                refine lv_aload_n hx hb dK_joinSteps_35 rfl (lv_at hl 0 rfl) ?_
                refine lv_iload_n hx hb dK_joinSteps_36 rfl (lv_at hl 1 rfl) ?_
                refine lv_iload_n hx hb dK_joinSteps_37 rfl (lv_at hl 2 rfl) ?_
                refine k_i (ws2 := fun u => [(qk, .inr (2, [.ref k1, .int (nI la), .int (nI ss), .int (nI ii), .int (nI ks), .ref k2, .ref k3, .ref k4, .long kb])), (k2, aJ G 48 kn), (k4, aJ G 64 a2)]) (wr := [(k4, aJ G 64 a2)]) (k_runV (n := 2) (As := [.int (nI sx), .int (nI i)]) (rest := [.long 1, .long (a2 sx), .int (nI sx), .ref k4]) hx hb hml hown htb hP hD hK hS hA hE (k_K_next l G H.size qk k1 k2 k3 k4 la ss ii ks kb kn sx i (show la ≤ 6 from by omega) (show i < 8 from by omega) (show sx < 64 from by omega)) b430 b431 b432 b4 b433 (by decide +kernel) rfl rfl ⟨by rw [hRf]; exact Nat.le_of_ble_eq_true rfl, by rw [hRl]; exact Nat.le_of_ble_eq_true rfl⟩ [0, 1] rfl (by decide) 0 rfl rfl rfl rfl hl.1 rfl (Nat.le_of_ble_eq_true rfl) dK_joinSteps_38 ⟨Nat.zero_le _, Nat.zero_le _⟩) hP hD hS hA [0, 1] [2] [1, 2, 0] rfl rfl (by decide) (by decide) (fun u => rfl) (by decide) (fun r u H locs hw hP hD hS => ?_)
                obtain ⟨rfl, rfl⟩ := hw
                have hP : va_P (gD G) vC [(qk, .inr (2, [.ref k1, .int (nI la), .int (nI ss), .int (nI ii), .int (nI ks), .ref k2, .ref k3, .ref k4, .long kb])), (k2, aJ G 48 kn), (k4, aJ G 64 a2)] H := hP
                have hD : va_D A [(qk, .inr (2, [.ref k1, .int (nI la), .int (nI ss), .int (nI ii), .int (nI ks), .ref k2, .ref k3, .ref k4, .long kb])), (k2, aJ G 48 kn), (k4, aJ G 64 a2)] := hD
                have hnx := nxC_lt kn la sx i
                have hp2 := p2_le hla
                refine lv_lshl (v := sg (nxC kn la sx i)) hx hb dK_joinSteps_41 rfl ?_
                refine lv_lor hx hb dK_joinSteps_42 ?_
                refine k_last hx hb hK hP hD hS 2 rfl (k := sx) (v := (a2 sx) ||| (sg (nxC kn la sx i))) (by omega) (by decide) dK_joinSteps_43 (fun H locs hP hD hS => ?_)
                have hP : va_P (gD G) vC [(qk, .inr (2, [.ref k1, .int (nI la), .int (nI ss), .int (nI ii), .int (nI ks), .ref k2, .ref k3, .ref k4, .long kb])), (k2, aJ G 48 kn), (k4, aJ G 64 (va_up a2 sx ((a2 sx) ||| (sg (nxC kn la sx i)))))] H := hP
                have hD : va_D A [(qk, .inr (2, [.ref k1, .int (nI la), .int (nI ss), .int (nI ii), .int (nI ks), .ref k2, .ref k3, .ref k4, .long kb])), (k2, aJ G 48 kn), (k4, aJ G 64 (va_up a2 sx ((a2 sx) ||| (sg (nxC kn la sx i)))))] := hD
                refine lv_iinc (v := nI (i + 1)) (lv' := [(2, .int (nI (i + 1))), (0, .ref qk), (1, .int (nI sx))]) hx hb dK_joinSteps_44 hl (k := 2) rfl (nI_add _ 1) (by decide) rfl (fun ls hl => ?_)
                refine lv_goto (tgt := 19) hx hb dK_joinSteps_47 rfl ?_
                have hl : lv_has ls 3 [(0, .ref qk), (1, .int (nI sx)), (2, .int (nI (i + 1)))] := lv_sub hl [1, 2, 0] rfl
                exact ih19 (i + 1) (va_up a2 sx ((a2 sx) ||| (sg (nxC kn la sx i)))) _ _ _ (by omega) (by omega) (fun t h => by rw [va_up_ne _ _ (by omega)]; exact hb1 t h) (by rw [va_up_self, it_s, ← hb2]) hP hD hS hl
          have hl : lv_has ls 3 [(0, .ref qk), (1, .int (nI sx)), (2, .int (nI 0))] := lv_sub hl [1, 2, 0] rfl
          exact loop19 (ii - 0 + 1) 0 (va_up a1 sx 0) _ _ _ (by omega) (by omega) (fun t h => by rw [va_up_ne _ _ (by omega)]; exact ha t h) (va_up_self _ _ _) hP hD hS hl
    have hl : lv_has ls 3 [(0, .ref qk), (1, .int (nI 0))] := lv_sub hl [1, 0] rfl
    exact loop2 (ss - 0 + 1) 0 ka _ _ _ (by omega) (by omega) (fun t h => absurd h (Nat.not_lt_zero t)) hP hD hS hl
  rw [hH, hlc] at hgo
  exact hgo
