def mi (a b : Nat) : Nat := if b < a then b else a
theorem mi_s (a b : Nat) : mi a b ≤ a ∧ mi a b ≤ b ∧ (mi a b = a ∨ mi a b = b) := by
  unfold mi
  split <;> omega
theorem near_at {na Nf : Nat → Int64} {ns k : Nat} (h1 : 1 ≤ ns) (hk : 1 ≤ k) (hna : ∀ j, j < ns → na j = Nf j) (hst : ∀ j, ns - 1 ≤ j → Nf j = Nf (ns - 1)) : na (mi k ns - 1) = Nf (k - 1) := by
  obtain ⟨a, b, c⟩ := mi_s k ns
  rw [hna _ (by omega)]
  rcases c with e | e
  · rw [e]
  · rw [e, hst (k - 1) (by omega)]
theorem or_same {x y : Int64} (h : (x ||| y) = x) {i : Nat} (hi : lb y i = true) : lb x i = true := by
  rw [← h, lb_or, hi, Bool.or_true]
set_option maxRecDepth 100000 in
set_option maxHeartbeats 4000000 in
theorem k_A_isSafe (l : Launch) (G : GG) (sz : Nat) (qa : Nat) (r1 : Nat) (r2 : Nat) (ns : Nat) (re : Int64) (sp : Int32) (lr : Nat) (rt : Nat) (vi : Int64) : Ki l yA_isSafe cA_isSafe 1 .boolean 0 0 G [.ref qa] [(qa, .inr (0, [.ref r1, .int (nI ns), .long re, .int sp, .ref r2, .int (nI lr), .int (nI rt), .long vi]))] sz (fun (r : Int32) (u : Unit) => (sp = (-1) ∧ nI 1 = r ∧ () = u) ∨ (¬ sp = (-1) ∧ nI 0 = r ∧ () = u)) (fun (u : Unit) => [(qa, .inr (0, [.ref r1, .int (nI ns), .long re, .int sp, .ref r2, .int (nI lr), .int (nI rt), .long vi]))]) := by
  refine Met.ofW (cc := cA_isSafe) (maxL := 1) (ret := (some .boolean)) (by decide) rfl ?_
  intro p e s m args below meth c s₁ B hml hv
  obtain ⟨hav, hsz, hP, hK, hD0, hE⟩ := hv
  have hx := B.exec
  have hb := B.bytes
  have hr := B.returns
  have htb : ∀ w ∈ TB, w.before args s = true := fun w h => atoms_spec (ws := Cond.code yA_isSafe cA_isSafe 1 (some .boolean) :: TB) B.pre w (List.mem_cons_of_mem _ h)
  have hown : s.vm.findClass "CircuitProver$Answer" = some m.cls := findClass_of_methodNamed B.named
  have hlocks := B.notSynchronized
  subst hsz
  have hD := hD0.self (sz := s.heap.size)
  clear hD0
  generalize hRm : (headSpec (Cond.code yA_isSafe cA_isSafe 1 (some .boolean) :: TB) { frames := 0, cells := 0, slots := 0, locals := 0 }).room = R
  have hRf : R.frames = 0 := by rw [← hRm]; rfl
  have hRl : R.locals = 0 := by rw [← hRm]; rfl
  have hRc : R.cells = 0 := by rw [← hRm]; rfl
  have hRs : R.slots = 0 := by rw [← hRm]; rfl
  clear hRm
  generalize hAe : va_A [(qa, .inr (0, [.ref r1, .int (nI ns), .long re, .int sp, .ref r2, .int (nI lr), .int (nI rt), .long vi]))] s.heap.size = A at hD hE ⊢
  have hA : ∀ q : Nat, s.heap.size ≤ q → A q := fun q h => by rw [← hAe]; exact Or.inr h
  clear hAe
  have hS : va_S A s.heap s.heap [] := va_S.rf
  have hl := lv_entry ([.ref qa]) (n := 1) (Nat.le_of_ble_eq_true rfl)
  have hent := lg_entry_eq m ([.ref qa]) 1
  rw [← hav] at hent
  rw [hent]
  clear hent hav
  generalize (lg_sl ([.ref qa]) ++ List.replicate (1 - (lg_sl ([.ref qa])).length) Slot.unset).toArray = ls at hl ⊢
  have hl : lv_has ls 1 [(0, .ref qa)] := hl
  generalize hQ : MQ below _ args s 0 0 _ = Q
  have hP : va_P (gD G) vC [(qa, .inr (0, [.ref r1, .int (nI ns), .long re, .int sp, .ref r2, .int (nI lr), .int (nI rt), .long vi]))] s.heap := hP
  obtain ⟨H, hH⟩ : ∃ H : Heap, H = s.heap := ⟨_, rfl⟩
  obtain ⟨locs, hlc⟩ : ∃ L : List Loc, L = [] := ⟨_, rfl⟩
  have hS : va_S A s.heap H locs := by rw [hH, hlc]; exact hS
  have hP : va_P (gD G) vC [(qa, .inr (0, [.ref r1, .int (nI ns), .long re, .int sp, .ref r2, .int (nI lr), .int (nI rt), .long vi]))] H := by rw [hH]; exact hP
  have hgo : W p l e R s m args below meth c H locs 0 0 Q (F0 m 0 ls []) := by
    clear hH hlc
    refine lv_aload_n hx hb dA_isSafe_0 rfl (lv_at hl 0 rfl) ?_
    refine va_get (D := gD G) (ci := 0) (v := .int sp) (C := "CircuitProver$Answer") (T := TA) (N := 8) hx hb htb inA hown hK hP 0 rfl rfl 3 (by decide) (htb _ b150) (fun _ h9 => h9) rfl dA_isSafe_1 ?_
    refine lv_iconst (v := (-1)) hx hb dA_isSafe_4 (by decide) ?_
    refine lv_icmp_ne (tgt := 12) hx hb dA_isSafe_5 rfl (fun h5 => ?_) (fun h5 => ?_)
    · skip
      refine lv_iconst (v := nI 0) hx hb dA_isSafe_12 (by decide) ?_
      -- end 0
      rw [← hQ]
      exact k_iret hx hb hr hlocks (by decide) (u := ()) (Or.inr ⟨h5, rfl, rfl⟩) hP hD hK hS dA_isSafe_13
    · skip
      refine lv_iconst (v := nI 1) hx hb dA_isSafe_8 (by decide) ?_
      refine lv_goto (tgt := 13) hx hb dA_isSafe_9 rfl ?_
      -- end 1
      rw [← hQ]
      exact k_iret hx hb hr hlocks (by decide) (u := ()) (Or.inl ⟨h5, rfl, rfl⟩) hP hD hK hS dA_isSafe_13
  rw [hH, hlc] at hgo
  exact hgo
set_option maxRecDepth 100000 in
set_option maxHeartbeats 4000000 in
theorem k_A_nearSet (l : Launch) (G : GG) (sz : Nat) (qa : Nat) (r1 : Nat) (r2 : Nat) (ns : Nat) (re : Int64) (sp : Int32) (lr : Nat) (rt : Nat) (vi : Int64) (na : Nat → Int64) (k : Nat) (Nf : Nat → Int64) (hk : 1 ≤ k ∧ k < 10000) (hns : 1 ≤ ns ∧ ns ≤ 64) (hna : ∀ j, j < ns → na j = Nf j) (hst : ∀ j, ns - 1 ≤ j → Nf j = Nf (ns - 1)) : Kl l yA_nearSet cA_nearSet 3 1 13 G [.ref qa, .int (nI k)] [(qa, .inr (0, [.ref r1, .int (nI ns), .long re, .int sp, .ref r2, .int (nI lr), .int (nI rt), .long vi])), (r1, aJ G 64 na)] sz (fun (r : Int64) (u : Unit) => (Nf (k - 1) = r ∧ () = u)) (fun (u : Unit) => [(qa, .inr (0, [.ref r1, .int (nI ns), .long re, .int sp, .ref r2, .int (nI lr), .int (nI rt), .long vi])), (r1, aJ G 64 na)]) := by
  refine Met.ofW (cc := cA_nearSet) (maxL := 3) (ret := (some .long)) (by decide) rfl ?_
  intro p e s m args below meth c s₁ B hml hv
  obtain ⟨hav, hsz, hP, hK, hD0, hE⟩ := hv
  have hx := B.exec
  have hb := B.bytes
  have hr := B.returns
  have htb : ∀ w ∈ TB, w.before args s = true := fun w h => atoms_spec (ws := Cond.code yA_nearSet cA_nearSet 3 (some .long) :: TB) B.pre w (List.mem_cons_of_mem _ h)
  have hown : s.vm.findClass "CircuitProver$Answer" = some m.cls := findClass_of_methodNamed B.named
  have hlocks := B.notSynchronized
  subst hsz
  have hD := hD0.self (sz := s.heap.size)
  clear hD0
  generalize hRm : (headSpec (Cond.code yA_nearSet cA_nearSet 3 (some .long) :: TB) { frames := 1, cells := 0, slots := 0, locals := 13 }).room = R
  have hRf : R.frames = 1 := by rw [← hRm]; rfl
  have hRl : R.locals = 13 := by rw [← hRm]; rfl
  have hRc : R.cells = 0 := by rw [← hRm]; rfl
  have hRs : R.slots = 0 := by rw [← hRm]; rfl
  clear hRm
  generalize hAe : va_A [(qa, .inr (0, [.ref r1, .int (nI ns), .long re, .int sp, .ref r2, .int (nI lr), .int (nI rt), .long vi])), (r1, aJ G 64 na)] s.heap.size = A at hD hE ⊢
  have hA : ∀ q : Nat, s.heap.size ≤ q → A q := fun q h => by rw [← hAe]; exact Or.inr h
  clear hAe
  have hS : va_S A s.heap s.heap [] := va_S.rf
  have hl := lv_entry ([.ref qa, .int (nI k)]) (n := 3) (Nat.le_of_ble_eq_true rfl)
  have hent := lg_entry_eq m ([.ref qa, .int (nI k)]) 3
  rw [← hav] at hent
  rw [hent]
  clear hent hav
  generalize (lg_sl ([.ref qa, .int (nI k)]) ++ List.replicate (3 - (lg_sl ([.ref qa, .int (nI k)])).length) Slot.unset).toArray = ls at hl ⊢
  have hl : lv_has ls 3 [(0, .ref qa), (1, .int (nI k))] := hl
  generalize hQ : MQ below _ args s 0 0 _ = Q
  have hP : va_P (gD G) vC [(qa, .inr (0, [.ref r1, .int (nI ns), .long re, .int sp, .ref r2, .int (nI lr), .int (nI rt), .long vi])), (r1, aJ G 64 na)] s.heap := hP
  obtain ⟨H, hH⟩ : ∃ H : Heap, H = s.heap := ⟨_, rfl⟩
  obtain ⟨locs, hlc⟩ : ∃ L : List Loc, L = [] := ⟨_, rfl⟩
  have hS : va_S A s.heap H locs := by rw [hH, hlc]; exact hS
  have hP : va_P (gD G) vC [(qa, .inr (0, [.ref r1, .int (nI ns), .long re, .int sp, .ref r2, .int (nI lr), .int (nI rt), .long vi])), (r1, aJ G 64 na)] H := by rw [hH]; exact hP
  have hgo : W p l e R s m args below meth c H locs 0 0 Q (F0 m 0 ls []) := by
    clear hH hlc
    refine lv_iload_n hx hb dA_nearSet_0 rfl (lv_at hl 1 rfl) ?_
    refine lv_aload_n hx hb dA_nearSet_1 rfl (lv_at hl 0 rfl) ?_
    refine va_get (D := gD G) (ci := 0) (v := .int (nI ns)) (C := "CircuitProver$Answer") (T := TA) (N := 8) hx hb htb inA hown hK hP 0 rfl rfl 1 (by decide) (htb _ b147) (fun _ h9 => h9) rfl dA_nearSet_2 ?_
    refine va_mmin hx hb (hml.trans hl.1.symm) hown (htb _ b474) (htb _ b408) (htb _ b14) (htb _ b409) (by rw [hRf]; exact Nat.le_of_ble_eq_true rfl) (by rw [hRl]; exact Nat.le_of_ble_eq_true rfl) (Nat.zero_le _) (Nat.zero_le _) dA_nearSet_5 ?_
    refine k_toi (y := nI (if ns < k then ns else k)) (mmin_n (by omega) (by omega)) ?_
    have hmi := mi_s k ns
    refine k_toi (y := nI (mi k ns)) (rfl) ?_
    refine lv_aload_n hx hb dA_nearSet_8 rfl (lv_at hl 0 rfl) ?_
    refine va_get (D := gD G) (ci := 0) (v := .ref r1) (C := "CircuitProver$Answer") (T := TA) (N := 8) hx hb htb inA hown hK hP 0 rfl rfl 0 (by decide) (htb _ b146) (fun _ h9 => h9) rfl dA_nearSet_9 ?_
    refine va_alen (v := nI 64) hx hb hK hP 1 3 rfl rfl rfl dA_nearSet_12 ?_
    refine va_mmin hx hb (hml.trans hl.1.symm) hown (htb _ b474) (htb _ b408) (htb _ b14) (htb _ b409) (by rw [hRf]; exact Nat.le_of_ble_eq_true rfl) (by rw [hRl]; exact Nat.le_of_ble_eq_true rfl) (Nat.zero_le _) (Nat.zero_le _) dA_nearSet_13 ?_
    refine k_toi (y := nI (if 64 < mi k ns then 64 else mi k ns)) (mmin_n (by omega) (by omega)) ?_
    refine k_toi (y := nI (mi k ns)) (by rw [if_neg (by omega)]) ?_
    refine lv_istore_n (lv' := [(2, .int (nI (mi k ns))), (0, .ref qa), (1, .int (nI k))]) hx hb dA_nearSet_16 rfl hl (by decide) rfl (fun ls hl => ?_)
    refine lv_iload_n hx hb dA_nearSet_17 rfl (lv_at hl 0 rfl) ?_
    refine lv_iconst (v := nI 1) hx hb dA_nearSet_18 (by decide) ?_
    refine lv_icmp_ge (tgt := 26) hx hb dA_nearSet_19 rfl (fun h19 => ?_) (fun h19 => ?_)
    · have h19 : 1 ≤ mi k ns := (nI_leI (a := 1) (b := mi k ns) (by omega) (by omega)).mp h19
      refine lv_aload_n hx hb dA_nearSet_26 rfl (lv_at hl 1 rfl) ?_
      refine va_get (D := gD G) (ci := 0) (v := .ref r1) (C := "CircuitProver$Answer") (T := TA) (N := 8) hx hb htb inA hown hK hP 0 rfl rfl 0 (by decide) (htb _ b146) (fun _ h9 => h9) rfl dA_nearSet_27 ?_
      refine lv_iload_n hx hb dA_nearSet_30 rfl (lv_at hl 0 rfl) ?_
      refine lv_iconst (v := nI 1) hx hb dA_nearSet_31 (by decide) ?_
      refine lv_isub hx hb dA_nearSet_32 ?_
      refine k_toi (y := nI ((mi k ns) - 1)) (pk_sub (by omega)) ?_
      refine k_lald hx hb hK hP 1 rfl (k := (mi k ns) - 1) (by omega) (by decide) dA_nearSet_33 ?_
      refine k_tol (y := Nf (k - 1)) (near_at hns.1 hk.1 hna hst) ?_
      -- end 0
      rw [← hQ]
      exact k_lret hx hb hr hlocks (u := ()) (⟨rfl, rfl⟩) hP hD hK hS dA_nearSet_34
    · have h19 : mi k ns < 1 := Nat.lt_of_not_le (fun z => h19 ((nI_leI (a := 1) (b := mi k ns) (by omega) (by omega)).mpr z))
      exfalso; omega
  rw [hH, hlc] at hgo
  exact hgo
set_option maxRecDepth 100000 in
set_option maxHeartbeats 4000000 in
theorem k_A_doomed (l : Launch) (G : GG) (sz : Nat) (qa : Nat) (r1 : Nat) (r2 : Nat) (ns : Nat) (re : Int64) (sp : Int32) (lr : Nat) (rt : Nat) (vi : Int64) (na : Nat → Int64) (Nf : Nat → Int64) (hns : 1 ≤ ns ∧ ns ≤ 64) (hna : ∀ j, j < ns → na j = Nf j) (hst : ∀ j, ns - 1 ≤ j → Nf j = Nf (ns - 1)) : Kl l yA_doomed cA_doomed 1 2 35 G [.ref qa] [(qa, .inr (0, [.ref r1, .int (nI ns), .long re, .int sp, .ref r2, .int (nI lr), .int (nI rt), .long vi])), (r1, aJ G 64 na)] sz (fun (r : Int64) (u : Unit) => (Nf (ns - 1) = r ∧ () = u)) (fun (u : Unit) => [(qa, .inr (0, [.ref r1, .int (nI ns), .long re, .int sp, .ref r2, .int (nI lr), .int (nI rt), .long vi])), (r1, aJ G 64 na)]) := by
  refine Met.ofW (cc := cA_doomed) (maxL := 1) (ret := (some .long)) (by decide) rfl ?_
  intro p e s m args below meth c s₁ B hml hv
  obtain ⟨hav, hsz, hP, hK, hD0, hE⟩ := hv
  have hx := B.exec
  have hb := B.bytes
  have hr := B.returns
  have htb : ∀ w ∈ TB, w.before args s = true := fun w h => atoms_spec (ws := Cond.code yA_doomed cA_doomed 1 (some .long) :: TB) B.pre w (List.mem_cons_of_mem _ h)
  have hown : s.vm.findClass "CircuitProver$Answer" = some m.cls := findClass_of_methodNamed B.named
  have hlocks := B.notSynchronized
  subst hsz
  have hD := hD0.self (sz := s.heap.size)
  clear hD0
  generalize hRm : (headSpec (Cond.code yA_doomed cA_doomed 1 (some .long) :: TB) { frames := 2, cells := 0, slots := 0, locals := 35 }).room = R
  have hRf : R.frames = 2 := by rw [← hRm]; rfl
  have hRl : R.locals = 35 := by rw [← hRm]; rfl
  have hRc : R.cells = 0 := by rw [← hRm]; rfl
  have hRs : R.slots = 0 := by rw [← hRm]; rfl
  clear hRm
  generalize hAe : va_A [(qa, .inr (0, [.ref r1, .int (nI ns), .long re, .int sp, .ref r2, .int (nI lr), .int (nI rt), .long vi])), (r1, aJ G 64 na)] s.heap.size = A at hD hE ⊢
  have hA : ∀ q : Nat, s.heap.size ≤ q → A q := fun q h => by rw [← hAe]; exact Or.inr h
  clear hAe
  have hS : va_S A s.heap s.heap [] := va_S.rf
  have hl := lv_entry ([.ref qa]) (n := 1) (Nat.le_of_ble_eq_true rfl)
  have hent := lg_entry_eq m ([.ref qa]) 1
  rw [← hav] at hent
  rw [hent]
  clear hent hav
  generalize (lg_sl ([.ref qa]) ++ List.replicate (1 - (lg_sl ([.ref qa])).length) Slot.unset).toArray = ls at hl ⊢
  have hl : lv_has ls 1 [(0, .ref qa)] := hl
  generalize hQ : MQ below _ args s 0 0 _ = Q
  have hP : va_P (gD G) vC [(qa, .inr (0, [.ref r1, .int (nI ns), .long re, .int sp, .ref r2, .int (nI lr), .int (nI rt), .long vi])), (r1, aJ G 64 na)] s.heap := hP
  obtain ⟨H, hH⟩ : ∃ H : Heap, H = s.heap := ⟨_, rfl⟩
  obtain ⟨locs, hlc⟩ : ∃ L : List Loc, L = [] := ⟨_, rfl⟩
  have hS : va_S A s.heap H locs := by rw [hH, hlc]; exact hS
  have hP : va_P (gD G) vC [(qa, .inr (0, [.ref r1, .int (nI ns), .long re, .int sp, .ref r2, .int (nI lr), .int (nI rt), .long vi])), (r1, aJ G 64 na)] H := by rw [hH]; exact hP
  have hgo : W p l e R s m args below meth c H locs 0 0 Q (F0 m 0 ls []) := by
    clear hH hlc
    refine lv_aload_n hx hb dA_doomed_0 rfl (lv_at hl 0 rfl) ?_
    refine lv_aload_n hx hb dA_doomed_1 rfl (lv_at hl 0 rfl) ?_
    refine va_get (D := gD G) (ci := 0) (v := .int (nI ns)) (C := "CircuitProver$Answer") (T := TA) (N := 8) hx hb htb inA hown hK hP 0 rfl rfl 1 (by decide) (htb _ b147) (fun _ h9 => h9) rfl dA_doomed_2 ?_
    refine k_l (ws2 := fun u => [(qa, .inr (0, [.ref r1, .int (nI ns), .long re, .int sp, .ref r2, .int (nI lr), .int (nI rt), .long vi])), (r1, aJ G 64 na)]) (wr := []) (k_runV (n := 1) (As := [.int (nI ns)]) (rest := []) hx hb hml hown htb hP hD hK hS hA hE (k_A_nearSet l G H.size qa r1 r2 ns re sp lr rt vi na ns Nf (show 1 ≤ ns ∧ ns < 10000 from by omega) (show 1 ≤ ns ∧ ns ≤ 64 from by omega) (show ∀ j, j < ns → na j = Nf j from hna) (show ∀ j, ns - 1 ≤ j → Nf j = Nf (ns - 1) from hst)) b470 b472 s20 b5 b473 (by decide +kernel) rfl rfl ⟨by rw [hRf]; exact Nat.le_of_ble_eq_true rfl, by rw [hRl]; exact Nat.le_of_ble_eq_true rfl⟩ [0, 1] rfl (by decide) 0 rfl rfl rfl rfl hl.1 rfl (Nat.le_of_ble_eq_true rfl) dA_doomed_5 ⟨Nat.zero_le _, Nat.zero_le _⟩) hP hD hS hA [0, 1] [] [0, 1] rfl rfl (by decide) (by decide) (fun u => rfl) (by decide) (fun r u H locs hw hP hD hS => ?_)
    obtain ⟨rfl, rfl⟩ := hw
    have hP : va_P (gD G) vC [(qa, .inr (0, [.ref r1, .int (nI ns), .long re, .int sp, .ref r2, .int (nI lr), .int (nI rt), .long vi])), (r1, aJ G 64 na)] H := hP
    have hD : va_D A [(qa, .inr (0, [.ref r1, .int (nI ns), .long re, .int sp, .ref r2, .int (nI lr), .int (nI rt), .long vi])), (r1, aJ G 64 na)] := hD
    -- end 0
    rw [← hQ]
    exact k_lret hx hb hr hlocks (u := ()) (⟨rfl, rfl⟩) hP hD hK hS dA_doomed_8
  rw [hH, hlc] at hgo
  exact hgo
set_option maxRecDepth 100000 in
set_option maxHeartbeats 4000000 in
theorem k_A_withoutLatch (l : Launch) (G : GG) (sz : Nat) (x : Int64) (j : Nat) (hj : j < 6) : Kl l yA_withoutLatch cA_withoutLatch 6 0 0 G [.long x, .int (nI j)] [] sz (fun (r : Int64) (u : Unit) => (wid x j = r ∧ () = u)) (fun (u : Unit) => []) := by
  refine Met.ofW (cc := cA_withoutLatch) (maxL := 6) (ret := (some .long)) (by decide) rfl ?_
  intro p e s m args below meth c s₁ B hml hv
  obtain ⟨hav, hsz, hP, hK, hD0, hE⟩ := hv
  have hx := B.exec
  have hb := B.bytes
  have hr := B.returns
  have htb : ∀ w ∈ TB, w.before args s = true := fun w h => atoms_spec (ws := Cond.code yA_withoutLatch cA_withoutLatch 6 (some .long) :: TB) B.pre w (List.mem_cons_of_mem _ h)
  have hown : s.vm.findClass "CircuitProver$Answer" = some m.cls := findClass_of_methodNamed B.named
  have hlocks := B.notSynchronized
  subst hsz
  have hD := hD0.self (sz := s.heap.size)
  clear hD0
  generalize hRm : (headSpec (Cond.code yA_withoutLatch cA_withoutLatch 6 (some .long) :: TB) { frames := 0, cells := 0, slots := 0, locals := 0 }).room = R
  have hRf : R.frames = 0 := by rw [← hRm]; rfl
  have hRl : R.locals = 0 := by rw [← hRm]; rfl
  have hRc : R.cells = 0 := by rw [← hRm]; rfl
  have hRs : R.slots = 0 := by rw [← hRm]; rfl
  clear hRm
  generalize hAe : va_A [] s.heap.size = A at hD hE ⊢
  have hA : ∀ q : Nat, s.heap.size ≤ q → A q := fun q h => by rw [← hAe]; exact Or.inr h
  clear hAe
  have hS : va_S A s.heap s.heap [] := va_S.rf
  have hl := lv_entry ([.long x, .int (nI j)]) (n := 6) (Nat.le_of_ble_eq_true rfl)
  have hent := lg_entry_eq m ([.long x, .int (nI j)]) 6
  rw [← hav] at hent
  rw [hent]
  clear hent hav
  generalize (lg_sl ([.long x, .int (nI j)]) ++ List.replicate (6 - (lg_sl ([.long x, .int (nI j)])).length) Slot.unset).toArray = ls at hl ⊢
  have hl : lv_has ls 6 [(0, .long x), (2, .int (nI j))] := hl
  generalize hQ : MQ below _ args s 0 0 _ = Q
  have hP : va_P (gD G) vC [] s.heap := hP
  obtain ⟨H, hH⟩ : ∃ H : Heap, H = s.heap := ⟨_, rfl⟩
  obtain ⟨locs, hlc⟩ : ∃ L : List Loc, L = [] := ⟨_, rfl⟩
  have hS : va_S A s.heap H locs := by rw [hH, hlc]; exact hS
  have hP : va_P (gD G) vC [] H := by rw [hH]; exact hP
  have hgo : W p l e R s m args below meth c H locs 0 0 Q (F0 m 0 ls []) := by
    clear hH hlc
    obtain ⟨tq, hZ, hT⟩ := hE.2.1
    refine va_getsN hx hb hZ hS hown (va_Nw.use rfl (hE.nw n482)) (fun _ h9 => h9) dA_withoutLatch_0 ?_
    refine lv_iload_n hx hb dA_withoutLatch_3 rfl (lv_at hl 1 rfl) ?_
    refine va_tl (v := .long (L1 j)) hx hb hT hS (vp_in_nI (show j < 6 by omega) (by decide)) (by rw [nI_clamp (by omega)]) dA_withoutLatch_4 ?_
    refine lv_lstore_n (lv' := [(3, .long (L1 j)), (0, .long x), (2, .int (nI j))]) hx hb dA_withoutLatch_5 rfl hl (by decide) rfl (fun ls hl => ?_)
    refine lv_iconst (v := nI 1) hx hb dA_withoutLatch_6 (by decide) ?_
    refine lv_iload_n hx hb dA_withoutLatch_7 rfl (lv_at hl 2 rfl) ?_
    refine lv_ishl hx hb dA_withoutLatch_8 ?_
    refine k_toi (y := nI (2 ^ j)) (sh1 (by omega)) ?_
    refine lv_istore (lv' := [(5, .int (nI (2 ^ j))), (3, .long (L1 j)), (0, .long x), (2, .int (nI j))]) hx hb dA_withoutLatch_9 hl (by decide) rfl (fun ls hl => ?_)
    refine lv_lload_n hx hb dA_withoutLatch_11 rfl (lv_at hl 2 rfl) ?_
    refine lv_lload_n hx hb dA_withoutLatch_12 rfl (lv_at hl 2 rfl) ?_
    refine lv_lload_n hx hb dA_withoutLatch_13 rfl (lv_at hl 1 rfl) ?_
    refine lv_land hx hb dA_withoutLatch_14 ?_
    refine lv_iload hx hb dA_withoutLatch_15 (lv_at hl 0 rfl) ?_
    refine lv_lushr (v := su (x &&& (L1 j)) (2 ^ j)) hx hb dA_withoutLatch_17 rfl ?_
    refine lv_lor hx hb dA_withoutLatch_18 ?_
    refine lv_lload_n hx hb dA_withoutLatch_19 rfl (lv_at hl 2 rfl) ?_
    refine lv_lload_n hx hb dA_withoutLatch_20 rfl (lv_at hl 1 rfl) ?_
    refine lv_ldc2 (v := (-1)) hx hb hown (htb _ b483) dA_withoutLatch_21 ?_
    refine lv_lxor hx hb dA_withoutLatch_24 ?_
    refine lv_land hx hb dA_withoutLatch_25 ?_
    refine lv_iload hx hb dA_withoutLatch_26 (lv_at hl 0 rfl) ?_
    refine lv_lshl (v := sl (x &&& ((L1 j) ^^^ (-1))) (2 ^ j)) hx hb dA_withoutLatch_28 rfl ?_
    refine lv_lor hx hb dA_withoutLatch_29 ?_
    -- end 0
    rw [← hQ]
    exact k_lret hx hb hr hlocks (u := ()) (⟨rfl, rfl⟩) hP hD hK hS dA_withoutLatch_30
  rw [hH, hlc] at hgo
  exact hgo
set_option maxRecDepth 100000 in
set_option maxHeartbeats 4000000 in
theorem k_A_widened (l : Launch) (G : GG) (sz : Nat) (qa : Nat) (r1 : Nat) (r2 : Nat) (ns : Nat) (re : Int64) (sp : Int32) (lr : Nat) (rt : Nat) (vi : Int64) (na : Nat → Int64) (x : Int64) (la : Nat) (Nf : Nat → Int64) (hla : la ≤ 6) (hlr : 1 ≤ lr ∧ lr ≤ 64) (hns : 1 ≤ ns ∧ ns ≤ 64) (hna : ∀ j, j < ns → na j = Nf j) (hst : ∀ j, ns - 1 ≤ j → Nf j = Nf (ns - 1)) : Kl l yA_widened cA_widened 9 2 35 G [.ref qa, .long x, .int (nI la)] [(qa, .inr (0, [.ref r1, .int (nI ns), .long re, .int sp, .ref r2, .int (nI lr), .int (nI rt), .long vi])), (r1, aJ G 64 na)] sz (fun (r : Int64) (u : Unit) => (widAll wid la (Nf (lr - 1)) x = r ∧ () = u)) (fun (u : Unit) => [(qa, .inr (0, [.ref r1, .int (nI ns), .long re, .int sp, .ref r2, .int (nI lr), .int (nI rt), .long vi])), (r1, aJ G 64 na)]) := by
  refine Met.ofW (cc := cA_widened) (maxL := 9) (ret := (some .long)) (by decide) rfl ?_
  intro p e s m args below meth c s₁ B hml hv
  obtain ⟨hav, hsz, hP, hK, hD0, hE⟩ := hv
  have hx := B.exec
  have hb := B.bytes
  have hr := B.returns
  have htb : ∀ w ∈ TB, w.before args s = true := fun w h => atoms_spec (ws := Cond.code yA_widened cA_widened 9 (some .long) :: TB) B.pre w (List.mem_cons_of_mem _ h)
  have hown : s.vm.findClass "CircuitProver$Answer" = some m.cls := findClass_of_methodNamed B.named
  have hlocks := B.notSynchronized
  subst hsz
  have hD := hD0.self (sz := s.heap.size)
  clear hD0
  generalize hRm : (headSpec (Cond.code yA_widened cA_widened 9 (some .long) :: TB) { frames := 2, cells := 0, slots := 0, locals := 35 }).room = R
  have hRf : R.frames = 2 := by rw [← hRm]; rfl
  have hRl : R.locals = 35 := by rw [← hRm]; rfl
  have hRc : R.cells = 0 := by rw [← hRm]; rfl
  have hRs : R.slots = 0 := by rw [← hRm]; rfl
  clear hRm
  generalize hAe : va_A [(qa, .inr (0, [.ref r1, .int (nI ns), .long re, .int sp, .ref r2, .int (nI lr), .int (nI rt), .long vi])), (r1, aJ G 64 na)] s.heap.size = A at hD hE ⊢
  have hA : ∀ q : Nat, s.heap.size ≤ q → A q := fun q h => by rw [← hAe]; exact Or.inr h
  clear hAe
  have hS : va_S A s.heap s.heap [] := va_S.rf
  have hl := lv_entry ([.ref qa, .long x, .int (nI la)]) (n := 9) (Nat.le_of_ble_eq_true rfl)
  have hent := lg_entry_eq m ([.ref qa, .long x, .int (nI la)]) 9
  rw [← hav] at hent
  rw [hent]
  clear hent hav
  generalize (lg_sl ([.ref qa, .long x, .int (nI la)]) ++ List.replicate (9 - (lg_sl ([.ref qa, .long x, .int (nI la)])).length) Slot.unset).toArray = ls at hl ⊢
  have hl : lv_has ls 9 [(0, .ref qa), (1, .long x), (3, .int (nI la))] := hl
  generalize hQ : MQ below _ args s 0 0 _ = Q
  have hP : va_P (gD G) vC [(qa, .inr (0, [.ref r1, .int (nI ns), .long re, .int sp, .ref r2, .int (nI lr), .int (nI rt), .long vi])), (r1, aJ G 64 na)] s.heap := hP
  obtain ⟨H, hH⟩ : ∃ H : Heap, H = s.heap := ⟨_, rfl⟩
  obtain ⟨locs, hlc⟩ : ∃ L : List Loc, L = [] := ⟨_, rfl⟩
  have hS : va_S A s.heap H locs := by rw [hH, hlc]; exact hS
  have hP : va_P (gD G) vC [(qa, .inr (0, [.ref r1, .int (nI ns), .long re, .int sp, .ref r2, .int (nI lr), .int (nI rt), .long vi])), (r1, aJ G 64 na)] H := by rw [hH]; exact hP
  have hgo : W p l e R s m args below meth c H locs 0 0 Q (F0 m 0 ls []) := by
    clear hH hlc
    refine lv_lload_n hx hb dA_widened_0 rfl (lv_at hl 1 rfl) ?_
    refine lv_lstore (lv' := [(4, .long x), (0, .ref qa), (1, .long x), (3, .int (nI la))]) hx hb dA_widened_1 hl (by decide) rfl (fun ls hl => ?_)
    refine lv_iconst (v := nI 0) hx hb dA_widened_3 (by decide) ?_
    refine lv_istore (lv' := [(6, .int (nI 0)), (4, .long x), (0, .ref qa), (1, .long x), (3, .int (nI la))]) hx hb dA_widened_4 hl (by decide) rfl (fun ls hl => ?_)
    have loop6 : ∀ (n : Nat) (w : Int64) (j : Nat) (H : Heap) (locs : List Loc) (ls : Array Slot), la - j < n → (j ≤ la) → (w = widAll wid j (Nf (lr - 1)) x) → va_P (gD G) vC [(qa, .inr (0, [.ref r1, .int (nI ns), .long re, .int sp, .ref r2, .int (nI lr), .int (nI rt), .long vi])), (r1, aJ G 64 na)] H → va_D A [(qa, .inr (0, [.ref r1, .int (nI ns), .long re, .int sp, .ref r2, .int (nI lr), .int (nI rt), .long vi])), (r1, aJ G 64 na)] → va_S A s.heap H locs → lv_has ls 9 [(0, .ref qa), (1, .long x), (3, .int (nI la)), (4, .long w), (6, .int (nI j))] → W p l e R s m args below meth c H locs 0 0 Q (F0 m 6 ls []) := by
      intro n
      induction n with
      | zero => intro w j H locs ls hmu; omega
      | succ n ih =>
        intro w j H locs ls hmu hj hw hP hD hS hl
        have ih6 := ih
        clear ih
        refine lv_iload hx hb dA_widened_6 (lv_at hl 4 rfl) ?_
        refine lv_iload_n hx hb dA_widened_8 rfl (lv_at hl 2 rfl) ?_
        refine lv_icmp_ge (tgt := 47) hx hb dA_widened_9 rfl (fun h9 => ?_) (fun h9 => ?_)
        · have h9 : la ≤ j := (nI_leI (a := la) (b := j) (by omega) (by omega)).mp h9
          refine lv_lload hx hb dA_widened_47 (lv_at hl 3 rfl) ?_
          -- end 0
          rw [← hQ]
          exact k_lret hx hb hr hlocks (u := ()) (⟨by rw [hw, show j = la by omega], rfl⟩) hP hD hK hS dA_widened_49
        · have h9 : j < la := Nat.lt_of_not_le (fun z => h9 ((nI_leI (a := la) (b := j) (by omega) (by omega)).mpr z))
          refine lv_lload hx hb dA_widened_12 (lv_at hl 3 rfl) ?_
          refine lv_iload hx hb dA_widened_14 (lv_at hl 4 rfl) ?_
          refine k_l (ws2 := fun u => [(qa, .inr (0, [.ref r1, .int (nI ns), .long re, .int sp, .ref r2, .int (nI lr), .int (nI rt), .long vi])), (r1, aJ G 64 na)]) (wr := [(qa, .inr (0, [.ref r1, .int (nI ns), .long re, .int sp, .ref r2, .int (nI lr), .int (nI rt), .long vi])), (r1, aJ G 64 na)]) (k_runS (n := 2) (As := [.long w, .int (nI j)]) (rest := []) (wc := []) hx hb hml hown htb hP hD hK hS hA hE (k_A_withoutLatch l G H.size w j (show j < 6 from by omega)) b479 b480 b5 b481 (by decide +kernel) rfl rfl ⟨by rw [hRf]; exact Nat.le_of_ble_eq_true rfl, by rw [hRl]; exact Nat.le_of_ble_eq_true rfl⟩ [] rfl (by decide) rfl hl.1 rfl (Nat.le_of_ble_eq_true rfl) dA_widened_16 ⟨Nat.zero_le _, Nat.zero_le _⟩) hP hD hS hA [] [0, 1] [0, 1] rfl rfl (by decide) (by decide) (fun u => rfl) (by decide) (fun r u H locs hw hP hD hS => ?_)
          obtain ⟨rfl, rfl⟩ := hw
          have hP : va_P (gD G) vC [(qa, .inr (0, [.ref r1, .int (nI ns), .long re, .int sp, .ref r2, .int (nI lr), .int (nI rt), .long vi])), (r1, aJ G 64 na)] H := hP
          have hD : va_D A [(qa, .inr (0, [.ref r1, .int (nI ns), .long re, .int sp, .ref r2, .int (nI lr), .int (nI rt), .long vi])), (r1, aJ G 64 na)] := hD
          refine lv_lstore (lv' := [(7, .long (wid w j)), (0, .ref qa), (1, .long x), (3, .int (nI la)), (4, .long w), (6, .int (nI j))]) hx hb dA_widened_19 hl (by decide) rfl (fun ls hl => ?_)
          refine lv_lload hx hb dA_widened_21 (lv_at hl 0 rfl) ?_
          refine lv_aload_n hx hb dA_widened_23 rfl (lv_at hl 1 rfl) ?_
          refine lv_aload_n hx hb dA_widened_24 rfl (lv_at hl 1 rfl) ?_
          refine va_get (D := gD G) (ci := 0) (v := .int (nI lr)) (C := "CircuitProver$Answer") (T := TA) (N := 8) hx hb htb inA hown hK hP 0 rfl rfl 5 (by decide) (htb _ b154) (fun _ h9 => h9) rfl dA_widened_25 ?_
          refine k_l (ws2 := fun u => [(qa, .inr (0, [.ref r1, .int (nI ns), .long re, .int sp, .ref r2, .int (nI lr), .int (nI rt), .long vi])), (r1, aJ G 64 na)]) (wr := []) (k_runV (n := 1) (As := [.int (nI lr)]) (rest := [.long (wid w j)]) hx hb hml hown htb hP hD hK hS hA hE (k_A_nearSet l G H.size qa r1 r2 ns re sp lr rt vi na lr Nf (show 1 ≤ lr ∧ lr < 10000 from by omega) (show 1 ≤ ns ∧ ns ≤ 64 from by omega) (show ∀ j, j < ns → na j = Nf j from hna) (show ∀ j, ns - 1 ≤ j → Nf j = Nf (ns - 1) from hst)) b470 b472 s20 b5 b473 (by decide +kernel) rfl rfl ⟨by rw [hRf]; exact Nat.le_of_ble_eq_true rfl, by rw [hRl]; exact Nat.le_of_ble_eq_true rfl⟩ [0, 1] rfl (by decide) 0 rfl rfl rfl rfl hl.1 rfl (Nat.le_of_ble_eq_true rfl) dA_widened_28 ⟨Nat.zero_le _, Nat.zero_le _⟩) hP hD hS hA [0, 1] [] [0, 1] rfl rfl (by decide) (by decide) (fun u => rfl) (by decide) (fun r u H locs hw hP hD hS => ?_)
          obtain ⟨rfl, rfl⟩ := hw
          have hP : va_P (gD G) vC [(qa, .inr (0, [.ref r1, .int (nI ns), .long re, .int sp, .ref r2, .int (nI lr), .int (nI rt), .long vi])), (r1, aJ G 64 na)] H := hP
          have hD : va_D A [(qa, .inr (0, [.ref r1, .int (nI ns), .long re, .int sp, .ref r2, .int (nI lr), .int (nI rt), .long vi])), (r1, aJ G 64 na)] := hD
          refine lv_land hx hb dA_widened_31 ?_
          refine lv_lconst (v := 0) hx hb dA_widened_32 (by decide) ?_
          refine W.lcmp hx hb dA_widened_33 ?_
          refine lv_if_ne (tgt := 41) hx hb dA_widened_34 rfl (fun h34 => ?_) (fun h34 => ?_)
          · have h34 : ¬ ((wid w j) &&& (Nf (lr - 1))) = 0 := fun z => h34 ((lg_cmp_eq _ _).mpr z)
            refine lv_iinc (v := nI (j + 1)) (lv' := [(6, .int (nI (j + 1))), (7, .long (wid w j)), (0, .ref qa), (1, .long x), (3, .int (nI la)), (4, .long w)]) hx hb dA_widened_41 hl (k := 5) rfl (nI_add _ 1) (by decide) rfl (fun ls hl => ?_)
            refine lv_goto (tgt := 6) hx hb dA_widened_44 rfl ?_
            have hl : lv_has ls 9 [(0, .ref qa), (1, .long x), (3, .int (nI la)), (4, .long w), (6, .int (nI (j + 1)))] := lv_sub hl [2, 3, 4, 5, 0] rfl
            exact ih6 w (j + 1) _ _ _ (by omega) (by omega) (by unfold widAll; rw [it_s]; unfold widAll at hw; rw [← hw]; first | rw [if_pos h34] | rw [if_neg h34]) hP hD hS hl
          · have h34 : ((wid w j) &&& (Nf (lr - 1))) = 0 := (lg_cmp_eq _ _).mp h34
            refine lv_lload hx hb dA_widened_37 (lv_at hl 0 rfl) ?_
            refine lv_lstore (lv' := [(4, .long (wid w j)), (7, .long (wid w j)), (0, .ref qa), (1, .long x), (3, .int (nI la)), (6, .int (nI j))]) hx hb dA_widened_39 hl (by decide) rfl (fun ls hl => ?_)
            refine lv_iinc (v := nI (j + 1)) (lv' := [(6, .int (nI (j + 1))), (4, .long (wid w j)), (7, .long (wid w j)), (0, .ref qa), (1, .long x), (3, .int (nI la))]) hx hb dA_widened_41 hl (k := 5) rfl (nI_add _ 1) (by decide) rfl (fun ls hl => ?_)
            refine lv_goto (tgt := 6) hx hb dA_widened_44 rfl ?_
            have hl : lv_has ls 9 [(0, .ref qa), (1, .long x), (3, .int (nI la)), (4, .long (wid w j)), (6, .int (nI (j + 1)))] := lv_sub hl [3, 4, 5, 1, 0] rfl
            exact ih6 (wid w j) (j + 1) _ _ _ (by omega) (by omega) (by unfold widAll; rw [it_s]; unfold widAll at hw; rw [← hw]; first | rw [if_pos h34] | rw [if_neg h34]) hP hD hS hl
    have hl : lv_has ls 9 [(0, .ref qa), (1, .long x), (3, .int (nI la)), (4, .long x), (6, .int (nI 0))] := lv_sub hl [2, 3, 4, 1, 0] rfl
    exact loop6 (la - 0 + 1) x 0 _ _ _ (by omega) (by omega) rfl hP hD hS hl
  rw [hH, hlc] at hgo
  exact hgo
set_option maxRecDepth 100000 in
set_option maxHeartbeats 4000000 in
theorem k_A_findNear (l : Launch) (G : GG) (sz : Nat) (qa : Nat) (r1 : Nat) (r2 : Nat) (ns : Nat) (re : Int64) (sp : Int32) (lr : Nat) (rt : Nat) (vi : Int64) (na : Nat → Int64) (qk : Nat) (k1 : Nat) (k2 : Nat) (k3 : Nat) (k4 : Nat) (la : Nat) (ss : Nat) (ii : Nat) (ks : Nat) (kb : Int64) (ka : Nat → Int64) (nx : Nat → Nat → Nat) (hz : ss ≤ 64) (hka : ∀ sx, sx < ss → ka sx = aftOf ii nx sx) (hn6 : ∀ sx i, sx < ss → i < ii → nx sx i < 64) : Kv l yA_findNear cA_findNear 5 1 25 0 0 G [.ref qa, .ref qk] [(qa, .inr (0, [.ref r1, .int (nI ns), .long re, .int sp, .ref r2, .int (nI lr), .int (nI rt), .long vi])), (r1, aJ G 64 na), (qk, .inr (2, [.ref k1, .int (nI la), .int (nI ss), .int (nI ii), .int (nI ks), .ref k2, .ref k3, .ref k4, .long kb])), (k4, aJ G 64 ka)] sz (fun (u : (Nat → Int64) × Nat) => (∃ (n9 : Nat → Int64), ∃ (m9 : Nat), (1 ≤ m9 ∧ m9 ≤ 64) ∧ (∀ j, j < m9 → n9 j = gr (preOf ss ii nx) j kb) ∧ (∀ j, m9 - 1 ≤ j → gr (preOf ss ii nx) j kb = gr (preOf ss ii nx) (m9 - 1) kb) ∧ (n9, m9) = u)) (fun (u : (Nat → Int64) × Nat) => [(qa, .inr (0, [.ref r1, .int (nI u.2), .long re, .int sp, .ref r2, .int (nI lr), .int (nI rt), .long vi])), (r1, aJ G 64 u.1), (qk, .inr (2, [.ref k1, .int (nI la), .int (nI ss), .int (nI ii), .int (nI ks), .ref k2, .ref k3, .ref k4, .long kb])), (k4, aJ G 64 ka)]) := by
  refine Met.ofW (cc := cA_findNear) (maxL := 5) (ret := none) (by decide) rfl ?_
  intro p e s m args below meth c s₁ B hml hv
  obtain ⟨hav, hsz, hP, hK, hD0, hE⟩ := hv
  have hx := B.exec
  have hb := B.bytes
  have hr := B.returns
  have htb : ∀ w ∈ TB, w.before args s = true := fun w h => atoms_spec (ws := Cond.code yA_findNear cA_findNear 5 none :: TB) B.pre w (List.mem_cons_of_mem _ h)
  have hown : s.vm.findClass "CircuitProver$Answer" = some m.cls := findClass_of_methodNamed B.named
  have hlocks := B.notSynchronized
  subst hsz
  have hD := hD0.self (sz := s.heap.size)
  clear hD0
  generalize hRm : (headSpec (Cond.code yA_findNear cA_findNear 5 none :: TB) { frames := 1, cells := 0, slots := 0, locals := 25 }).room = R
  have hRf : R.frames = 1 := by rw [← hRm]; rfl
  have hRl : R.locals = 25 := by rw [← hRm]; rfl
  have hRc : R.cells = 0 := by rw [← hRm]; rfl
  have hRs : R.slots = 0 := by rw [← hRm]; rfl
  clear hRm
  generalize hAe : va_A [(qa, .inr (0, [.ref r1, .int (nI ns), .long re, .int sp, .ref r2, .int (nI lr), .int (nI rt), .long vi])), (r1, aJ G 64 na), (qk, .inr (2, [.ref k1, .int (nI la), .int (nI ss), .int (nI ii), .int (nI ks), .ref k2, .ref k3, .ref k4, .long kb])), (k4, aJ G 64 ka)] s.heap.size = A at hD hE ⊢
  have hA : ∀ q : Nat, s.heap.size ≤ q → A q := fun q h => by rw [← hAe]; exact Or.inr h
  clear hAe
  have hS : va_S A s.heap s.heap [] := va_S.rf
  have hl := lv_entry ([.ref qa, .ref qk]) (n := 5) (Nat.le_of_ble_eq_true rfl)
  have hent := lg_entry_eq m ([.ref qa, .ref qk]) 5
  rw [← hav] at hent
  rw [hent]
  clear hent hav
  generalize (lg_sl ([.ref qa, .ref qk]) ++ List.replicate (5 - (lg_sl ([.ref qa, .ref qk])).length) Slot.unset).toArray = ls at hl ⊢
  have hl : lv_has ls 5 [(0, .ref qa), (1, .ref qk)] := hl
  generalize hQ : MQ below _ args s 0 0 _ = Q
  have hP : va_P (gD G) vC [(qa, .inr (0, [.ref r1, .int (nI ns), .long re, .int sp, .ref r2, .int (nI lr), .int (nI rt), .long vi])), (r1, aJ G 64 na), (qk, .inr (2, [.ref k1, .int (nI la), .int (nI ss), .int (nI ii), .int (nI ks), .ref k2, .ref k3, .ref k4, .long kb])), (k4, aJ G 64 ka)] s.heap := hP
  obtain ⟨H, hH⟩ : ∃ H : Heap, H = s.heap := ⟨_, rfl⟩
  obtain ⟨locs, hlc⟩ : ∃ L : List Loc, L = [] := ⟨_, rfl⟩
  have hS : va_S A s.heap H locs := by rw [hH, hlc]; exact hS
  have hP : va_P (gD G) vC [(qa, .inr (0, [.ref r1, .int (nI ns), .long re, .int sp, .ref r2, .int (nI lr), .int (nI rt), .long vi])), (r1, aJ G 64 na), (qk, .inr (2, [.ref k1, .int (nI la), .int (nI ss), .int (nI ii), .int (nI ks), .ref k2, .ref k3, .ref k4, .long kb])), (k4, aJ G 64 ka)] H := by rw [hH]; exact hP
  have hgo : W p l e R s m args below meth c H locs 0 0 Q (F0 m 0 ls []) := by
    clear hH hlc
    refine lv_aload_n hx hb dA_findNear_0 rfl (lv_at hl 0 rfl) ?_
    refine va_get (D := gD G) (ci := 0) (v := .ref r1) (C := "CircuitProver$Answer") (T := TA) (N := 8) hx hb htb inA hown hK hP 0 rfl rfl 0 (by decide) (htb _ b146) (fun _ h9 => h9) rfl dA_findNear_1 ?_
    refine lv_iconst (v := nI 0) hx hb dA_findNear_4 (by decide) ?_
    refine lv_aload_n hx hb dA_findNear_5 rfl (lv_at hl 1 rfl) ?_
    refine va_getN (D := gD G) (ci := 2) (v := .long kb) (C := "CircuitProver$Machine") (T := TK) (N := 9) hx hb htb inK hown hK hP 2 rfl rfl 8 (by decide) (va_Nw.use rfl (hE.nw n119)) (fun _ h9 => h9) rfl dA_findNear_6 ?_
    refine k_last hx hb hK hP hD hS 1 rfl (k := 0) (v := kb) (by omega) (by decide) dA_findNear_9 (fun H locs hP hD hS => ?_)
    have hP : va_P (gD G) vC [(qa, .inr (0, [.ref r1, .int (nI ns), .long re, .int sp, .ref r2, .int (nI lr), .int (nI rt), .long vi])), (r1, aJ G 64 (va_up na 0 kb)), (qk, .inr (2, [.ref k1, .int (nI la), .int (nI ss), .int (nI ii), .int (nI ks), .ref k2, .ref k3, .ref k4, .long kb])), (k4, aJ G 64 ka)] H := hP
    have hD : va_D A [(qa, .inr (0, [.ref r1, .int (nI ns), .long re, .int sp, .ref r2, .int (nI lr), .int (nI rt), .long vi])), (r1, aJ G 64 (va_up na 0 kb)), (qk, .inr (2, [.ref k1, .int (nI la), .int (nI ss), .int (nI ii), .int (nI ks), .ref k2, .ref k3, .ref k4, .long kb])), (k4, aJ G 64 ka)] := hD
    refine lv_aload_n hx hb dA_findNear_10 rfl (lv_at hl 0 rfl) ?_
    refine lv_iconst (v := nI 1) hx hb dA_findNear_11 (by decide) ?_
    refine va_put (D := gD G) (ci := 0) (v := .int (nI 1)) (ty := tyA 1) (C := "CircuitProver$Answer") (T := TA) (N := 8) hx hb htb inA tyA tyA_ok nmA hown hK hP hD hS 0 rfl rfl 1 (by decide) (htb _ b147) (fun _ h9 => h9) rfl (tyA_ok 1 (by decide)) rfl rfl (Nat.le_of_ble_eq_true rfl) dA_findNear_12 (fun H locs hP hD hS => ?_)
    have hP : va_P (gD G) vC [(qa, .inr (0, [.ref r1, .int (nI 1), .long re, .int sp, .ref r2, .int (nI lr), .int (nI rt), .long vi])), (r1, aJ G 64 (va_up na 0 kb)), (qk, .inr (2, [.ref k1, .int (nI la), .int (nI ss), .int (nI ii), .int (nI ks), .ref k2, .ref k3, .ref k4, .long kb])), (k4, aJ G 64 ka)] H := hP
    have hD : va_D A [(qa, .inr (0, [.ref r1, .int (nI 1), .long re, .int sp, .ref r2, .int (nI lr), .int (nI rt), .long vi])), (r1, aJ G 64 (va_up na 0 kb)), (qk, .inr (2, [.ref k1, .int (nI la), .int (nI ss), .int (nI ii), .int (nI ks), .ref k2, .ref k3, .ref k4, .long kb])), (k4, aJ G 64 ka)] := hD
    refine lv_iconst (v := nI 1) hx hb dA_findNear_15 (by decide) ?_
    refine lv_istore_n (lv' := [(2, .int (nI 1)), (0, .ref qa), (1, .ref qk)]) hx hb dA_findNear_16 rfl hl (by decide) rfl (fun ls hl => ?_)
    have loop17 : ∀ (n : Nat) (k : Nat) (n9 : Nat → Int64) (m9 : Nat) (H : Heap) (locs : List Loc) (ls : Array Slot), 64 - k < n → (1 ≤ k ∧ k ≤ 64 ∧ m9 = k) → (∀ j, j < k → n9 j = gr (preOf ss ii nx) j kb) → va_P (gD G) vC [(qa, .inr (0, [.ref r1, .int (nI m9), .long re, .int sp, .ref r2, .int (nI lr), .int (nI rt), .long vi])), (r1, aJ G 64 n9), (qk, .inr (2, [.ref k1, .int (nI la), .int (nI ss), .int (nI ii), .int (nI ks), .ref k2, .ref k3, .ref k4, .long kb])), (k4, aJ G 64 ka)] H → va_D A [(qa, .inr (0, [.ref r1, .int (nI m9), .long re, .int sp, .ref r2, .int (nI lr), .int (nI rt), .long vi])), (r1, aJ G 64 n9), (qk, .inr (2, [.ref k1, .int (nI la), .int (nI ss), .int (nI ii), .int (nI ks), .ref k2, .ref k3, .ref k4, .long kb])), (k4, aJ G 64 ka)] → va_S A s.heap H locs → lv_has ls 5 [(0, .ref qa), (1, .ref qk), (2, .int (nI k))] → W p l e R s m args below meth c H locs 0 0 Q (F0 m 17 ls []) := by
      intro n
      induction n with
      | zero => intro k n9 m9 H locs ls hmu; omega
      | succ n ih =>
        intro k n9 m9 H locs ls hmu hk ha hP hD hS hl
        have ih17 := ih
        clear ih
        refine lv_iload_n hx hb dA_findNear_17 rfl (lv_at hl 2 rfl) ?_
        refine lv_aload_n hx hb dA_findNear_18 rfl (lv_at hl 0 rfl) ?_
        refine va_get (D := gD G) (ci := 0) (v := .ref r1) (C := "CircuitProver$Answer") (T := TA) (N := 8) hx hb htb inA hown hK hP 0 rfl rfl 0 (by decide) (htb _ b146) (fun _ h9 => h9) rfl dA_findNear_19 ?_
        refine va_alen (v := nI 64) hx hb hK hP 1 3 rfl rfl rfl dA_findNear_22 ?_
        refine lv_icmp_ge (tgt := 82) hx hb dA_findNear_23 rfl (fun h23 => ?_) (fun h23 => ?_)
        · have h23 : 64 ≤ k := (nI_leI (a := 64) (b := k) (by omega) (by omega)).mp h23
          -- end 0
          rw [← hQ]
          exact k_vret hx hb hr hlocks (u := (n9, m9)) (⟨n9, m9, by omega, fun j hj => ha j (by omega), fun j hj => by rw [show m9 - 1 = 63 by omega]; exact gr_63 (pre_0 hz) (by omega), rfl⟩) hP hD hK hS dA_findNear_82
        · have h23 : k < 64 := Nat.lt_of_not_le (fun z => h23 ((nI_leI (a := 64) (b := k) (by omega) (by omega)).mpr z))
          refine lv_aload_n hx hb dA_findNear_26 rfl (lv_at hl 0 rfl) ?_
          refine va_get (D := gD G) (ci := 0) (v := .ref r1) (C := "CircuitProver$Answer") (T := TA) (N := 8) hx hb htb inA hown hK hP 0 rfl rfl 0 (by decide) (htb _ b146) (fun _ h9 => h9) rfl dA_findNear_27 ?_
          refine lv_iload_n hx hb dA_findNear_30 rfl (lv_at hl 2 rfl) ?_
          refine lv_iconst (v := nI 1) hx hb dA_findNear_31 (by decide) ?_
          refine lv_isub hx hb dA_findNear_32 ?_
          refine k_toi (y := nI (k - 1)) (pk_sub (by omega)) ?_
          refine k_lald hx hb hK hP 1 rfl (k := k - 1) (by omega) (by decide) dA_findNear_33 ?_
          refine lv_aload_n hx hb dA_findNear_34 rfl (lv_at hl 1 rfl) ?_
          refine lv_aload_n hx hb dA_findNear_35 rfl (lv_at hl 0 rfl) ?_
          refine va_get (D := gD G) (ci := 0) (v := .ref r1) (C := "CircuitProver$Answer") (T := TA) (N := 8) hx hb htb inA hown hK hP 0 rfl rfl 0 (by decide) (htb _ b146) (fun _ h9 => h9) rfl dA_findNear_36 ?_
          refine lv_iload_n hx hb dA_findNear_39 rfl (lv_at hl 2 rfl) ?_
          refine lv_iconst (v := nI 1) hx hb dA_findNear_40 (by decide) ?_
          refine lv_isub hx hb dA_findNear_41 ?_
          refine k_toi (y := nI (k - 1)) (pk_sub (by omega)) ?_
          refine k_lald hx hb hK hP 1 rfl (k := k - 1) (by omega) (by decide) dA_findNear_42 ?_
          refine k_l (ws2 := fun u => [(qa, .inr (0, [.ref r1, .int (nI m9), .long re, .int sp, .ref r2, .int (nI lr), .int (nI rt), .long vi])), (r1, aJ G 64 n9), (qk, .inr (2, [.ref k1, .int (nI la), .int (nI ss), .int (nI ii), .int (nI ks), .ref k2, .ref k3, .ref k4, .long kb])), (k4, aJ G 64 ka)]) (wr := [(qa, .inr (0, [.ref r1, .int (nI m9), .long re, .int sp, .ref r2, .int (nI lr), .int (nI rt), .long vi])), (r1, aJ G 64 n9)]) (k_runV (n := 1) (As := [.long (n9 (k - 1))]) (rest := [.long (n9 (k - 1))]) hx hb hml hown htb hP hD hK hS hA hE (k_K_before l G H.size qk k1 k2 k3 k4 la ss ii ks kb ka (n9 (k - 1)) (show ss ≤ 64 from by omega)) b445 b446 b447 b4 b448 (by decide +kernel) rfl rfl ⟨by rw [hRf]; exact Nat.le_of_ble_eq_true rfl, by rw [hRl]; exact Nat.le_of_ble_eq_true rfl⟩ [2, 3] rfl (by decide) 2 rfl rfl rfl rfl hl.1 rfl (Nat.le_of_ble_eq_true rfl) dA_findNear_43 ⟨Nat.zero_le _, Nat.zero_le _⟩) hP hD hS hA [2, 3] [0, 1] [0, 1, 2, 3] rfl rfl (by decide) (by decide) (fun u => rfl) (by decide) (fun r u H locs hw hP hD hS => ?_)
          obtain ⟨rfl, rfl⟩ := hw
          have hP : va_P (gD G) vC [(qa, .inr (0, [.ref r1, .int (nI m9), .long re, .int sp, .ref r2, .int (nI lr), .int (nI rt), .long vi])), (r1, aJ G 64 n9), (qk, .inr (2, [.ref k1, .int (nI la), .int (nI ss), .int (nI ii), .int (nI ks), .ref k2, .ref k3, .ref k4, .long kb])), (k4, aJ G 64 ka)] H := hP
          have hD : va_D A [(qa, .inr (0, [.ref r1, .int (nI m9), .long re, .int sp, .ref r2, .int (nI lr), .int (nI rt), .long vi])), (r1, aJ G 64 n9), (qk, .inr (2, [.ref k1, .int (nI la), .int (nI ss), .int (nI ii), .int (nI ks), .ref k2, .ref k3, .ref k4, .long kb])), (k4, aJ G 64 ka)] := hD
          refine k_tol (y := preOf ss ii nx (n9 (k - 1))) (pre_by hz hn6 hka _) ?_
          refine lv_lor hx hb dA_findNear_46 ?_
          refine lv_lstore_n (lv' := [(3, .long ((n9 (k - 1)) ||| (preOf ss ii nx (n9 (k - 1))))), (0, .ref qa), (1, .ref qk), (2, .int (nI k))]) hx hb dA_findNear_47 rfl hl (by decide) rfl (fun ls hl => ?_)
          refine lv_lload_n hx hb dA_findNear_48 rfl (lv_at hl 0 rfl) ?_
          refine lv_aload_n hx hb dA_findNear_49 rfl (lv_at hl 1 rfl) ?_
          refine va_get (D := gD G) (ci := 0) (v := .ref r1) (C := "CircuitProver$Answer") (T := TA) (N := 8) hx hb htb inA hown hK hP 0 rfl rfl 0 (by decide) (htb _ b146) (fun _ h9 => h9) rfl dA_findNear_50 ?_
          refine lv_iload_n hx hb dA_findNear_53 rfl (lv_at hl 3 rfl) ?_
          refine lv_iconst (v := nI 1) hx hb dA_findNear_54 (by decide) ?_
          refine lv_isub hx hb dA_findNear_55 ?_
          refine k_toi (y := nI (k - 1)) (pk_sub (by omega)) ?_
          refine k_lald hx hb hK hP 1 rfl (k := k - 1) (by omega) (by decide) dA_findNear_56 ?_
          have hk1 := ha (k - 1) (by omega)
          have hgr : (n9 (k - 1)) ||| (preOf ss ii nx (n9 (k - 1))) = gr (preOf ss ii nx) k kb := by rw [hk1, ← gr_s, show k - 1 + 1 = k by omega]
          refine W.lcmp hx hb dA_findNear_57 ?_
          refine lv_if_ne (tgt := 62) hx hb dA_findNear_58 rfl (fun h58 => ?_) (fun h58 => ?_)
          · have h58 : ¬ ((n9 (k - 1)) ||| (preOf ss ii nx (n9 (k - 1)))) = (n9 (k - 1)) := fun z => h58 ((lg_cmp_eq _ _).mpr z)
            refine lv_aload_n hx hb dA_findNear_62 rfl (lv_at hl 1 rfl) ?_
            refine va_get (D := gD G) (ci := 0) (v := .ref r1) (C := "CircuitProver$Answer") (T := TA) (N := 8) hx hb htb inA hown hK hP 0 rfl rfl 0 (by decide) (htb _ b146) (fun _ h9 => h9) rfl dA_findNear_63 ?_
            refine lv_iload_n hx hb dA_findNear_66 rfl (lv_at hl 3 rfl) ?_
            refine lv_lload_n hx hb dA_findNear_67 rfl (lv_at hl 0 rfl) ?_
            refine k_last hx hb hK hP hD hS 1 rfl (k := k) (v := (n9 (k - 1)) ||| (preOf ss ii nx (n9 (k - 1)))) (by omega) (by decide) dA_findNear_68 (fun H locs hP hD hS => ?_)
            have hP : va_P (gD G) vC [(qa, .inr (0, [.ref r1, .int (nI m9), .long re, .int sp, .ref r2, .int (nI lr), .int (nI rt), .long vi])), (r1, aJ G 64 (va_up n9 k ((n9 (k - 1)) ||| (preOf ss ii nx (n9 (k - 1)))))), (qk, .inr (2, [.ref k1, .int (nI la), .int (nI ss), .int (nI ii), .int (nI ks), .ref k2, .ref k3, .ref k4, .long kb])), (k4, aJ G 64 ka)] H := hP
            have hD : va_D A [(qa, .inr (0, [.ref r1, .int (nI m9), .long re, .int sp, .ref r2, .int (nI lr), .int (nI rt), .long vi])), (r1, aJ G 64 (va_up n9 k ((n9 (k - 1)) ||| (preOf ss ii nx (n9 (k - 1)))))), (qk, .inr (2, [.ref k1, .int (nI la), .int (nI ss), .int (nI ii), .int (nI ks), .ref k2, .ref k3, .ref k4, .long kb])), (k4, aJ G 64 ka)] := hD
            refine lv_aload_n hx hb dA_findNear_69 rfl (lv_at hl 1 rfl) ?_
            refine lv_iload_n hx hb dA_findNear_70 rfl (lv_at hl 3 rfl) ?_
            refine lv_iconst (v := nI 1) hx hb dA_findNear_71 (by decide) ?_
            refine lv_iadd hx hb dA_findNear_72 ?_
            refine k_toi (y := nI (k + 1)) (nI_add _ _) ?_
            refine va_put (D := gD G) (ci := 0) (v := .int (nI (k + 1))) (ty := tyA 1) (C := "CircuitProver$Answer") (T := TA) (N := 8) hx hb htb inA tyA tyA_ok nmA hown hK hP hD hS 0 rfl rfl 1 (by decide) (htb _ b147) (fun _ h9 => h9) rfl (tyA_ok 1 (by decide)) rfl rfl (Nat.le_of_ble_eq_true rfl) dA_findNear_73 (fun H locs hP hD hS => ?_)
            have hP : va_P (gD G) vC [(qa, .inr (0, [.ref r1, .int (nI (k + 1)), .long re, .int sp, .ref r2, .int (nI lr), .int (nI rt), .long vi])), (r1, aJ G 64 (va_up n9 k ((n9 (k - 1)) ||| (preOf ss ii nx (n9 (k - 1)))))), (qk, .inr (2, [.ref k1, .int (nI la), .int (nI ss), .int (nI ii), .int (nI ks), .ref k2, .ref k3, .ref k4, .long kb])), (k4, aJ G 64 ka)] H := hP
            have hD : va_D A [(qa, .inr (0, [.ref r1, .int (nI (k + 1)), .long re, .int sp, .ref r2, .int (nI lr), .int (nI rt), .long vi])), (r1, aJ G 64 (va_up n9 k ((n9 (k - 1)) ||| (preOf ss ii nx (n9 (k - 1)))))), (qk, .inr (2, [.ref k1, .int (nI la), .int (nI ss), .int (nI ii), .int (nI ks), .ref k2, .ref k3, .ref k4, .long kb])), (k4, aJ G 64 ka)] := hD
            refine lv_iinc (v := nI (k + 1)) (lv' := [(2, .int (nI (k + 1))), (3, .long ((n9 (k - 1)) ||| (preOf ss ii nx (n9 (k - 1))))), (0, .ref qa), (1, .ref qk)]) hx hb dA_findNear_76 hl (k := 3) rfl (nI_add _ 1) (by decide) rfl (fun ls hl => ?_)
            refine lv_goto (tgt := 17) hx hb dA_findNear_79 rfl ?_
            have hl : lv_has ls 5 [(0, .ref qa), (1, .ref qk), (2, .int (nI (k + 1)))] := lv_sub hl [2, 3, 0] rfl
            exact ih17 (k + 1) (va_up n9 k ((n9 (k - 1)) ||| (preOf ss ii nx (n9 (k - 1))))) (k + 1) _ _ _ (by omega) (by omega) (fun j hj => by by_cases e9 : j = k; (subst e9; rw [va_up_self, hgr]); (rw [va_up_ne _ _ e9]; exact ha j (by omega))) hP hD hS hl
          · have h58 : ((n9 (k - 1)) ||| (preOf ss ii nx (n9 (k - 1)))) = (n9 (k - 1)) := (lg_cmp_eq _ _).mp h58
            -- end 1
            rw [← hQ]
            exact k_vret hx hb hr hlocks (u := (n9, m9)) (⟨n9, m9, by omega, fun j hj => ha j (by omega), fun j hj => by rw [show m9 - 1 = k - 1 by omega]; exact gr_stab (by rw [show k - 1 + 1 = k by omega, ← hgr, h58, hk1]) (by omega), rfl⟩) hP hD hK hS dA_findNear_61
    have hl : lv_has ls 5 [(0, .ref qa), (1, .ref qk), (2, .int (nI 1))] := lv_sub hl [1, 2, 0] rfl
    exact loop17 (64 - 1 + 1) 1 (va_up na 0 kb) 1 _ _ _ (by omega) (by omega) (fun j hj => by rw [show j = 0 by omega, va_up_self]; rfl) hP hD hS hl
  rw [hH, hlc] at hgo
  exact hgo
set_option maxRecDepth 100000 in
set_option maxHeartbeats 4000000 in
theorem k_A_findReached (l : Launch) (G : GG) (sz : Nat) (qa : Nat) (r1 : Nat) (r2 : Nat) (ns : Nat) (re : Int64) (sp : Int32) (lr : Nat) (rt : Nat) (vi : Int64) (qk : Nat) (k1 : Nat) (k2 : Nat) (k3 : Nat) (k4 : Nat) (la : Nat) (ss : Nat) (ii : Nat) (ks : Nat) (kb : Int64) (ka : Nat → Int64) (nx : Nat → Nat → Nat) (hz : ss ≤ 64) (hka : ∀ sx, sx < ss → ka sx = aftOf ii nx sx) (hn6 : ∀ sx i, sx < ss → i < ii → nx sx i < 64) (hks : ks < 64) : Kv l yA_findReached cA_findReached 5 2 47 0 0 G [.ref qa, .ref qk] [(qa, .inr (0, [.ref r1, .int (nI ns), .long re, .int sp, .ref r2, .int (nI lr), .int (nI rt), .long vi])), (qk, .inr (2, [.ref k1, .int (nI la), .int (nI ss), .int (nI ii), .int (nI ks), .ref k2, .ref k3, .ref k4, .long kb])), (k4, aJ G 64 ka)] sz (fun (u : Int64) => (gr (postOf ss ii nx) 64 (sg ks) = u)) (fun (u : Int64) => [(qa, .inr (0, [.ref r1, .int (nI ns), .long u, .int sp, .ref r2, .int (nI lr), .int (nI rt), .long vi])), (qk, .inr (2, [.ref k1, .int (nI la), .int (nI ss), .int (nI ii), .int (nI ks), .ref k2, .ref k3, .ref k4, .long kb])), (k4, aJ G 64 ka)]) := by
  refine Met.ofW (cc := cA_findReached) (maxL := 5) (ret := none) (by decide) rfl ?_
  intro p e s m args below meth c s₁ B hml hv
  obtain ⟨hav, hsz, hP, hK, hD0, hE⟩ := hv
  have hx := B.exec
  have hb := B.bytes
  have hr := B.returns
  have htb : ∀ w ∈ TB, w.before args s = true := fun w h => atoms_spec (ws := Cond.code yA_findReached cA_findReached 5 none :: TB) B.pre w (List.mem_cons_of_mem _ h)
  have hown : s.vm.findClass "CircuitProver$Answer" = some m.cls := findClass_of_methodNamed B.named
  have hlocks := B.notSynchronized
  subst hsz
  have hD := hD0.self (sz := s.heap.size)
  clear hD0
  generalize hRm : (headSpec (Cond.code yA_findReached cA_findReached 5 none :: TB) { frames := 2, cells := 0, slots := 0, locals := 47 }).room = R
  have hRf : R.frames = 2 := by rw [← hRm]; rfl
  have hRl : R.locals = 47 := by rw [← hRm]; rfl
  have hRc : R.cells = 0 := by rw [← hRm]; rfl
  have hRs : R.slots = 0 := by rw [← hRm]; rfl
  clear hRm
  generalize hAe : va_A [(qa, .inr (0, [.ref r1, .int (nI ns), .long re, .int sp, .ref r2, .int (nI lr), .int (nI rt), .long vi])), (qk, .inr (2, [.ref k1, .int (nI la), .int (nI ss), .int (nI ii), .int (nI ks), .ref k2, .ref k3, .ref k4, .long kb])), (k4, aJ G 64 ka)] s.heap.size = A at hD hE ⊢
  have hA : ∀ q : Nat, s.heap.size ≤ q → A q := fun q h => by rw [← hAe]; exact Or.inr h
  clear hAe
  have hS : va_S A s.heap s.heap [] := va_S.rf
  have hl := lv_entry ([.ref qa, .ref qk]) (n := 5) (Nat.le_of_ble_eq_true rfl)
  have hent := lg_entry_eq m ([.ref qa, .ref qk]) 5
  rw [← hav] at hent
  rw [hent]
  clear hent hav
  generalize (lg_sl ([.ref qa, .ref qk]) ++ List.replicate (5 - (lg_sl ([.ref qa, .ref qk])).length) Slot.unset).toArray = ls at hl ⊢
  have hl : lv_has ls 5 [(0, .ref qa), (1, .ref qk)] := hl
  generalize hQ : MQ below _ args s 0 0 _ = Q
  have hP : va_P (gD G) vC [(qa, .inr (0, [.ref r1, .int (nI ns), .long re, .int sp, .ref r2, .int (nI lr), .int (nI rt), .long vi])), (qk, .inr (2, [.ref k1, .int (nI la), .int (nI ss), .int (nI ii), .int (nI ks), .ref k2, .ref k3, .ref k4, .long kb])), (k4, aJ G 64 ka)] s.heap := hP
  obtain ⟨H, hH⟩ : ∃ H : Heap, H = s.heap := ⟨_, rfl⟩
  obtain ⟨locs, hlc⟩ : ∃ L : List Loc, L = [] := ⟨_, rfl⟩
  have hS : va_S A s.heap H locs := by rw [hH, hlc]; exact hS
  have hP : va_P (gD G) vC [(qa, .inr (0, [.ref r1, .int (nI ns), .long re, .int sp, .ref r2, .int (nI lr), .int (nI rt), .long vi])), (qk, .inr (2, [.ref k1, .int (nI la), .int (nI ss), .int (nI ii), .int (nI ks), .ref k2, .ref k3, .ref k4, .long kb])), (k4, aJ G 64 ka)] H := by rw [hH]; exact hP
  have hgo : W p l e R s m args below meth c H locs 0 0 Q (F0 m 0 ls []) := by
    clear hH hlc
    refine lv_aload_n hx hb dA_findReached_0 rfl (lv_at hl 0 rfl) ?_
    refine lv_lconst (v := 1) hx hb dA_findReached_1 (by decide) ?_
    refine lv_aload_n hx hb dA_findReached_2 rfl (lv_at hl 1 rfl) ?_
    refine va_getN (D := gD G) (ci := 2) (v := .int (nI ks)) (C := "CircuitProver$Machine") (T := TK) (N := 9) hx hb htb inK hown hK hP 1 rfl rfl 4 (by decide) (va_Nw.use rfl (hE.nw n112)) (fun _ h9 => h9) rfl dA_findReached_3 ?_
    refine lv_lshl (v := sg ks) hx hb dA_findReached_6 rfl ?_
    refine va_put (D := gD G) (ci := 0) (v := .long (sg ks)) (ty := tyA 2) (C := "CircuitProver$Answer") (T := TA) (N := 8) hx hb htb inA tyA tyA_ok nmA hown hK hP hD hS 0 rfl rfl 2 (by decide) (htb _ b148) (fun _ h9 => h9) rfl (tyA_ok 2 (by decide)) rfl rfl (Nat.le_of_ble_eq_true rfl) dA_findReached_7 (fun H locs hP hD hS => ?_)
    have hP : va_P (gD G) vC [(qa, .inr (0, [.ref r1, .int (nI ns), .long (sg ks), .int sp, .ref r2, .int (nI lr), .int (nI rt), .long vi])), (qk, .inr (2, [.ref k1, .int (nI la), .int (nI ss), .int (nI ii), .int (nI ks), .ref k2, .ref k3, .ref k4, .long kb])), (k4, aJ G 64 ka)] H := hP
    have hD : va_D A [(qa, .inr (0, [.ref r1, .int (nI ns), .long (sg ks), .int sp, .ref r2, .int (nI lr), .int (nI rt), .long vi])), (qk, .inr (2, [.ref k1, .int (nI la), .int (nI ss), .int (nI ii), .int (nI ks), .ref k2, .ref k3, .ref k4, .long kb])), (k4, aJ G 64 ka)] := hD
    refine lv_iconst (v := nI 0) hx hb dA_findReached_10 (by decide) ?_
    refine lv_istore_n (lv' := [(2, .int (nI 0)), (0, .ref qa), (1, .ref qk)]) hx hb dA_findReached_11 rfl hl (by decide) rfl (fun ls hl => ?_)
    have loop12 : ∀ (n : Nat) (k : Nat) (r9 : Int64) (H : Heap) (locs : List Loc) (ls : Array Slot), 64 - k < n → (k ≤ 64) → (r9 = gr (postOf ss ii nx) k (sg ks)) → va_P (gD G) vC [(qa, .inr (0, [.ref r1, .int (nI ns), .long r9, .int sp, .ref r2, .int (nI lr), .int (nI rt), .long vi])), (qk, .inr (2, [.ref k1, .int (nI la), .int (nI ss), .int (nI ii), .int (nI ks), .ref k2, .ref k3, .ref k4, .long kb])), (k4, aJ G 64 ka)] H → va_D A [(qa, .inr (0, [.ref r1, .int (nI ns), .long r9, .int sp, .ref r2, .int (nI lr), .int (nI rt), .long vi])), (qk, .inr (2, [.ref k1, .int (nI la), .int (nI ss), .int (nI ii), .int (nI ks), .ref k2, .ref k3, .ref k4, .long kb])), (k4, aJ G 64 ka)] → va_S A s.heap H locs → lv_has ls 5 [(0, .ref qa), (1, .ref qk), (2, .int (nI k))] → W p l e R s m args below meth c H locs 0 0 Q (F0 m 12 ls []) := by
      intro n
      induction n with
      | zero => intro k r9 H locs ls hmu; omega
      | succ n ih =>
        intro k r9 H locs ls hmu hk hr9 hP hD hS hl
        have ih12 := ih
        clear ih
        refine lv_iload_n hx hb dA_findReached_12 rfl (lv_at hl 2 rfl) ?_
        refine lv_bipush (v := nI 64) hx hb dA_findReached_13 (by decide) ?_
        refine lv_icmp_ge (tgt := 53) hx hb dA_findReached_15 rfl (fun h15 => ?_) (fun h15 => ?_)
        · have h15 : 64 ≤ k := (nI_leI (a := 64) (b := k) (by omega) (by omega)).mp h15
          -- end 0
          rw [← hQ]
          exact k_vret hx hb hr hlocks (u := r9) (by rw [hr9, show k = 64 by omega]) hP hD hK hS dA_findReached_53
        · have h15 : k < 64 := Nat.lt_of_not_le (fun z => h15 ((nI_leI (a := 64) (b := k) (by omega) (by omega)).mpr z))
          refine lv_aload_n hx hb dA_findReached_18 rfl (lv_at hl 0 rfl) ?_
          refine va_get (D := gD G) (ci := 0) (v := .long r9) (C := "CircuitProver$Answer") (T := TA) (N := 8) hx hb htb inA hown hK hP 0 rfl rfl 2 (by decide) (htb _ b148) (fun _ h9 => h9) rfl dA_findReached_19 ?_
          refine lv_aload_n hx hb dA_findReached_22 rfl (lv_at hl 1 rfl) ?_
          refine lv_aload_n hx hb dA_findReached_23 rfl (lv_at hl 0 rfl) ?_
          refine va_get (D := gD G) (ci := 0) (v := .long r9) (C := "CircuitProver$Answer") (T := TA) (N := 8) hx hb htb inA hown hK hP 0 rfl rfl 2 (by decide) (htb _ b148) (fun _ h9 => h9) rfl dA_findReached_24 ?_
          refine k_l (ws2 := fun u => [(qa, .inr (0, [.ref r1, .int (nI ns), .long r9, .int sp, .ref r2, .int (nI lr), .int (nI rt), .long vi])), (qk, .inr (2, [.ref k1, .int (nI la), .int (nI ss), .int (nI ii), .int (nI ks), .ref k2, .ref k3, .ref k4, .long kb])), (k4, aJ G 64 ka)]) (wr := [(qa, .inr (0, [.ref r1, .int (nI ns), .long r9, .int sp, .ref r2, .int (nI lr), .int (nI rt), .long vi]))]) (k_runV (n := 1) (As := [.long r9]) (rest := [.long r9]) hx hb hml hown htb hP hD hK hS hA hE (k_K_post l G H.size qk k1 k2 k3 k4 la ss ii ks kb ka r9 (show ss ≤ 64 from by omega)) b453 b454 b455 b4 b456 (by decide +kernel) rfl rfl ⟨by rw [hRf]; exact Nat.le_of_ble_eq_true rfl, by rw [hRl]; exact Nat.le_of_ble_eq_true rfl⟩ [1, 2] rfl (by decide) 1 rfl rfl rfl rfl hl.1 rfl (Nat.le_of_ble_eq_true rfl) dA_findReached_27 ⟨Nat.zero_le _, Nat.zero_le _⟩) hP hD hS hA [1, 2] [0] [0, 1, 2] rfl rfl (by decide) (by decide) (fun u => rfl) (by decide) (fun r u H locs hw hP hD hS => ?_)
          obtain ⟨rfl, rfl⟩ := hw
          have hP : va_P (gD G) vC [(qa, .inr (0, [.ref r1, .int (nI ns), .long r9, .int sp, .ref r2, .int (nI lr), .int (nI rt), .long vi])), (qk, .inr (2, [.ref k1, .int (nI la), .int (nI ss), .int (nI ii), .int (nI ks), .ref k2, .ref k3, .ref k4, .long kb])), (k4, aJ G 64 ka)] H := hP
          have hD : va_D A [(qa, .inr (0, [.ref r1, .int (nI ns), .long r9, .int sp, .ref r2, .int (nI lr), .int (nI rt), .long vi])), (qk, .inr (2, [.ref k1, .int (nI la), .int (nI ss), .int (nI ii), .int (nI ks), .ref k2, .ref k3, .ref k4, .long kb])), (k4, aJ G 64 ka)] := hD
          refine k_tol (y := postOf ss ii nx r9) (post_by hn6 hka _) ?_
          refine lv_lor hx hb dA_findReached_30 ?_
          refine lv_lstore_n (lv' := [(3, .long (r9 ||| (postOf ss ii nx r9))), (0, .ref qa), (1, .ref qk), (2, .int (nI k))]) hx hb dA_findReached_31 rfl hl (by decide) rfl (fun ls hl => ?_)
          refine lv_lload_n hx hb dA_findReached_32 rfl (lv_at hl 0 rfl) ?_
          refine lv_aload_n hx hb dA_findReached_33 rfl (lv_at hl 1 rfl) ?_
          refine va_get (D := gD G) (ci := 0) (v := .long r9) (C := "CircuitProver$Answer") (T := TA) (N := 8) hx hb htb inA hown hK hP 0 rfl rfl 2 (by decide) (htb _ b148) (fun _ h9 => h9) rfl dA_findReached_34 ?_
          refine W.lcmp hx hb dA_findReached_37 ?_
          refine lv_if_ne (tgt := 42) hx hb dA_findReached_38 rfl (fun h38 => ?_) (fun h38 => ?_)
          · have h38 : ¬ (r9 ||| (postOf ss ii nx r9)) = r9 := fun z => h38 ((lg_cmp_eq _ _).mpr z)
            refine lv_aload_n hx hb dA_findReached_42 rfl (lv_at hl 1 rfl) ?_
            refine lv_lload_n hx hb dA_findReached_43 rfl (lv_at hl 0 rfl) ?_
            refine va_put (D := gD G) (ci := 0) (v := .long (r9 ||| (postOf ss ii nx r9))) (ty := tyA 2) (C := "CircuitProver$Answer") (T := TA) (N := 8) hx hb htb inA tyA tyA_ok nmA hown hK hP hD hS 0 rfl rfl 2 (by decide) (htb _ b148) (fun _ h9 => h9) rfl (tyA_ok 2 (by decide)) rfl rfl (Nat.le_of_ble_eq_true rfl) dA_findReached_44 (fun H locs hP hD hS => ?_)
            have hP : va_P (gD G) vC [(qa, .inr (0, [.ref r1, .int (nI ns), .long (r9 ||| (postOf ss ii nx r9)), .int sp, .ref r2, .int (nI lr), .int (nI rt), .long vi])), (qk, .inr (2, [.ref k1, .int (nI la), .int (nI ss), .int (nI ii), .int (nI ks), .ref k2, .ref k3, .ref k4, .long kb])), (k4, aJ G 64 ka)] H := hP
            have hD : va_D A [(qa, .inr (0, [.ref r1, .int (nI ns), .long (r9 ||| (postOf ss ii nx r9)), .int sp, .ref r2, .int (nI lr), .int (nI rt), .long vi])), (qk, .inr (2, [.ref k1, .int (nI la), .int (nI ss), .int (nI ii), .int (nI ks), .ref k2, .ref k3, .ref k4, .long kb])), (k4, aJ G 64 ka)] := hD
            refine lv_iinc (v := nI (k + 1)) (lv' := [(2, .int (nI (k + 1))), (3, .long (r9 ||| (postOf ss ii nx r9))), (0, .ref qa), (1, .ref qk)]) hx hb dA_findReached_47 hl (k := 3) rfl (nI_add _ 1) (by decide) rfl (fun ls hl => ?_)
            refine lv_goto (tgt := 12) hx hb dA_findReached_50 rfl ?_
            have hl : lv_has ls 5 [(0, .ref qa), (1, .ref qk), (2, .int (nI (k + 1)))] := lv_sub hl [2, 3, 0] rfl
            exact ih12 (k + 1) (r9 ||| (postOf ss ii nx r9)) _ _ _ (by omega) (by omega) (by rw [gr_s, ← hr9]) hP hD hS hl
          · have h38 : (r9 ||| (postOf ss ii nx r9)) = r9 := (lg_cmp_eq _ _).mp h38
            -- end 1
            rw [← hQ]
            exact k_vret hx hb hr hlocks (u := r9) (by rw [hr9]; exact gr_stab (by rw [gr_s, ← hr9]; exact h38) hk) hP hD hK hS dA_findReached_41
    have hl : lv_has ls 5 [(0, .ref qa), (1, .ref qk), (2, .int (nI 0))] := lv_sub hl [1, 2, 0] rfl
    exact loop12 (64 - 0 + 1) 0 (sg ks) _ _ _ (by omega) (by omega) rfl hP hD hS hl
  rw [hH, hlc] at hgo
  exact hgo
set_option maxRecDepth 100000 in
set_option maxHeartbeats 4000000 in
theorem k_A_findSteps (l : Launch) (G : GG) (sz : Nat) (qa : Nat) (r1 : Nat) (r2 : Nat) (ns : Nat) (re : Int64) (sp : Int32) (lr : Nat) (rt : Nat) (vi : Int64) (na : Nat → Int64) (st : Nat) (hst : st < 64) (hns : ns ≤ 64) : Kv l yA_findSteps cA_findSteps 3 1 22 0 0 G [.ref qa, .int (nI st)] [(qa, .inr (0, [.ref r1, .int (nI ns), .long re, .int sp, .ref r2, .int (nI lr), .int (nI rt), .long vi])), (r1, aJ G 64 na)] sz (fun (u : Int32) => (∃ (k : Nat), (k < ns ∧ lb (na k) st = true) ∧ (∀ j, j < k → lb (na j) st = false) ∧ nI k = u) ∨ ((∀ j, j < ns → lb (na j) st = false) ∧ (-1) = u)) (fun (u : Int32) => [(qa, .inr (0, [.ref r1, .int (nI ns), .long re, .int u, .ref r2, .int (nI lr), .int (nI rt), .long vi])), (r1, aJ G 64 na)]) := by
  refine Met.ofW (cc := cA_findSteps) (maxL := 3) (ret := none) (by decide) rfl ?_
  intro p e s m args below meth c s₁ B hml hv
  obtain ⟨hav, hsz, hP, hK, hD0, hE⟩ := hv
  have hx := B.exec
  have hb := B.bytes
  have hr := B.returns
  have htb : ∀ w ∈ TB, w.before args s = true := fun w h => atoms_spec (ws := Cond.code yA_findSteps cA_findSteps 3 none :: TB) B.pre w (List.mem_cons_of_mem _ h)
  have hown : s.vm.findClass "CircuitProver$Answer" = some m.cls := findClass_of_methodNamed B.named
  have hlocks := B.notSynchronized
  subst hsz
  have hD := hD0.self (sz := s.heap.size)
  clear hD0
  generalize hRm : (headSpec (Cond.code yA_findSteps cA_findSteps 3 none :: TB) { frames := 1, cells := 0, slots := 0, locals := 22 }).room = R
  have hRf : R.frames = 1 := by rw [← hRm]; rfl
  have hRl : R.locals = 22 := by rw [← hRm]; rfl
  have hRc : R.cells = 0 := by rw [← hRm]; rfl
  have hRs : R.slots = 0 := by rw [← hRm]; rfl
  clear hRm
  generalize hAe : va_A [(qa, .inr (0, [.ref r1, .int (nI ns), .long re, .int sp, .ref r2, .int (nI lr), .int (nI rt), .long vi])), (r1, aJ G 64 na)] s.heap.size = A at hD hE ⊢
  have hA : ∀ q : Nat, s.heap.size ≤ q → A q := fun q h => by rw [← hAe]; exact Or.inr h
  clear hAe
  have hS : va_S A s.heap s.heap [] := va_S.rf
  have hl := lv_entry ([.ref qa, .int (nI st)]) (n := 3) (Nat.le_of_ble_eq_true rfl)
  have hent := lg_entry_eq m ([.ref qa, .int (nI st)]) 3
  rw [← hav] at hent
  rw [hent]
  clear hent hav
  generalize (lg_sl ([.ref qa, .int (nI st)]) ++ List.replicate (3 - (lg_sl ([.ref qa, .int (nI st)])).length) Slot.unset).toArray = ls at hl ⊢
  have hl : lv_has ls 3 [(0, .ref qa), (1, .int (nI st))] := hl
  generalize hQ : MQ below _ args s 0 0 _ = Q
  have hP : va_P (gD G) vC [(qa, .inr (0, [.ref r1, .int (nI ns), .long re, .int sp, .ref r2, .int (nI lr), .int (nI rt), .long vi])), (r1, aJ G 64 na)] s.heap := hP
  obtain ⟨H, hH⟩ : ∃ H : Heap, H = s.heap := ⟨_, rfl⟩
  obtain ⟨locs, hlc⟩ : ∃ L : List Loc, L = [] := ⟨_, rfl⟩
  have hS : va_S A s.heap H locs := by rw [hH, hlc]; exact hS
  have hP : va_P (gD G) vC [(qa, .inr (0, [.ref r1, .int (nI ns), .long re, .int sp, .ref r2, .int (nI lr), .int (nI rt), .long vi])), (r1, aJ G 64 na)] H := by rw [hH]; exact hP
  have hgo : W p l e R s m args below meth c H locs 0 0 Q (F0 m 0 ls []) := by
    clear hH hlc
    refine lv_aload_n hx hb dA_findSteps_0 rfl (lv_at hl 0 rfl) ?_
    refine lv_iconst (v := (-1)) hx hb dA_findSteps_1 (by decide) ?_
    refine va_put (D := gD G) (ci := 0) (v := .int (-1)) (ty := tyA 3) (C := "CircuitProver$Answer") (T := TA) (N := 8) hx hb htb inA tyA tyA_ok nmA hown hK hP hD hS 0 rfl rfl 3 (by decide) (htb _ b150) (fun _ h9 => h9) rfl (tyA_ok 3 (by decide)) rfl rfl (Nat.le_of_ble_eq_true rfl) dA_findSteps_2 (fun H locs hP hD hS => ?_)
    have hP : va_P (gD G) vC [(qa, .inr (0, [.ref r1, .int (nI ns), .long re, .int (-1), .ref r2, .int (nI lr), .int (nI rt), .long vi])), (r1, aJ G 64 na)] H := hP
    have hD : va_D A [(qa, .inr (0, [.ref r1, .int (nI ns), .long re, .int (-1), .ref r2, .int (nI lr), .int (nI rt), .long vi])), (r1, aJ G 64 na)] := hD
    refine lv_iconst (v := nI 0) hx hb dA_findSteps_5 (by decide) ?_
    refine lv_istore_n (lv' := [(2, .int (nI 0)), (0, .ref qa), (1, .int (nI st))]) hx hb dA_findSteps_6 rfl hl (by decide) rfl (fun ls hl => ?_)
    have loop7 : ∀ (n : Nat) (k : Nat) (H : Heap) (locs : List Loc) (ls : Array Slot), ns - k < n → (k ≤ ns) → (∀ j, j < k → lb (na j) st = false) → va_P (gD G) vC [(qa, .inr (0, [.ref r1, .int (nI ns), .long re, .int (-1), .ref r2, .int (nI lr), .int (nI rt), .long vi])), (r1, aJ G 64 na)] H → va_D A [(qa, .inr (0, [.ref r1, .int (nI ns), .long re, .int (-1), .ref r2, .int (nI lr), .int (nI rt), .long vi])), (r1, aJ G 64 na)] → va_S A s.heap H locs → lv_has ls 3 [(0, .ref qa), (1, .int (nI st)), (2, .int (nI k))] → W p l e R s m args below meth c H locs 0 0 Q (F0 m 7 ls []) := by
      intro n
      induction n with
      | zero => intro k H locs ls hmu; omega
      | succ n ih =>
        intro k H locs ls hmu hk ha hP hD hS hl
        have ih7 := ih
        clear ih
        refine lv_iload_n hx hb dA_findSteps_7 rfl (lv_at hl 2 rfl) ?_
        refine lv_aload_n hx hb dA_findSteps_8 rfl (lv_at hl 0 rfl) ?_
        refine va_get (D := gD G) (ci := 0) (v := .int (nI ns)) (C := "CircuitProver$Answer") (T := TA) (N := 8) hx hb htb inA hown hK hP 0 rfl rfl 1 (by decide) (htb _ b147) (fun _ h9 => h9) rfl dA_findSteps_9 ?_
        refine lv_icmp_ge (tgt := 40) hx hb dA_findSteps_12 rfl (fun h12 => ?_) (fun h12 => ?_)
        · have h12 : ns ≤ k := (nI_leI (a := ns) (b := k) (by omega) (by omega)).mp h12
          -- end 0
          rw [← hQ]
          exact k_vret hx hb hr hlocks (u := (-1)) (Or.inr ⟨fun j hj => ha j (by omega), rfl⟩) hP hD hK hS dA_findSteps_40
        · have h12 : k < ns := Nat.lt_of_not_le (fun z => h12 ((nI_leI (a := ns) (b := k) (by omega) (by omega)).mpr z))
          refine lv_aload_n hx hb dA_findSteps_15 rfl (lv_at hl 0 rfl) ?_
          refine va_get (D := gD G) (ci := 0) (v := .ref r1) (C := "CircuitProver$Answer") (T := TA) (N := 8) hx hb htb inA hown hK hP 0 rfl rfl 0 (by decide) (htb _ b146) (fun _ h9 => h9) rfl dA_findSteps_16 ?_
          refine lv_iload_n hx hb dA_findSteps_19 rfl (lv_at hl 2 rfl) ?_
          refine k_lald hx hb hK hP 1 rfl (k := k) (by omega) (by decide) dA_findSteps_20 ?_
          refine lv_iload_n hx hb dA_findSteps_21 rfl (lv_at hl 1 rfl) ?_
          refine k_i (ws2 := fun u => [(qa, .inr (0, [.ref r1, .int (nI ns), .long re, .int (-1), .ref r2, .int (nI lr), .int (nI rt), .long vi])), (r1, aJ G 64 na)]) (wr := [(qa, .inr (0, [.ref r1, .int (nI ns), .long re, .int (-1), .ref r2, .int (nI lr), .int (nI rt), .long vi])), (r1, aJ G 64 na)]) (k_runSN (n := 2) (As := [.long (na k), .int (nI st)]) (rest := []) (wc := []) hx hb hml hown htb hP hD hK hS hA hE (k_C_contains l G H.size (na k) st (show st < 64 from by omega)) n461 b435 b1 b436 (by decide +kernel) rfl rfl ⟨by rw [hRf]; exact Nat.le_of_ble_eq_true rfl, by rw [hRl]; exact Nat.le_of_ble_eq_true rfl⟩ [] rfl (by decide) rfl hl.1 rfl (Nat.le_of_ble_eq_true rfl) dA_findSteps_22 ⟨Nat.zero_le _, Nat.zero_le _⟩) hP hD hS hA [] [0, 1] [0, 1] rfl rfl (by decide) (by decide) (fun u => rfl) (by decide) (fun r u H locs hw hP hD hS => ?_)
          rcases hw with ⟨hc22_e, rfl, rfl⟩ | ⟨hc22_e, rfl, rfl⟩
          · skip
            have hP : va_P (gD G) vC [(qa, .inr (0, [.ref r1, .int (nI ns), .long re, .int (-1), .ref r2, .int (nI lr), .int (nI rt), .long vi])), (r1, aJ G 64 na)] H := hP
            have hD : va_D A [(qa, .inr (0, [.ref r1, .int (nI ns), .long re, .int (-1), .ref r2, .int (nI lr), .int (nI rt), .long vi])), (r1, aJ G 64 na)] := hD
            refine lv_if_eq (tgt := 34) hx hb dA_findSteps_25 rfl (fun h25 => (by revert h25; first | decide | exact fun z => absurd z (by decide) | exact fun z => z.elim (by decide))) (fun _ => ?_)
            refine lv_aload_n hx hb dA_findSteps_28 rfl (lv_at hl 0 rfl) ?_
            refine lv_iload_n hx hb dA_findSteps_29 rfl (lv_at hl 2 rfl) ?_
            refine va_put (D := gD G) (ci := 0) (v := .int (nI k)) (ty := tyA 3) (C := "CircuitProver$Answer") (T := TA) (N := 8) hx hb htb inA tyA tyA_ok nmA hown hK hP hD hS 0 rfl rfl 3 (by decide) (htb _ b150) (fun _ h9 => h9) rfl (tyA_ok 3 (by decide)) rfl rfl (Nat.le_of_ble_eq_true rfl) dA_findSteps_30 (fun H locs hP hD hS => ?_)
            have hP : va_P (gD G) vC [(qa, .inr (0, [.ref r1, .int (nI ns), .long re, .int (nI k), .ref r2, .int (nI lr), .int (nI rt), .long vi])), (r1, aJ G 64 na)] H := hP
            have hD : va_D A [(qa, .inr (0, [.ref r1, .int (nI ns), .long re, .int (nI k), .ref r2, .int (nI lr), .int (nI rt), .long vi])), (r1, aJ G 64 na)] := hD
            -- end 1
            rw [← hQ]
            exact k_vret hx hb hr hlocks (u := (nI k)) (Or.inl ⟨k, ⟨by omega, hc22_e⟩, ha, rfl⟩) hP hD hK hS dA_findSteps_33
          · skip
            have hP : va_P (gD G) vC [(qa, .inr (0, [.ref r1, .int (nI ns), .long re, .int (-1), .ref r2, .int (nI lr), .int (nI rt), .long vi])), (r1, aJ G 64 na)] H := hP
            have hD : va_D A [(qa, .inr (0, [.ref r1, .int (nI ns), .long re, .int (-1), .ref r2, .int (nI lr), .int (nI rt), .long vi])), (r1, aJ G 64 na)] := hD
            refine lv_if_eq (tgt := 34) hx hb dA_findSteps_25 rfl (fun _ => ?_) (fun h25 => (by revert h25; first | decide | exact fun z => absurd z (by decide) | exact fun z => z.elim (by decide)))
            refine lv_iinc (v := nI (k + 1)) (lv' := [(2, .int (nI (k + 1))), (0, .ref qa), (1, .int (nI st))]) hx hb dA_findSteps_34 hl (k := 2) rfl (nI_add _ 1) (by decide) rfl (fun ls hl => ?_)
            refine lv_goto (tgt := 7) hx hb dA_findSteps_37 rfl ?_
            have hl : lv_has ls 3 [(0, .ref qa), (1, .int (nI st)), (2, .int (nI (k + 1)))] := lv_sub hl [1, 2, 0] rfl
            exact ih7 (k + 1) _ _ _ (by omega) (by omega) (fun j hj => by by_cases e9 : j = k; (subst e9; exact hc22_e); (exact ha j (by omega))) hP hD hS hl
    have hl : lv_has ls 3 [(0, .ref qa), (1, .int (nI st)), (2, .int (nI 0))] := lv_sub hl [1, 2, 0] rfl
    exact loop7 (ns - 0 + 1) 0 _ _ _ (by omega) (by omega) (fun j hj => absurd hj (Nat.not_lt_zero j)) hP hD hS hl
  rw [hH, hlc] at hgo
  exact hgo
