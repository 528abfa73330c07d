theorem lk_lt {tx : Nat → Nat} (h : ∀ j, tx j < 128) (us p : Nat) : lk tx us p < 128 := by
  unfold lk
  split
  · exact h p
  · decide
theorem lk_in {tx : Nat → Nat} {us p : Nat} (h : 0 < lk tx us p) : p < us := by
  unfold lk at h
  by_cases h1 : p < us
  · exact h1
  · rw [if_neg h1] at h; omega
theorem cnum_le {tx : Nat → Nat} {us p v q : Nat} (h : cnum (lk tx us) p = some (v, q)) : q ≤ us := by
  unfold cnum at h
  by_cases h1 : dg (lk tx us p) = true
  · rw [if_pos h1] at h
    have a1 := lk_in (tx := tx) (us := us) (p := p) (by have := dg_iff.mp h1; omega)
    by_cases h4 : lk tx us p = 48
    · rw [if_pos h4] at h
      cases h
      omega
    · rw [if_neg h4] at h
      by_cases h2 : dg (lk tx us (p + 1)) = true
      · rw [if_pos h2] at h
        have a2 := lk_in (tx := tx) (us := us) (p := p + 1) (by have := dg_iff.mp h2; omega)
        cases h
        omega
      · rw [if_neg h2] at h
        cases h
        omega
  · rw [if_neg h1] at h; cases h
theorem lnF_le {tx : Nat → Nat} {us f p q : Nat} {l : List Nat} (h : lnF (lk tx us) f p = some (l, q)) : q ≤ us := by
  induction f generalizing p l with
  | zero => cases h
  | succ f ih =>
    rw [lnF] at h
    cases hc : cnum (lk tx us) p with
    | none => rw [hc] at h; cases h
    | some z =>
      obtain ⟨v, r⟩ := z
      rw [hc] at h
      dsimp only at h
      by_cases h1 : lk tx us r = 10
      · rw [if_pos h1] at h
        cases h
        exact lk_in (tx := tx) (by omega)
      · rw [if_neg h1] at h
        by_cases h2 : lk tx us r = 32
        · rw [if_pos h2] at h
          obtain ⟨l', e1, e2⟩ := pre_some h
          exact ih e1
        · rw [if_neg h2] at h; cases h
theorem lnF_s {T : Nat → Nat} {f p v q : Nat} (h : cnum T p = some (v, q)) : lnF T (f + 1) p = if T q = 10 then some ([v], q + 1) else if T q = 32 then pre [v] (lnF T f (q + 1)) else none := by rw [lnF, h]
theorem lnF_n {T : Nat → Nat} {f p : Nat} (h : cnum T p = none) : lnF T (f + 1) p = none := by rw [lnF, h]
theorem getD_ap {l : List Nat} {v j : Nat} (h : j < l.length) : (l ++ [v]).getD j 0 = l.getD j 0 := by
  rw [List.getD_eq_getElem?_getD, List.getD_eq_getElem?_getD, List.getElem?_append_left h]
theorem getD_last (l : List Nat) (v : Nat) : (l ++ [v]).getD l.length 0 = v := by
  rw [List.getD_eq_getElem?_getD]; simp
set_option maxRecDepth 100000 in
set_option maxHeartbeats 4000000 in
theorem k_T_clear (l : Launch) (G : GG) (sz : Nat) (q : Nat) (a1 : Nat) (a2 : Nat) (tx : Nat → Nat) (nm : Nat → Nat) (us : Nat) (pl : Nat) : Kv l yT_clear cT_clear 1 0 0 0 0 G [.ref q] [(q, .inr (4, [.ref a1, .ref a2, .int (nI us), .int (nI pl)])), (a1, aB G 400 tx), (a2, aI G 5 nm)] sz (fun (u : Nat) => (0 = u)) (fun (u : Nat) => [(q, .inr (4, [.ref a1, .ref a2, .int (nI u), .int (nI pl)])), (a1, aB G 400 tx), (a2, aI G 5 nm)]) := by
  refine Met.ofW (cc := cT_clear) (maxL := 1) (ret := none) (by decide) rfl ?_
  intro p e s m args below meth c s₁ B hml hv
  obtain ⟨hav, hsz, hP, hK, hD0, hE⟩ := hv
  have hx := B.exec
  have hb := B.bytes
  have hr := B.returns
  have htb : ∀ w ∈ TB, w.before args s = true := fun w h => atoms_spec (ws := Cond.code yT_clear cT_clear 1 none :: TB) B.pre w (List.mem_cons_of_mem _ h)
  have hown : s.vm.findClass "CircuitProver$Text" = some m.cls := findClass_of_methodNamed B.named
  have hlocks := B.notSynchronized
  subst hsz
  have hD := hD0.self (sz := s.heap.size)
  clear hD0
  generalize hRm : (headSpec (Cond.code yT_clear cT_clear 1 none :: TB) { frames := 0, cells := 0, slots := 0, locals := 0 }).room = R
  have hRf : R.frames = 0 := by rw [← hRm]; rfl
  have hRl : R.locals = 0 := by rw [← hRm]; rfl
  have hRc : R.cells = 0 := by rw [← hRm]; rfl
  have hRs : R.slots = 0 := by rw [← hRm]; rfl
  clear hRm
  generalize hAe : va_A [(q, .inr (4, [.ref a1, .ref a2, .int (nI us), .int (nI pl)])), (a1, aB G 400 tx), (a2, aI G 5 nm)] s.heap.size = A at hD hE ⊢
  have hA : ∀ q : Nat, s.heap.size ≤ q → A q := fun q h => by rw [← hAe]; exact Or.inr h
  clear hAe
  have hS : va_S A s.heap s.heap [] := va_S.rf
  have hl := lv_entry ([.ref q]) (n := 1) (Nat.le_of_ble_eq_true rfl)
  have hent := lg_entry_eq m ([.ref q]) 1
  rw [← hav] at hent
  rw [hent]
  clear hent hav
  generalize (lg_sl ([.ref q]) ++ List.replicate (1 - (lg_sl ([.ref q])).length) Slot.unset).toArray = ls at hl ⊢
  have hl : lv_has ls 1 [(0, .ref q)] := hl
  generalize hQ : MQ below _ args s 0 0 _ = Q
  have hP : va_P (gD G) vC [(q, .inr (4, [.ref a1, .ref a2, .int (nI us), .int (nI pl)])), (a1, aB G 400 tx), (a2, aI G 5 nm)] s.heap := hP
  obtain ⟨H, hH⟩ : ∃ H : Heap, H = s.heap := ⟨_, rfl⟩
  obtain ⟨locs, hlc⟩ : ∃ L : List Loc, L = [] := ⟨_, rfl⟩
  have hS : va_S A s.heap H locs := by rw [hH, hlc]; exact hS
  have hP : va_P (gD G) vC [(q, .inr (4, [.ref a1, .ref a2, .int (nI us), .int (nI pl)])), (a1, aB G 400 tx), (a2, aI G 5 nm)] H := by rw [hH]; exact hP
  have hgo : W p l e R s m args below meth c H locs 0 0 Q (F0 m 0 ls []) := by
    clear hH hlc
    refine lv_aload_n hx hb dT_clear_0 rfl (lv_at hl 0 rfl) ?_
    refine lv_iconst (v := nI 0) hx hb dT_clear_1 (by decide) ?_
    refine va_put (D := gD G) (ci := 4) (v := .int (nI 0)) (ty := tyT 2) (C := "CircuitProver$Text") (T := TT) (N := 4) hx hb htb inT tyT tyT_ok nmT hown hK hP hD hS 0 rfl rfl 2 (by decide) (htb _ b35) (fun _ h9 => h9) rfl (tyT_ok 2 (by decide)) rfl rfl (Nat.le_of_ble_eq_true rfl) dT_clear_2 (fun H locs hP hD hS => ?_)
    have hP : va_P (gD G) vC [(q, .inr (4, [.ref a1, .ref a2, .int (nI 0), .int (nI pl)])), (a1, aB G 400 tx), (a2, aI G 5 nm)] H := hP
    have hD : va_D A [(q, .inr (4, [.ref a1, .ref a2, .int (nI 0), .int (nI pl)])), (a1, aB G 400 tx), (a2, aI G 5 nm)] := hD
    -- end 0
    rw [← hQ]
    exact k_vret hx hb hr hlocks (u := 0) (rfl) hP hD hK hS dT_clear_5
  rw [hH, hlc] at hgo
  exact hgo
set_option maxRecDepth 100000 in
set_option maxHeartbeats 4000000 in
theorem k_T_readFromFront (l : Launch) (G : GG) (sz : Nat) (q : Nat) (a1 : Nat) (a2 : Nat) (tx : Nat → Nat) (nm : Nat → Nat) (us : Nat) (pl : Nat) : Kv l yT_readFromFront cT_readFromFront 1 0 0 0 0 G [.ref q] [(q, .inr (4, [.ref a1, .ref a2, .int (nI us), .int (nI pl)])), (a1, aB G 400 tx), (a2, aI G 5 nm)] sz (fun (u : Nat) => (0 = u)) (fun (u : Nat) => [(q, .inr (4, [.ref a1, .ref a2, .int (nI us), .int (nI u)])), (a1, aB G 400 tx), (a2, aI G 5 nm)]) := by
  refine Met.ofW (cc := cT_readFromFront) (maxL := 1) (ret := none) (by decide) rfl ?_
  intro p e s m args below meth c s₁ B hml hv
  obtain ⟨hav, hsz, hP, hK, hD0, hE⟩ := hv
  have hx := B.exec
  have hb := B.bytes
  have hr := B.returns
  have htb : ∀ w ∈ TB, w.before args s = true := fun w h => atoms_spec (ws := Cond.code yT_readFromFront cT_readFromFront 1 none :: TB) B.pre w (List.mem_cons_of_mem _ h)
  have hown : s.vm.findClass "CircuitProver$Text" = some m.cls := findClass_of_methodNamed B.named
  have hlocks := B.notSynchronized
  subst hsz
  have hD := hD0.self (sz := s.heap.size)
  clear hD0
  generalize hRm : (headSpec (Cond.code yT_readFromFront cT_readFromFront 1 none :: TB) { frames := 0, cells := 0, slots := 0, locals := 0 }).room = R
  have hRf : R.frames = 0 := by rw [← hRm]; rfl
  have hRl : R.locals = 0 := by rw [← hRm]; rfl
  have hRc : R.cells = 0 := by rw [← hRm]; rfl
  have hRs : R.slots = 0 := by rw [← hRm]; rfl
  clear hRm
  generalize hAe : va_A [(q, .inr (4, [.ref a1, .ref a2, .int (nI us), .int (nI pl)])), (a1, aB G 400 tx), (a2, aI G 5 nm)] s.heap.size = A at hD hE ⊢
  have hA : ∀ q : Nat, s.heap.size ≤ q → A q := fun q h => by rw [← hAe]; exact Or.inr h
  clear hAe
  have hS : va_S A s.heap s.heap [] := va_S.rf
  have hl := lv_entry ([.ref q]) (n := 1) (Nat.le_of_ble_eq_true rfl)
  have hent := lg_entry_eq m ([.ref q]) 1
  rw [← hav] at hent
  rw [hent]
  clear hent hav
  generalize (lg_sl ([.ref q]) ++ List.replicate (1 - (lg_sl ([.ref q])).length) Slot.unset).toArray = ls at hl ⊢
  have hl : lv_has ls 1 [(0, .ref q)] := hl
  generalize hQ : MQ below _ args s 0 0 _ = Q
  have hP : va_P (gD G) vC [(q, .inr (4, [.ref a1, .ref a2, .int (nI us), .int (nI pl)])), (a1, aB G 400 tx), (a2, aI G 5 nm)] s.heap := hP
  obtain ⟨H, hH⟩ : ∃ H : Heap, H = s.heap := ⟨_, rfl⟩
  obtain ⟨locs, hlc⟩ : ∃ L : List Loc, L = [] := ⟨_, rfl⟩
  have hS : va_S A s.heap H locs := by rw [hH, hlc]; exact hS
  have hP : va_P (gD G) vC [(q, .inr (4, [.ref a1, .ref a2, .int (nI us), .int (nI pl)])), (a1, aB G 400 tx), (a2, aI G 5 nm)] H := by rw [hH]; exact hP
  have hgo : W p l e R s m args below meth c H locs 0 0 Q (F0 m 0 ls []) := by
    clear hH hlc
    refine lv_aload_n hx hb dT_readFromFront_0 rfl (lv_at hl 0 rfl) ?_
    refine lv_iconst (v := nI 0) hx hb dT_readFromFront_1 (by decide) ?_
    refine va_put (D := gD G) (ci := 4) (v := .int (nI 0)) (ty := tyT 3) (C := "CircuitProver$Text") (T := TT) (N := 4) hx hb htb inT tyT tyT_ok nmT hown hK hP hD hS 0 rfl rfl 3 (by decide) (htb _ b37) (fun _ h9 => h9) rfl (tyT_ok 3 (by decide)) rfl rfl (Nat.le_of_ble_eq_true rfl) dT_readFromFront_2 (fun H locs hP hD hS => ?_)
    have hP : va_P (gD G) vC [(q, .inr (4, [.ref a1, .ref a2, .int (nI us), .int (nI 0)])), (a1, aB G 400 tx), (a2, aI G 5 nm)] H := hP
    have hD : va_D A [(q, .inr (4, [.ref a1, .ref a2, .int (nI us), .int (nI 0)])), (a1, aB G 400 tx), (a2, aI G 5 nm)] := hD
    -- end 0
    rw [← hQ]
    exact k_vret hx hb hr hlocks (u := 0) (rfl) hP hD hK hS dT_readFromFront_5
  rw [hH, hlc] at hgo
  exact hgo
set_option maxRecDepth 100000 in
set_option maxHeartbeats 4000000 in
theorem k_T_allIsRead (l : Launch) (G : GG) (sz : Nat) (q : Nat) (a1 : Nat) (a2 : Nat) (tx : Nat → Nat) (nm : Nat → Nat) (us : Nat) (pl : Nat) (hus : us ≤ 400) (hpl : pl ≤ us) (htx : ∀ j, tx j < 128) : Ki l yT_allIsRead cT_allIsRead 1 .boolean 0 0 G [.ref q] [(q, .inr (4, [.ref a1, .ref a2, .int (nI us), .int (nI pl)])), (a1, aB G 400 tx), (a2, aI G 5 nm)] sz (fun (r : Int32) (u : Unit) => (pl = us ∧ nI 1 = r ∧ () = u) ∨ (¬ pl = us ∧ nI 0 = r ∧ () = u)) (fun (u : Unit) => [(q, .inr (4, [.ref a1, .ref a2, .int (nI us), .int (nI pl)])), (a1, aB G 400 tx), (a2, aI G 5 nm)]) := by
  refine Met.ofW (cc := cT_allIsRead) (maxL := 1) (ret := (some .boolean)) (by decide) rfl ?_
  intro p e s m args below meth c s₁ B hml hv
  obtain ⟨hav, hsz, hP, hK, hD0, hE⟩ := hv
  have hx := B.exec
  have hb := B.bytes
  have hr := B.returns
  have htb : ∀ w ∈ TB, w.before args s = true := fun w h => atoms_spec (ws := Cond.code yT_allIsRead cT_allIsRead 1 (some .boolean) :: TB) B.pre w (List.mem_cons_of_mem _ h)
  have hown : s.vm.findClass "CircuitProver$Text" = some m.cls := findClass_of_methodNamed B.named
  have hlocks := B.notSynchronized
  subst hsz
  have hD := hD0.self (sz := s.heap.size)
  clear hD0
  generalize hRm : (headSpec (Cond.code yT_allIsRead cT_allIsRead 1 (some .boolean) :: TB) { frames := 0, cells := 0, slots := 0, locals := 0 }).room = R
  have hRf : R.frames = 0 := by rw [← hRm]; rfl
  have hRl : R.locals = 0 := by rw [← hRm]; rfl
  have hRc : R.cells = 0 := by rw [← hRm]; rfl
  have hRs : R.slots = 0 := by rw [← hRm]; rfl
  clear hRm
  generalize hAe : va_A [(q, .inr (4, [.ref a1, .ref a2, .int (nI us), .int (nI pl)])), (a1, aB G 400 tx), (a2, aI G 5 nm)] s.heap.size = A at hD hE ⊢
  have hA : ∀ q : Nat, s.heap.size ≤ q → A q := fun q h => by rw [← hAe]; exact Or.inr h
  clear hAe
  have hS : va_S A s.heap s.heap [] := va_S.rf
  have hl := lv_entry ([.ref q]) (n := 1) (Nat.le_of_ble_eq_true rfl)
  have hent := lg_entry_eq m ([.ref q]) 1
  rw [← hav] at hent
  rw [hent]
  clear hent hav
  generalize (lg_sl ([.ref q]) ++ List.replicate (1 - (lg_sl ([.ref q])).length) Slot.unset).toArray = ls at hl ⊢
  have hl : lv_has ls 1 [(0, .ref q)] := hl
  generalize hQ : MQ below _ args s 0 0 _ = Q
  have hP : va_P (gD G) vC [(q, .inr (4, [.ref a1, .ref a2, .int (nI us), .int (nI pl)])), (a1, aB G 400 tx), (a2, aI G 5 nm)] s.heap := hP
  obtain ⟨H, hH⟩ : ∃ H : Heap, H = s.heap := ⟨_, rfl⟩
  obtain ⟨locs, hlc⟩ : ∃ L : List Loc, L = [] := ⟨_, rfl⟩
  have hS : va_S A s.heap H locs := by rw [hH, hlc]; exact hS
  have hP : va_P (gD G) vC [(q, .inr (4, [.ref a1, .ref a2, .int (nI us), .int (nI pl)])), (a1, aB G 400 tx), (a2, aI G 5 nm)] H := by rw [hH]; exact hP
  have hgo : W p l e R s m args below meth c H locs 0 0 Q (F0 m 0 ls []) := by
    clear hH hlc
    refine lv_aload_n hx hb dT_allIsRead_0 rfl (lv_at hl 0 rfl) ?_
    refine va_get (D := gD G) (ci := 4) (v := .int (nI pl)) (C := "CircuitProver$Text") (T := TT) (N := 4) hx hb htb inT hown hK hP 0 rfl rfl 3 (by decide) (htb _ b37) (fun _ h9 => h9) rfl dT_allIsRead_1 ?_
    refine lv_aload_n hx hb dT_allIsRead_4 rfl (lv_at hl 0 rfl) ?_
    refine va_get (D := gD G) (ci := 4) (v := .int (nI us)) (C := "CircuitProver$Text") (T := TT) (N := 4) hx hb htb inT hown hK hP 0 rfl rfl 2 (by decide) (htb _ b35) (fun _ h9 => h9) rfl dT_allIsRead_5 ?_
    refine lv_icmp_ne (tgt := 15) hx hb dT_allIsRead_8 rfl (fun h8 => ?_) (fun h8 => ?_)
    · have h8 : ¬ pl = us := fun z => h8 ((nI_eq (a := pl) (b := us) (by omega) (by omega)).mpr z)
      refine lv_iconst (v := nI 0) hx hb dT_allIsRead_15 (by decide) ?_
      -- end 0
      rw [← hQ]
      exact k_iret hx hb hr hlocks (by decide) (u := ()) (Or.inr ⟨by omega, rfl, rfl⟩) hP hD hK hS dT_allIsRead_16
    · have h8 : pl = us := (nI_eq (a := pl) (b := us) (by omega) (by omega)).mp h8
      refine lv_iconst (v := nI 1) hx hb dT_allIsRead_11 (by decide) ?_
      refine lv_goto (tgt := 16) hx hb dT_allIsRead_12 rfl ?_
      -- end 1
      rw [← hQ]
      exact k_iret hx hb hr hlocks (by decide) (u := ()) (Or.inl ⟨by omega, rfl, rfl⟩) hP hD hK hS dT_allIsRead_16
  rw [hH, hlc] at hgo
  exact hgo
set_option maxRecDepth 100000 in
set_option maxHeartbeats 4000000 in
theorem k_T_skip (l : Launch) (G : GG) (sz : Nat) (q : Nat) (a1 : Nat) (a2 : Nat) (tx : Nat → Nat) (nm : Nat → Nat) (us : Nat) (pl : Nat) (ch : Nat) (hus : us ≤ 400) (hpl : pl ≤ us) (htx : ∀ j, tx j < 128) (hch : 0 < ch ∧ ch < 128) : Ki l yT_skip cT_skip 2 .boolean 0 0 G [.ref q, .int (nI ch)] [(q, .inr (4, [.ref a1, .ref a2, .int (nI us), .int (nI pl)])), (a1, aB G 400 tx), (a2, aI G 5 nm)] sz (fun (r : Int32) (u : Nat) => (lk tx us pl = ch ∧ nI 1 = r ∧ pl + 1 = u) ∨ (¬ lk tx us pl = ch ∧ nI 0 = r ∧ pl = u)) (fun (u : Nat) => [(q, .inr (4, [.ref a1, .ref a2, .int (nI us), .int (nI u)])), (a1, aB G 400 tx), (a2, aI G 5 nm)]) := by
  refine Met.ofW (cc := cT_skip) (maxL := 2) (ret := (some .boolean)) (by decide) rfl ?_
  intro p e s m args below meth c s₁ B hml hv
  obtain ⟨hav, hsz, hP, hK, hD0, hE⟩ := hv
  have hx := B.exec
  have hb := B.bytes
  have hr := B.returns
  have htb : ∀ w ∈ TB, w.before args s = true := fun w h => atoms_spec (ws := Cond.code yT_skip cT_skip 2 (some .boolean) :: TB) B.pre w (List.mem_cons_of_mem _ h)
  have hown : s.vm.findClass "CircuitProver$Text" = some m.cls := findClass_of_methodNamed B.named
  have hlocks := B.notSynchronized
  subst hsz
  have hD := hD0.self (sz := s.heap.size)
  clear hD0
  generalize hRm : (headSpec (Cond.code yT_skip cT_skip 2 (some .boolean) :: TB) { frames := 0, cells := 0, slots := 0, locals := 0 }).room = R
  have hRf : R.frames = 0 := by rw [← hRm]; rfl
  have hRl : R.locals = 0 := by rw [← hRm]; rfl
  have hRc : R.cells = 0 := by rw [← hRm]; rfl
  have hRs : R.slots = 0 := by rw [← hRm]; rfl
  clear hRm
  generalize hAe : va_A [(q, .inr (4, [.ref a1, .ref a2, .int (nI us), .int (nI pl)])), (a1, aB G 400 tx), (a2, aI G 5 nm)] s.heap.size = A at hD hE ⊢
  have hA : ∀ q : Nat, s.heap.size ≤ q → A q := fun q h => by rw [← hAe]; exact Or.inr h
  clear hAe
  have hS : va_S A s.heap s.heap [] := va_S.rf
  have hl := lv_entry ([.ref q, .int (nI ch)]) (n := 2) (Nat.le_of_ble_eq_true rfl)
  have hent := lg_entry_eq m ([.ref q, .int (nI ch)]) 2
  rw [← hav] at hent
  rw [hent]
  clear hent hav
  generalize (lg_sl ([.ref q, .int (nI ch)]) ++ List.replicate (2 - (lg_sl ([.ref q, .int (nI ch)])).length) Slot.unset).toArray = ls at hl ⊢
  have hl : lv_has ls 2 [(0, .ref q), (1, .int (nI ch))] := hl
  generalize hQ : MQ below _ args s 0 0 _ = Q
  have hP : va_P (gD G) vC [(q, .inr (4, [.ref a1, .ref a2, .int (nI us), .int (nI pl)])), (a1, aB G 400 tx), (a2, aI G 5 nm)] s.heap := hP
  obtain ⟨H, hH⟩ : ∃ H : Heap, H = s.heap := ⟨_, rfl⟩
  obtain ⟨locs, hlc⟩ : ∃ L : List Loc, L = [] := ⟨_, rfl⟩
  have hS : va_S A s.heap H locs := by rw [hH, hlc]; exact hS
  have hP : va_P (gD G) vC [(q, .inr (4, [.ref a1, .ref a2, .int (nI us), .int (nI pl)])), (a1, aB G 400 tx), (a2, aI G 5 nm)] H := by rw [hH]; exact hP
  have hgo : W p l e R s m args below meth c H locs 0 0 Q (F0 m 0 ls []) := by
    clear hH hlc
    refine lv_aload_n hx hb dT_skip_0 rfl (lv_at hl 0 rfl) ?_
    refine va_get (D := gD G) (ci := 4) (v := .int (nI pl)) (C := "CircuitProver$Text") (T := TT) (N := 4) hx hb htb inT hown hK hP 0 rfl rfl 3 (by decide) (htb _ b37) (fun _ h9 => h9) rfl dT_skip_1 ?_
    refine lv_aload_n hx hb dT_skip_4 rfl (lv_at hl 0 rfl) ?_
    refine va_get (D := gD G) (ci := 4) (v := .int (nI us)) (C := "CircuitProver$Text") (T := TT) (N := 4) hx hb htb inT hown hK hP 0 rfl rfl 2 (by decide) (htb _ b35) (fun _ h9 => h9) rfl dT_skip_5 ?_
    refine lv_icmp_ge (tgt := 36) hx hb dT_skip_8 rfl (fun h8 => ?_) (fun h8 => ?_)
    · have h8 : us ≤ pl := (nI_leI (a := us) (b := pl) (by omega) (by omega)).mp h8
      refine lv_iconst (v := nI 0) hx hb dT_skip_36 (by decide) ?_
      -- end 0
      rw [← hQ]
      exact k_iret hx hb hr hlocks (by decide) (u := pl) (Or.inr ⟨by unfold lk; rw [if_neg (by omega)]; omega, rfl, rfl⟩) hP hD hK hS dT_skip_37
    · have h8 : pl < us := Nat.lt_of_not_le (fun z => h8 ((nI_leI (a := us) (b := pl) (by omega) (by omega)).mpr z))
      refine lv_aload_n hx hb dT_skip_11 rfl (lv_at hl 0 rfl) ?_
      refine va_get (D := gD G) (ci := 4) (v := .ref a1) (C := "CircuitProver$Text") (T := TT) (N := 4) hx hb htb inT hown hK hP 0 rfl rfl 0 (by decide) (htb _ b32) (fun _ h9 => h9) rfl dT_skip_12 ?_
      refine lv_aload_n hx hb dT_skip_15 rfl (lv_at hl 0 rfl) ?_
      refine va_get (D := gD G) (ci := 4) (v := .int (nI pl)) (C := "CircuitProver$Text") (T := TT) (N := 4) hx hb htb inT hown hK hP 0 rfl rfl 3 (by decide) (htb _ b37) (fun _ h9 => h9) rfl dT_skip_16 ?_
      refine k_bald hx hb hK hP 1 rfl (k := pl) (by omega) (by decide) dT_skip_19 ?_
      have htp := htx pl
      refine lv_iload_n hx hb dT_skip_20 rfl (lv_at hl 1 rfl) ?_
      refine lv_icmp_ne (tgt := 36) hx hb dT_skip_21 rfl (fun h21 => ?_) (fun h21 => ?_)
      · have h21 : ¬ tx pl = ch := fun z => h21 ((nI_eq (a := tx pl) (b := ch) (by omega) (by omega)).mpr z)
        refine lv_iconst (v := nI 0) hx hb dT_skip_36 (by decide) ?_
        -- end 1
        rw [← hQ]
        exact k_iret hx hb hr hlocks (by decide) (u := pl) (Or.inr ⟨by unfold lk; rw [if_pos h8]; exact h21, rfl, rfl⟩) hP hD hK hS dT_skip_37
      · have h21 : tx pl = ch := (nI_eq (a := tx pl) (b := ch) (by omega) (by omega)).mp h21
        refine lv_aload_n hx hb dT_skip_24 rfl (lv_at hl 0 rfl) ?_
        refine lv_dup hx hb dT_skip_25 rfl ?_
        refine va_get (D := gD G) (ci := 4) (v := .int (nI pl)) (C := "CircuitProver$Text") (T := TT) (N := 4) hx hb htb inT hown hK hP 0 rfl rfl 3 (by decide) (htb _ b37) (fun _ h9 => h9) rfl dT_skip_26 ?_
        refine lv_iconst (v := nI 1) hx hb dT_skip_29 (by decide) ?_
        refine lv_iadd hx hb dT_skip_30 ?_
        refine k_toi (y := nI (pl + 1)) (nI_add _ _) ?_
        refine va_put (D := gD G) (ci := 4) (v := .int (nI (pl + 1))) (ty := tyT 3) (C := "CircuitProver$Text") (T := TT) (N := 4) hx hb htb inT tyT tyT_ok nmT hown hK hP hD hS 0 rfl rfl 3 (by decide) (htb _ b37) (fun _ h9 => h9) rfl (tyT_ok 3 (by decide)) rfl rfl (Nat.le_of_ble_eq_true rfl) dT_skip_31 (fun H locs hP hD hS => ?_)
        have hP : va_P (gD G) vC [(q, .inr (4, [.ref a1, .ref a2, .int (nI us), .int (nI (pl + 1))])), (a1, aB G 400 tx), (a2, aI G 5 nm)] H := hP
        have hD : va_D A [(q, .inr (4, [.ref a1, .ref a2, .int (nI us), .int (nI (pl + 1))])), (a1, aB G 400 tx), (a2, aI G 5 nm)] := hD
        refine lv_iconst (v := nI 1) hx hb dT_skip_34 (by decide) ?_
        -- end 2
        rw [← hQ]
        exact k_iret hx hb hr hlocks (by decide) (u := (pl + 1)) (Or.inl ⟨by unfold lk; rw [if_pos h8]; exact h21, rfl, rfl⟩) hP hD hK hS dT_skip_35
  rw [hH, hlc] at hgo
  exact hgo
set_option maxRecDepth 100000 in
set_option maxHeartbeats 4000000 in
theorem k_C_contains (l : Launch) (G : GG) (sz : Nat) (x : Int64) (k : Nat) (hk : k < 64) : Ki l yC_contains cC_contains 3 .boolean 0 0 G [.long x, .int (nI k)] [] sz (fun (r : Int32) (u : Unit) => (lb x k = true ∧ nI 1 = r ∧ () = u) ∨ (lb x k = false ∧ nI 0 = r ∧ () = u)) (fun (u : Unit) => []) := by
  refine Met.ofW (cc := cC_contains) (maxL := 3) (ret := (some .boolean)) (by decide) rfl ?_
  intro p e s m args below meth c s₁ B hml hv
  obtain ⟨hav, hsz, hP, hK, hD0, hE⟩ := hv
  have hx := B.exec
  have hb := B.bytes
  have hr := B.returns
  have htb : ∀ w ∈ TB, w.before args s = true := fun w h => atoms_spec (ws := Cond.code yC_contains cC_contains 3 (some .boolean) :: TB) B.pre w (List.mem_cons_of_mem _ h)
  have hown : s.vm.findClass "CircuitProver" = some m.cls := findClass_of_methodNamed B.named
  have hlocks := B.notSynchronized
  subst hsz
  have hD := hD0.self (sz := s.heap.size)
  clear hD0
  generalize hRm : (headSpec (Cond.code yC_contains cC_contains 3 (some .boolean) :: TB) { frames := 0, cells := 0, slots := 0, locals := 0 }).room = R
  have hRf : R.frames = 0 := by rw [← hRm]; rfl
  have hRl : R.locals = 0 := by rw [← hRm]; rfl
  have hRc : R.cells = 0 := by rw [← hRm]; rfl
  have hRs : R.slots = 0 := by rw [← hRm]; rfl
  clear hRm
  generalize hAe : va_A [] s.heap.size = A at hD hE ⊢
  have hA : ∀ q : Nat, s.heap.size ≤ q → A q := fun q h => by rw [← hAe]; exact Or.inr h
  clear hAe
  have hS : va_S A s.heap s.heap [] := va_S.rf
  have hl := lv_entry ([.long x, .int (nI k)]) (n := 3) (Nat.le_of_ble_eq_true rfl)
  have hent := lg_entry_eq m ([.long x, .int (nI k)]) 3
  rw [← hav] at hent
  rw [hent]
  clear hent hav
  generalize (lg_sl ([.long x, .int (nI k)]) ++ List.replicate (3 - (lg_sl ([.long x, .int (nI k)])).length) Slot.unset).toArray = ls at hl ⊢
  have hl : lv_has ls 3 [(0, .long x), (2, .int (nI k))] := hl
  generalize hQ : MQ below _ args s 0 0 _ = Q
  have hP : va_P (gD G) vC [] s.heap := hP
  obtain ⟨H, hH⟩ : ∃ H : Heap, H = s.heap := ⟨_, rfl⟩
  obtain ⟨locs, hlc⟩ : ∃ L : List Loc, L = [] := ⟨_, rfl⟩
  have hS : va_S A s.heap H locs := by rw [hH, hlc]; exact hS
  have hP : va_P (gD G) vC [] H := by rw [hH]; exact hP
  have hgo : W p l e R s m args below meth c H locs 0 0 Q (F0 m 0 ls []) := by
    clear hH hlc
    refine lv_lload_n hx hb dC_contains_0 rfl (lv_at hl 0 rfl) ?_
    refine lv_iload_n hx hb dC_contains_1 rfl (lv_at hl 1 rfl) ?_
    refine lv_lushr (v := su x k) hx hb dC_contains_2 rfl ?_
    refine lv_lconst (v := 1) hx hb dC_contains_3 (by decide) ?_
    refine lv_land hx hb dC_contains_4 ?_
    refine lv_lconst (v := 0) hx hb dC_contains_5 (by decide) ?_
    refine W.lcmp hx hb dC_contains_6 ?_
    refine lv_if_eq (tgt := 14) hx hb dC_contains_7 rfl (fun h7 => ?_) (fun h7 => ?_)
    · have h7 : ((su x k) &&& 1) = 0 := (lg_cmp_eq _ _).mp h7
      refine lv_iconst (v := nI 0) hx hb dC_contains_14 (by decide) ?_
      -- end 0
      rw [← hQ]
      exact k_iret hx hb hr hlocks (by decide) (u := ()) (Or.inr ⟨(bit_u x hk).mp h7, rfl, rfl⟩) hP hD hK hS dC_contains_15
    · have h7 : ¬ ((su x k) &&& 1) = 0 := fun z => h7 ((lg_cmp_eq _ _).mpr z)
      refine lv_iconst (v := nI 1) hx hb dC_contains_10 (by decide) ?_
      refine lv_goto (tgt := 15) hx hb dC_contains_11 rfl ?_
      -- end 1
      rw [← hQ]
      exact k_iret hx hb hr hlocks (by decide) (u := ()) (Or.inl ⟨by have h8 := fun z => h7 ((bit_u x hk).mpr z); simpa using h8, rfl, rfl⟩) hP hD hK hS dC_contains_15
  rw [hH, hlc] at hgo
  exact hgo
set_option maxRecDepth 100000 in
set_option maxHeartbeats 4000000 in
theorem k_T_readDigit (l : Launch) (G : GG) (sz : Nat) (q : Nat) (a1 : Nat) (a2 : Nat) (tx : Nat → Nat) (nm : Nat → Nat) (us : Nat) (pl : Nat) (hus : us ≤ 400) (hpl : pl ≤ us) (htx : ∀ j, tx j < 128) : Ki l yT_readDigit cT_readDigit 1 .int 0 0 G [.ref q] [(q, .inr (4, [.ref a1, .ref a2, .int (nI us), .int (nI pl)])), (a1, aB G 400 tx), (a2, aI G 5 nm)] sz (fun (r : Int32) (u : Nat) => (dg (lk tx us pl) = true ∧ nI (lk tx us pl - 48) = r ∧ pl + 1 = u) ∨ (dg (lk tx us pl) = false ∧ (-1) = r ∧ pl = u)) (fun (u : Nat) => [(q, .inr (4, [.ref a1, .ref a2, .int (nI us), .int (nI u)])), (a1, aB G 400 tx), (a2, aI G 5 nm)]) := by
  refine Met.ofW (cc := cT_readDigit) (maxL := 1) (ret := (some .int)) (by decide) rfl ?_
  intro p e s m args below meth c s₁ B hml hv
  obtain ⟨hav, hsz, hP, hK, hD0, hE⟩ := hv
  have hx := B.exec
  have hb := B.bytes
  have hr := B.returns
  have htb : ∀ w ∈ TB, w.before args s = true := fun w h => atoms_spec (ws := Cond.code yT_readDigit cT_readDigit 1 (some .int) :: TB) B.pre w (List.mem_cons_of_mem _ h)
  have hown : s.vm.findClass "CircuitProver$Text" = some m.cls := findClass_of_methodNamed B.named
  have hlocks := B.notSynchronized
  subst hsz
  have hD := hD0.self (sz := s.heap.size)
  clear hD0
  generalize hRm : (headSpec (Cond.code yT_readDigit cT_readDigit 1 (some .int) :: TB) { frames := 0, cells := 0, slots := 0, locals := 0 }).room = R
  have hRf : R.frames = 0 := by rw [← hRm]; rfl
  have hRl : R.locals = 0 := by rw [← hRm]; rfl
  have hRc : R.cells = 0 := by rw [← hRm]; rfl
  have hRs : R.slots = 0 := by rw [← hRm]; rfl
  clear hRm
  generalize hAe : va_A [(q, .inr (4, [.ref a1, .ref a2, .int (nI us), .int (nI pl)])), (a1, aB G 400 tx), (a2, aI G 5 nm)] s.heap.size = A at hD hE ⊢
  have hA : ∀ q : Nat, s.heap.size ≤ q → A q := fun q h => by rw [← hAe]; exact Or.inr h
  clear hAe
  have hS : va_S A s.heap s.heap [] := va_S.rf
  have hl := lv_entry ([.ref q]) (n := 1) (Nat.le_of_ble_eq_true rfl)
  have hent := lg_entry_eq m ([.ref q]) 1
  rw [← hav] at hent
  rw [hent]
  clear hent hav
  generalize (lg_sl ([.ref q]) ++ List.replicate (1 - (lg_sl ([.ref q])).length) Slot.unset).toArray = ls at hl ⊢
  have hl : lv_has ls 1 [(0, .ref q)] := hl
  generalize hQ : MQ below _ args s 0 0 _ = Q
  have hP : va_P (gD G) vC [(q, .inr (4, [.ref a1, .ref a2, .int (nI us), .int (nI pl)])), (a1, aB G 400 tx), (a2, aI G 5 nm)] s.heap := hP
  obtain ⟨H, hH⟩ : ∃ H : Heap, H = s.heap := ⟨_, rfl⟩
  obtain ⟨locs, hlc⟩ : ∃ L : List Loc, L = [] := ⟨_, rfl⟩
  have hS : va_S A s.heap H locs := by rw [hH, hlc]; exact hS
  have hP : va_P (gD G) vC [(q, .inr (4, [.ref a1, .ref a2, .int (nI us), .int (nI pl)])), (a1, aB G 400 tx), (a2, aI G 5 nm)] H := by rw [hH]; exact hP
  have hgo : W p l e R s m args below meth c H locs 0 0 Q (F0 m 0 ls []) := by
    clear hH hlc
    refine lv_aload_n hx hb dT_readDigit_0 rfl (lv_at hl 0 rfl) ?_
    refine va_get (D := gD G) (ci := 4) (v := .int (nI pl)) (C := "CircuitProver$Text") (T := TT) (N := 4) hx hb htb inT hown hK hP 0 rfl rfl 3 (by decide) (htb _ b37) (fun _ h9 => h9) rfl dT_readDigit_1 ?_
    refine lv_aload_n hx hb dT_readDigit_4 rfl (lv_at hl 0 rfl) ?_
    refine va_get (D := gD G) (ci := 4) (v := .int (nI us)) (C := "CircuitProver$Text") (T := TT) (N := 4) hx hb htb inT hown hK hP 0 rfl rfl 2 (by decide) (htb _ b35) (fun _ h9 => h9) rfl dT_readDigit_5 ?_
    refine lv_icmp_ge (tgt := 64) hx hb dT_readDigit_8 rfl (fun h8 => ?_) (fun h8 => ?_)
    · have h8 : us ≤ pl := (nI_leI (a := us) (b := pl) (by omega) (by omega)).mp h8
      refine lv_iconst (v := (-1)) hx hb dT_readDigit_64 (by decide) ?_
      -- end 0
      rw [← hQ]
      exact k_iret hx hb hr hlocks rfl (u := pl) (Or.inr ⟨by unfold lk; rw [if_neg (by omega)]; decide, rfl, rfl⟩) hP hD hK hS dT_readDigit_65
    · have h8 : pl < us := Nat.lt_of_not_le (fun z => h8 ((nI_leI (a := us) (b := pl) (by omega) (by omega)).mpr z))
      refine lv_aload_n hx hb dT_readDigit_11 rfl (lv_at hl 0 rfl) ?_
      refine va_get (D := gD G) (ci := 4) (v := .ref a1) (C := "CircuitProver$Text") (T := TT) (N := 4) hx hb htb inT hown hK hP 0 rfl rfl 0 (by decide) (htb _ b32) (fun _ h9 => h9) rfl dT_readDigit_12 ?_
      refine lv_aload_n hx hb dT_readDigit_15 rfl (lv_at hl 0 rfl) ?_
      refine va_get (D := gD G) (ci := 4) (v := .int (nI pl)) (C := "CircuitProver$Text") (T := TT) (N := 4) hx hb htb inT hown hK hP 0 rfl rfl 3 (by decide) (htb _ b37) (fun _ h9 => h9) rfl dT_readDigit_16 ?_
      refine k_bald hx hb hK hP 1 rfl (k := pl) (by omega) (by decide) dT_readDigit_19 ?_
      have htp := htx pl
      refine lv_bipush (v := nI 48) hx hb dT_readDigit_20 (by decide) ?_
      refine lv_icmp_lt (tgt := 64) hx hb dT_readDigit_22 rfl (fun h22 => ?_) (fun h22 => ?_)
      · have h22 : tx pl < 48 := (nI_ltI (a := tx pl) (b := 48) (by omega) (by omega)).mp h22
        refine lv_iconst (v := (-1)) hx hb dT_readDigit_64 (by decide) ?_
        -- end 1
        rw [← hQ]
        exact k_iret hx hb hr hlocks rfl (u := pl) (Or.inr ⟨by unfold lk; rw [if_pos h8]; exact dg_no.mpr (by omega), rfl, rfl⟩) hP hD hK hS dT_readDigit_65
      · have h22 : 48 ≤ tx pl := Nat.le_of_not_lt (fun z => h22 ((nI_ltI (a := tx pl) (b := 48) (by omega) (by omega)).mpr z))
        refine lv_aload_n hx hb dT_readDigit_25 rfl (lv_at hl 0 rfl) ?_
        refine va_get (D := gD G) (ci := 4) (v := .ref a1) (C := "CircuitProver$Text") (T := TT) (N := 4) hx hb htb inT hown hK hP 0 rfl rfl 0 (by decide) (htb _ b32) (fun _ h9 => h9) rfl dT_readDigit_26 ?_
        refine lv_aload_n hx hb dT_readDigit_29 rfl (lv_at hl 0 rfl) ?_
        refine va_get (D := gD G) (ci := 4) (v := .int (nI pl)) (C := "CircuitProver$Text") (T := TT) (N := 4) hx hb htb inT hown hK hP 0 rfl rfl 3 (by decide) (htb _ b37) (fun _ h9 => h9) rfl dT_readDigit_30 ?_
        refine k_bald hx hb hK hP 1 rfl (k := pl) (by omega) (by decide) dT_readDigit_33 ?_
        refine lv_bipush (v := nI 57) hx hb dT_readDigit_34 (by decide) ?_
        refine lv_icmp_gt (tgt := 64) hx hb dT_readDigit_36 rfl (fun h36 => ?_) (fun h36 => ?_)
        · have h36 : 57 < tx pl := (nI_ltI (a := 57) (b := tx pl) (by omega) (by omega)).mp h36
          refine lv_iconst (v := (-1)) hx hb dT_readDigit_64 (by decide) ?_
          -- end 2
          rw [← hQ]
          exact k_iret hx hb hr hlocks rfl (u := pl) (Or.inr ⟨by unfold lk; rw [if_pos h8]; exact dg_no.mpr (by omega), rfl, rfl⟩) hP hD hK hS dT_readDigit_65
        · have h36 : tx pl ≤ 57 := Nat.le_of_not_lt (fun z => h36 ((nI_ltI (a := 57) (b := tx pl) (by omega) (by omega)).mpr z))
          refine lv_aload_n hx hb dT_readDigit_39 rfl (lv_at hl 0 rfl) ?_
          refine lv_dup hx hb dT_readDigit_40 rfl ?_
          refine va_get (D := gD G) (ci := 4) (v := .int (nI pl)) (C := "CircuitProver$Text") (T := TT) (N := 4) hx hb htb inT hown hK hP 0 rfl rfl 3 (by decide) (htb _ b37) (fun _ h9 => h9) rfl dT_readDigit_41 ?_
          refine lv_iconst (v := nI 1) hx hb dT_readDigit_44 (by decide) ?_
          refine lv_iadd hx hb dT_readDigit_45 ?_
          refine k_toi (y := nI (pl + 1)) (nI_add _ _) ?_
          refine va_put (D := gD G) (ci := 4) (v := .int (nI (pl + 1))) (ty := tyT 3) (C := "CircuitProver$Text") (T := TT) (N := 4) hx hb htb inT tyT tyT_ok nmT hown hK hP hD hS 0 rfl rfl 3 (by decide) (htb _ b37) (fun _ h9 => h9) rfl (tyT_ok 3 (by decide)) rfl rfl (Nat.le_of_ble_eq_true rfl) dT_readDigit_46 (fun H locs hP hD hS => ?_)
          have hP : va_P (gD G) vC [(q, .inr (4, [.ref a1, .ref a2, .int (nI us), .int (nI (pl + 1))])), (a1, aB G 400 tx), (a2, aI G 5 nm)] H := hP
          have hD : va_D A [(q, .inr (4, [.ref a1, .ref a2, .int (nI us), .int (nI (pl + 1))])), (a1, aB G 400 tx), (a2, aI G 5 nm)] := hD
          refine lv_aload_n hx hb dT_readDigit_49 rfl (lv_at hl 0 rfl) ?_
          refine va_get (D := gD G) (ci := 4) (v := .ref a1) (C := "CircuitProver$Text") (T := TT) (N := 4) hx hb htb inT hown hK hP 0 rfl rfl 0 (by decide) (htb _ b32) (fun _ h9 => h9) rfl dT_readDigit_50 ?_
          refine lv_aload_n hx hb dT_readDigit_53 rfl (lv_at hl 0 rfl) ?_
          refine va_get (D := gD G) (ci := 4) (v := .int (nI (pl + 1))) (C := "CircuitProver$Text") (T := TT) (N := 4) hx hb htb inT hown hK hP 0 rfl rfl 3 (by decide) (htb _ b37) (fun _ h9 => h9) rfl dT_readDigit_54 ?_
          refine lv_iconst (v := nI 1) hx hb dT_readDigit_57 (by decide) ?_
          refine lv_isub hx hb dT_readDigit_58 ?_
          refine k_toi (y := nI pl) ((pk_sub (by omega)).trans (by rw [Nat.add_sub_cancel])) ?_
          refine k_bald hx hb hK hP 1 rfl (k := pl) (by omega) (by decide) dT_readDigit_59 ?_
          refine lv_bipush (v := nI 48) hx hb dT_readDigit_60 (by decide) ?_
          refine lv_isub hx hb dT_readDigit_62 ?_
          refine k_toi (y := nI ((tx pl) - 48)) (pk_sub (by omega)) ?_
          -- end 3
          rw [← hQ]
          exact k_iret hx hb hr hlocks rfl (u := (pl + 1)) (Or.inl ⟨by unfold lk; rw [if_pos h8]; exact dg_iff.mpr (by omega), by unfold lk; rw [if_pos h8], rfl⟩) hP hD hK hS dT_readDigit_63
  rw [hH, hlc] at hgo
  exact hgo
set_option maxRecDepth 100000 in
set_option maxHeartbeats 4000000 in
theorem k_T_readNumber (l : Launch) (G : GG) (sz : Nat) (q : Nat) (a1 : Nat) (a2 : Nat) (tx : Nat → Nat) (nm : Nat → Nat) (us : Nat) (pl : Nat) (hus : us ≤ 400) (hpl : pl ≤ us) (htx : ∀ j, tx j < 128) : Ki l yT_readNumber cT_readNumber 3 .int 1 20 G [.ref q] [(q, .inr (4, [.ref a1, .ref a2, .int (nI us), .int (nI pl)])), (a1, aB G 400 tx), (a2, aI G 5 nm)] sz (fun (r : Int32) (u : Nat) => (∃ (v : Nat), ∃ (z : Nat), cnum (lk tx us) pl = some (v, z) ∧ nI v = r ∧ z = u) ∨ (cnum (lk tx us) pl = none ∧ (-1) = r ∧ pl = u)) (fun (u : Nat) => [(q, .inr (4, [.ref a1, .ref a2, .int (nI us), .int (nI u)])), (a1, aB G 400 tx), (a2, aI G 5 nm)]) := by
  refine Met.ofW (cc := cT_readNumber) (maxL := 3) (ret := (some .int)) (by decide) rfl ?_
  intro p e s m args below meth c s₁ B hml hv
  obtain ⟨hav, hsz, hP, hK, hD0, hE⟩ := hv
  have hx := B.exec
  have hb := B.bytes
  have hr := B.returns
  have htb : ∀ w ∈ TB, w.before args s = true := fun w h => atoms_spec (ws := Cond.code yT_readNumber cT_readNumber 3 (some .int) :: TB) B.pre w (List.mem_cons_of_mem _ h)
  have hown : s.vm.findClass "CircuitProver$Text" = some m.cls := findClass_of_methodNamed B.named
  have hlocks := B.notSynchronized
  subst hsz
  have hD := hD0.self (sz := s.heap.size)
  clear hD0
  generalize hRm : (headSpec (Cond.code yT_readNumber cT_readNumber 3 (some .int) :: TB) { frames := 1, cells := 0, slots := 0, locals := 20 }).room = R
  have hRf : R.frames = 1 := by rw [← hRm]; rfl
  have hRl : R.locals = 20 := by rw [← hRm]; rfl
  have hRc : R.cells = 0 := by rw [← hRm]; rfl
  have hRs : R.slots = 0 := by rw [← hRm]; rfl
  clear hRm
  generalize hAe : va_A [(q, .inr (4, [.ref a1, .ref a2, .int (nI us), .int (nI pl)])), (a1, aB G 400 tx), (a2, aI G 5 nm)] s.heap.size = A at hD hE ⊢
  have hA : ∀ q : Nat, s.heap.size ≤ q → A q := fun q h => by rw [← hAe]; exact Or.inr h
  clear hAe
  have hS : va_S A s.heap s.heap [] := va_S.rf
  have hl := lv_entry ([.ref q]) (n := 3) (Nat.le_of_ble_eq_true rfl)
  have hent := lg_entry_eq m ([.ref q]) 3
  rw [← hav] at hent
  rw [hent]
  clear hent hav
  generalize (lg_sl ([.ref q]) ++ List.replicate (3 - (lg_sl ([.ref q])).length) Slot.unset).toArray = ls at hl ⊢
  have hl : lv_has ls 3 [(0, .ref q)] := hl
  generalize hQ : MQ below _ args s 0 0 _ = Q
  have hP : va_P (gD G) vC [(q, .inr (4, [.ref a1, .ref a2, .int (nI us), .int (nI pl)])), (a1, aB G 400 tx), (a2, aI G 5 nm)] s.heap := hP
  obtain ⟨H, hH⟩ : ∃ H : Heap, H = s.heap := ⟨_, rfl⟩
  obtain ⟨locs, hlc⟩ : ∃ L : List Loc, L = [] := ⟨_, rfl⟩
  have hS : va_S A s.heap H locs := by rw [hH, hlc]; exact hS
  have hP : va_P (gD G) vC [(q, .inr (4, [.ref a1, .ref a2, .int (nI us), .int (nI pl)])), (a1, aB G 400 tx), (a2, aI G 5 nm)] H := by rw [hH]; exact hP
  have hgo : W p l e R s m args below meth c H locs 0 0 Q (F0 m 0 ls []) := by
    clear hH hlc
    refine lv_aload_n hx hb dT_readNumber_0 rfl (lv_at hl 0 rfl) ?_
    refine k_i (ws2 := fun u => [(q, .inr (4, [.ref a1, .ref a2, .int (nI us), .int (nI (u))])), (a1, aB G 400 tx), (a2, aI G 5 nm)]) (wr := []) (k_runV (As := []) (rest := []) hx hb hml hown htb hP hD hK hS hA hE (k_T_readDigit l G H.size q a1 a2 tx nm us pl (show us ≤ 400 from by omega) (show pl ≤ us from by omega) (show ∀ j, tx j < 128 from by omega)) b266 b268 s3 b2 b269 (by decide +kernel) rfl rfl ⟨by rw [hRf]; exact Nat.le_of_ble_eq_true rfl, by rw [hRl]; exact Nat.le_of_ble_eq_true rfl⟩ [0, 1, 2] rfl (by decide) 0 rfl rfl rfl rfl hl.1 rfl (Nat.le_of_ble_eq_true rfl) dT_readNumber_1 ⟨Nat.zero_le _, Nat.zero_le _⟩) hP hD hS hA [0, 1, 2] [] [0, 1, 2] rfl rfl (by decide) (by decide) (fun u => rfl) (by decide) (fun r u H locs hw hP hD hS => ?_)
    rcases hw with ⟨hc1_e, rfl, rfl⟩ | ⟨hc1_e, rfl, rfl⟩
    · skip
      have hP : va_P (gD G) vC [(q, .inr (4, [.ref a1, .ref a2, .int (nI us), .int (nI (pl + 1))])), (a1, aB G 400 tx), (a2, aI G 5 nm)] H := hP
      have hD : va_D A [(q, .inr (4, [.ref a1, .ref a2, .int (nI us), .int (nI (pl + 1))])), (a1, aB G 400 tx), (a2, aI G 5 nm)] := hD
      have hl1 := lk_lt htx us pl
      have hd1 := dg_iff.mp hc1_e
      have hi1 := lk_in (tx := tx) (us := us) (p := pl) (by omega)
      refine lv_istore_n (lv' := [(1, .int (nI (lk tx us pl - 48))), (0, .ref q)]) hx hb dT_readNumber_4 rfl hl (by decide) rfl (fun ls hl => ?_)
      refine lv_iload_n hx hb dT_readNumber_5 rfl (lv_at hl 0 rfl) ?_
      refine lv_if_gt (tgt := 11) hx hb dT_readNumber_6 rfl (fun h6 => ?_) (fun h6 => ?_)
      · have h6 : 0 < lk tx us pl - 48 := (nI_ltI (a := 0) (b := lk tx us pl - 48) (by omega) (by omega)).mp h6
        refine lv_aload_n hx hb dT_readNumber_11 rfl (lv_at hl 1 rfl) ?_
        refine k_i (ws2 := fun u => [(q, .inr (4, [.ref a1, .ref a2, .int (nI us), .int (nI (u))])), (a1, aB G 400 tx), (a2, aI G 5 nm)]) (wr := []) (k_runV (As := []) (rest := []) hx hb hml hown htb hP hD hK hS hA hE (k_T_readDigit l G H.size q a1 a2 tx nm us (pl + 1) (show us ≤ 400 from by omega) (show (pl + 1) ≤ us from by omega) (show ∀ j, tx j < 128 from by omega)) b266 b268 s3 b2 b269 (by decide +kernel) rfl rfl ⟨by rw [hRf]; exact Nat.le_of_ble_eq_true rfl, by rw [hRl]; exact Nat.le_of_ble_eq_true rfl⟩ [0, 1, 2] rfl (by decide) 0 rfl rfl rfl rfl hl.1 rfl (Nat.le_of_ble_eq_true rfl) dT_readNumber_12 ⟨Nat.zero_le _, Nat.zero_le _⟩) hP hD hS hA [0, 1, 2] [] [0, 1, 2] rfl rfl (by decide) (by decide) (fun u => rfl) (by decide) (fun r u H locs hw hP hD hS => ?_)
        rcases hw with ⟨hc12_e, rfl, rfl⟩ | ⟨hc12_e, rfl, rfl⟩
        · skip
          have hP : va_P (gD G) vC [(q, .inr (4, [.ref a1, .ref a2, .int (nI us), .int (nI ((pl + 1) + 1))])), (a1, aB G 400 tx), (a2, aI G 5 nm)] H := hP
          have hD : va_D A [(q, .inr (4, [.ref a1, .ref a2, .int (nI us), .int (nI ((pl + 1) + 1))])), (a1, aB G 400 tx), (a2, aI G 5 nm)] := hD
          have hl2 := lk_lt htx us (pl + 1)
          have hd2 := dg_iff.mp hc12_e
          have hi2 := lk_in (tx := tx) (us := us) (p := pl + 1) (by omega)
          refine lv_istore_n (lv' := [(2, .int (nI (lk tx us (pl + 1) - 48))), (1, .int (nI (lk tx us pl - 48))), (0, .ref q)]) hx hb dT_readNumber_15 rfl hl (by decide) rfl (fun ls hl => ?_)
          refine lv_iload_n hx hb dT_readNumber_16 rfl (lv_at hl 0 rfl) ?_
          refine lv_iconst (v := (-1)) hx hb dT_readNumber_17 (by decide) ?_
          refine lv_icmp_ne (tgt := 25) hx hb dT_readNumber_18 rfl (fun _ => ?_) (fun h18 => (by revert h18; first | decide | exact fun z => absurd z (nI_m1 (by omega)) | exact fun z => z.elim (nI_m1 (by omega))))
          refine lv_bipush (v := nI 10) hx hb dT_readNumber_25 (by decide) ?_
          refine lv_iload_n hx hb dT_readNumber_27 rfl (lv_at hl 1 rfl) ?_
          refine lv_imul hx hb dT_readNumber_28 ?_
          refine k_toi (y := nI (10 * (lk tx us pl - 48))) (pk_mul _ _) ?_
          refine lv_iload_n hx hb dT_readNumber_29 rfl (lv_at hl 0 rfl) ?_
          refine lv_iadd hx hb dT_readNumber_30 ?_
          refine k_toi (y := nI ((10 * (lk tx us pl - 48)) + (lk tx us (pl + 1) - 48))) (nI_add _ _) ?_
          -- end 0
          rw [← hQ]
          exact k_iret hx hb hr hlocks rfl (u := ((pl + 1) + 1)) (Or.inl ⟨_, _, by unfold cnum; rw [if_pos hc1_e, if_neg (by omega), if_pos hc12_e], rfl, rfl⟩) hP hD hK hS dT_readNumber_31
        · skip
          have hP : va_P (gD G) vC [(q, .inr (4, [.ref a1, .ref a2, .int (nI us), .int (nI (pl + 1))])), (a1, aB G 400 tx), (a2, aI G 5 nm)] H := hP
          have hD : va_D A [(q, .inr (4, [.ref a1, .ref a2, .int (nI us), .int (nI (pl + 1))])), (a1, aB G 400 tx), (a2, aI G 5 nm)] := hD
          refine lv_istore_n (lv' := [(2, .int (-1)), (1, .int (nI (lk tx us pl - 48))), (0, .ref q)]) hx hb dT_readNumber_15 rfl hl (by decide) rfl (fun ls hl => ?_)
          refine lv_iload_n hx hb dT_readNumber_16 rfl (lv_at hl 0 rfl) ?_
          refine lv_iconst (v := (-1)) hx hb dT_readNumber_17 (by decide) ?_
          refine lv_icmp_ne (tgt := 25) hx hb dT_readNumber_18 rfl (fun h18 => (by revert h18; first | decide | exact fun z => absurd z (by decide) | exact fun z => z.elim (by decide))) (fun _ => ?_)
          refine lv_iload_n hx hb dT_readNumber_21 rfl (lv_at hl 1 rfl) ?_
          refine lv_goto (tgt := 31) hx hb dT_readNumber_22 rfl ?_
          -- end 1
          rw [← hQ]
          exact k_iret hx hb hr hlocks rfl (u := (pl + 1)) (Or.inl ⟨_, _, by unfold cnum; rw [if_pos hc1_e, if_neg (by omega), if_neg (by rw [hc12_e]; decide)], rfl, rfl⟩) hP hD hK hS dT_readNumber_31
      · have h6 : lk tx us pl - 48 ≤ 0 := Nat.le_of_not_lt (fun z => h6 ((nI_ltI (a := 0) (b := lk tx us pl - 48) (by omega) (by omega)).mpr z))
        refine lv_iload_n hx hb dT_readNumber_9 rfl (lv_at hl 0 rfl) ?_
        -- end 2
        rw [← hQ]
        exact k_iret hx hb hr hlocks rfl (u := (pl + 1)) (Or.inl ⟨_, _, by unfold cnum; rw [if_pos hc1_e, if_pos (by omega), show lk tx us pl - 48 = 0 by omega], rfl, rfl⟩) hP hD hK hS dT_readNumber_10
    · skip
      have hP : va_P (gD G) vC [(q, .inr (4, [.ref a1, .ref a2, .int (nI us), .int (nI pl)])), (a1, aB G 400 tx), (a2, aI G 5 nm)] H := hP
      have hD : va_D A [(q, .inr (4, [.ref a1, .ref a2, .int (nI us), .int (nI pl)])), (a1, aB G 400 tx), (a2, aI G 5 nm)] := hD
      refine lv_istore_n (lv' := [(1, .int (-1)), (0, .ref q)]) hx hb dT_readNumber_4 rfl hl (by decide) rfl (fun ls hl => ?_)
      refine lv_iload_n hx hb dT_readNumber_5 rfl (lv_at hl 0 rfl) ?_
      refine lv_if_gt (tgt := 11) hx hb dT_readNumber_6 rfl (fun h6 => (by revert h6; first | decide | exact fun z => absurd z (by decide) | exact fun z => z.elim (by decide))) (fun _ => ?_)
      refine lv_iload_n hx hb dT_readNumber_9 rfl (lv_at hl 0 rfl) ?_
      -- end 3
      rw [← hQ]
      exact k_iret hx hb hr hlocks rfl (u := pl) (Or.inr ⟨by unfold cnum; rw [if_neg (by rw [hc1_e]; decide)], rfl, rfl⟩) hP hD hK hS dT_readNumber_10
  rw [hH, hlc] at hgo
  exact hgo
set_option maxRecDepth 100000 in
set_option maxHeartbeats 4000000 in
theorem k_T_readLine (l : Launch) (G : GG) (sz : Nat) (q : Nat) (a1 : Nat) (a2 : Nat) (tx : Nat → Nat) (nm : Nat → Nat) (us : Nat) (pl : Nat) (hus : us ≤ 400) (hpl : pl ≤ us) (htx : ∀ j, tx j < 128) : Ki l yT_readLine cT_readLine 3 .int 2 42 G [.ref q] [(q, .inr (4, [.ref a1, .ref a2, .int (nI us), .int (nI pl)])), (a1, aB G 400 tx), (a2, aI G 5 nm)] sz (fun (r : Int32) (u : (Nat → Nat) × Nat) => (∃ (li : List Nat), ∃ (z : Nat), ∃ (nn : Nat → Nat), lnF (lk tx us) 5 pl = some (li, z) ∧ (∀ j, j < li.length → nn j = li.getD j 0) ∧ nI li.length = r ∧ (nn, z) = u) ∨ (∃ (z : Nat), ∃ (nn : Nat → Nat), lnF (lk tx us) 5 pl = none ∧ z ≤ us ∧ nI 0 = r ∧ (nn, z) = u)) (fun (u : (Nat → Nat) × Nat) => [(q, .inr (4, [.ref a1, .ref a2, .int (nI us), .int (nI u.2)])), (a1, aB G 400 tx), (a2, aI G 5 u.1)]) := by
  refine Met.ofW (cc := cT_readLine) (maxL := 3) (ret := (some .int)) (by decide) rfl ?_
  intro p e s m args below meth c s₁ B hml hv
  obtain ⟨hav, hsz, hP, hK, hD0, hE⟩ := hv
  have hx := B.exec
  have hb := B.bytes
  have hr := B.returns
  have htb : ∀ w ∈ TB, w.before args s = true := fun w h => atoms_spec (ws := Cond.code yT_readLine cT_readLine 3 (some .int) :: TB) B.pre w (List.mem_cons_of_mem _ h)
  have hown : s.vm.findClass "CircuitProver$Text" = some m.cls := findClass_of_methodNamed B.named
  have hlocks := B.notSynchronized
  subst hsz
  have hD := hD0.self (sz := s.heap.size)
  clear hD0
  generalize hRm : (headSpec (Cond.code yT_readLine cT_readLine 3 (some .int) :: TB) { frames := 2, cells := 0, slots := 0, locals := 42 }).room = R
  have hRf : R.frames = 2 := by rw [← hRm]; rfl
  have hRl : R.locals = 42 := by rw [← hRm]; rfl
  have hRc : R.cells = 0 := by rw [← hRm]; rfl
  have hRs : R.slots = 0 := by rw [← hRm]; rfl
  clear hRm
  generalize hAe : va_A [(q, .inr (4, [.ref a1, .ref a2, .int (nI us), .int (nI pl)])), (a1, aB G 400 tx), (a2, aI G 5 nm)] s.heap.size = A at hD hE ⊢
  have hA : ∀ q : Nat, s.heap.size ≤ q → A q := fun q h => by rw [← hAe]; exact Or.inr h
  clear hAe
  have hS : va_S A s.heap s.heap [] := va_S.rf
  have hl := lv_entry ([.ref q]) (n := 3) (Nat.le_of_ble_eq_true rfl)
  have hent := lg_entry_eq m ([.ref q]) 3
  rw [← hav] at hent
  rw [hent]
  clear hent hav
  generalize (lg_sl ([.ref q]) ++ List.replicate (3 - (lg_sl ([.ref q])).length) Slot.unset).toArray = ls at hl ⊢
  have hl : lv_has ls 3 [(0, .ref q)] := hl
  generalize hQ : MQ below _ args s 0 0 _ = Q
  have hP : va_P (gD G) vC [(q, .inr (4, [.ref a1, .ref a2, .int (nI us), .int (nI pl)])), (a1, aB G 400 tx), (a2, aI G 5 nm)] s.heap := hP
  obtain ⟨H, hH⟩ : ∃ H : Heap, H = s.heap := ⟨_, rfl⟩
  obtain ⟨locs, hlc⟩ : ∃ L : List Loc, L = [] := ⟨_, rfl⟩
  have hS : va_S A s.heap H locs := by rw [hH, hlc]; exact hS
  have hP : va_P (gD G) vC [(q, .inr (4, [.ref a1, .ref a2, .int (nI us), .int (nI pl)])), (a1, aB G 400 tx), (a2, aI G 5 nm)] H := by rw [hH]; exact hP
  have hgo : W p l e R s m args below meth c H locs 0 0 Q (F0 m 0 ls []) := by
    clear hH hlc
    refine lv_iconst (v := nI 0) hx hb dT_readLine_0 (by decide) ?_
    refine lv_istore_n (lv' := [(1, .int (nI 0)), (0, .ref q)]) hx hb dT_readLine_1 rfl hl (by decide) rfl (fun ls hl => ?_)
    have loop2 : ∀ (n : Nat) (k : Nat) (nw : Nat → Nat) (pw : Nat) (li : List Nat) (H : Heap) (locs : List Loc) (ls : Array Slot), 5 - k < n → (k ≤ 5 ∧ li.length = k) → (pw ≤ us) → (∀ j, j < k → nw j = li.getD j 0) → (lnF (lk tx us) 5 pl = pre li (lnF (lk tx us) (5 - k) pw)) → va_P (gD G) vC [(q, .inr (4, [.ref a1, .ref a2, .int (nI us), .int (nI pw)])), (a1, aB G 400 tx), (a2, aI G 5 nw)] H → va_D A [(q, .inr (4, [.ref a1, .ref a2, .int (nI us), .int (nI pw)])), (a1, aB G 400 tx), (a2, aI G 5 nw)] → va_S A s.heap H locs → lv_has ls 3 [(0, .ref q), (1, .int (nI k))] → W p l e R s m args below meth c H locs 0 0 Q (F0 m 2 ls []) := by
      intro n
      induction n with
      | zero => intro k nw pw li H locs ls hmu; omega
      | succ n ih =>
        intro k nw pw li H locs ls hmu hk hp ha he hP hD hS hl
        have ih2 := ih
        clear ih
        refine lv_iload_n hx hb dT_readLine_2 rfl (lv_at hl 1 rfl) ?_
        refine lv_iconst (v := nI 5) hx hb dT_readLine_3 (by decide) ?_
        refine lv_icmp_ge (tgt := 56) hx hb dT_readLine_4 rfl (fun h4 => ?_) (fun h4 => ?_)
        · have h4 : 5 ≤ k := (nI_leI (a := 5) (b := k) (by omega) (by omega)).mp h4
          refine lv_iconst (v := nI 0) hx hb dT_readLine_56 (by decide) ?_
          -- end 0
          rw [← hQ]
          exact k_iret hx hb hr hlocks rfl (u := (nw, pw)) (Or.inr ⟨_, _, by rw [he, show 5 - k = 0 by omega]; rfl, hp, rfl, rfl⟩) hP hD hK hS dT_readLine_57
        · have h4 : k < 5 := Nat.lt_of_not_le (fun z => h4 ((nI_leI (a := 5) (b := k) (by omega) (by omega)).mpr z))
          refine lv_aload_n hx hb dT_readLine_7 rfl (lv_at hl 0 rfl) ?_
          refine k_i (ws2 := fun u => [(q, .inr (4, [.ref a1, .ref a2, .int (nI us), .int (nI (u))])), (a1, aB G 400 tx), (a2, aI G 5 nw)]) (wr := []) (k_runV (As := []) (rest := []) hx hb hml hown htb hP hD hK hS hA hE (k_T_readNumber l G H.size q a1 a2 tx nw us pw (show us ≤ 400 from by omega) (show pw ≤ us from by omega) (show ∀ j, tx j < 128 from by omega)) b262 b264 s2 b2 b265 (by decide +kernel) rfl rfl ⟨by rw [hRf]; exact Nat.le_of_ble_eq_true rfl, by rw [hRl]; exact Nat.le_of_ble_eq_true rfl⟩ [0, 1, 2] rfl (by decide) 0 rfl rfl rfl rfl hl.1 rfl (Nat.le_of_ble_eq_true rfl) dT_readLine_8 ⟨Nat.zero_le _, Nat.zero_le _⟩) hP hD hS hA [0, 1, 2] [] [0, 1, 2] rfl rfl (by decide) (by decide) (fun u => rfl) (by decide) (fun r u H locs hw hP hD hS => ?_)
          rcases hw with ⟨v8, z8, hc8_e, rfl, rfl⟩ | ⟨hc8_e, rfl, rfl⟩
          · skip
            have hP : va_P (gD G) vC [(q, .inr (4, [.ref a1, .ref a2, .int (nI us), .int (nI z8)])), (a1, aB G 400 tx), (a2, aI G 5 nw)] H := hP
            have hD : va_D A [(q, .inr (4, [.ref a1, .ref a2, .int (nI us), .int (nI z8)])), (a1, aB G 400 tx), (a2, aI G 5 nw)] := hD
            have hv8 := cnum_lt hc8_e
            have hz8 := cnum_le hc8_e
            refine lv_istore_n (lv' := [(2, .int (nI v8)), (0, .ref q), (1, .int (nI k))]) hx hb dT_readLine_11 rfl hl (by decide) rfl (fun ls hl => ?_)
            refine lv_iload_n hx hb dT_readLine_12 rfl (lv_at hl 0 rfl) ?_
            refine lv_iconst (v := (-1)) hx hb dT_readLine_13 (by decide) ?_
            refine lv_icmp_ne (tgt := 19) hx hb dT_readLine_14 rfl (fun _ => ?_) (fun h14 => (by revert h14; first | decide | exact fun z => absurd z (nI_m1 (by omega)) | exact fun z => z.elim (nI_m1 (by omega))))
            refine lv_aload_n hx hb dT_readLine_19 rfl (lv_at hl 1 rfl) ?_
            refine va_get (D := gD G) (ci := 4) (v := .ref a2) (C := "CircuitProver$Text") (T := TT) (N := 4) hx hb htb inT hown hK hP 0 rfl rfl 1 (by decide) (htb _ b33) (fun _ h9 => h9) rfl dT_readLine_20 ?_
            refine lv_iload_n hx hb dT_readLine_23 rfl (lv_at hl 2 rfl) ?_
            refine lv_iload_n hx hb dT_readLine_24 rfl (lv_at hl 0 rfl) ?_
            refine k_iast hx hb hK hP hD hS 2 rfl (k := k) (v := v8) (by omega) (by decide) dT_readLine_25 (fun H locs hP hD hS => ?_)
            have hP : va_P (gD G) vC [(q, .inr (4, [.ref a1, .ref a2, .int (nI us), .int (nI z8)])), (a1, aB G 400 tx), (a2, aI G 5 (va_up nw k v8))] H := hP
            have hD : va_D A [(q, .inr (4, [.ref a1, .ref a2, .int (nI us), .int (nI z8)])), (a1, aB G 400 tx), (a2, aI G 5 (va_up nw k v8))] := hD
            refine lv_aload_n hx hb dT_readLine_26 rfl (lv_at hl 1 rfl) ?_
            refine lv_bipush (v := nI 10) hx hb dT_readLine_27 (by decide) ?_
            refine k_i (ws2 := fun u => [(q, .inr (4, [.ref a1, .ref a2, .int (nI us), .int (nI (u))])), (a1, aB G 400 tx), (a2, aI G 5 (va_up nw k v8))]) (wr := []) (k_runV (As := [.int (nI 10)]) (rest := []) hx hb hml hown htb hP hD hK hS hA hE (k_T_skip l G H.size q a1 a2 tx (va_up nw k v8) us z8 10 (show us ≤ 400 from by omega) (show z8 ≤ us from by omega) (show ∀ j, tx j < 128 from by omega) (show 0 < 10 ∧ 10 < 128 from by omega)) b270 b255 b256 b2 b257 (by decide +kernel) rfl rfl ⟨by rw [hRf]; exact Nat.le_of_ble_eq_true rfl, by rw [hRl]; exact Nat.le_of_ble_eq_true rfl⟩ [0, 1, 2] rfl (by decide) 0 rfl rfl rfl rfl hl.1 rfl (Nat.le_of_ble_eq_true rfl) dT_readLine_29 ⟨Nat.zero_le _, Nat.zero_le _⟩) hP hD hS hA [0, 1, 2] [] [0, 1, 2] rfl rfl (by decide) (by decide) (fun u => rfl) (by decide) (fun r u H locs hw hP hD hS => ?_)
            rcases hw with ⟨hc29_e, rfl, rfl⟩ | ⟨hc29_e, rfl, rfl⟩
            · skip
              have hP : va_P (gD G) vC [(q, .inr (4, [.ref a1, .ref a2, .int (nI us), .int (nI (z8 + 1))])), (a1, aB G 400 tx), (a2, aI G 5 (va_up nw k v8))] H := hP
              have hD : va_D A [(q, .inr (4, [.ref a1, .ref a2, .int (nI us), .int (nI (z8 + 1))])), (a1, aB G 400 tx), (a2, aI G 5 (va_up nw k v8))] := hD
              refine lv_if_eq (tgt := 39) hx hb dT_readLine_32 rfl (fun h32 => (by revert h32; first | decide | exact fun z => absurd z (by decide) | exact fun z => z.elim (by decide))) (fun _ => ?_)
              refine lv_iload_n hx hb dT_readLine_35 rfl (lv_at hl 2 rfl) ?_
              refine lv_iconst (v := nI 1) hx hb dT_readLine_36 (by decide) ?_
              refine lv_iadd hx hb dT_readLine_37 ?_
              refine k_toi (y := nI (k + 1)) (nI_add _ _) ?_
              -- end 1
              rw [← hQ]
              exact k_iret hx hb hr hlocks rfl (u := ((va_up nw k v8), (z8 + 1))) (Or.inl ⟨li ++ [v8], _, _, by rw [he, show 5 - k = (5 - (k + 1)) + 1 by omega, lnF_s hc8_e, if_pos hc29_e]; rfl, by intro j hj; simp at hj; by_cases hjk : j = k; (subst hjk; rw [va_up_self, ← hk.2, getD_last]); (rw [va_up_ne _ _ hjk, getD_ap (by omega)]; exact ha j (by omega)), by simp [hk.2], rfl⟩) hP hD hK hS dT_readLine_38
            · skip
              have hP : va_P (gD G) vC [(q, .inr (4, [.ref a1, .ref a2, .int (nI us), .int (nI z8)])), (a1, aB G 400 tx), (a2, aI G 5 (va_up nw k v8))] H := hP
              have hD : va_D A [(q, .inr (4, [.ref a1, .ref a2, .int (nI us), .int (nI z8)])), (a1, aB G 400 tx), (a2, aI G 5 (va_up nw k v8))] := hD
              refine lv_if_eq (tgt := 39) hx hb dT_readLine_32 rfl (fun _ => ?_) (fun h32 => (by revert h32; first | decide | exact fun z => absurd z (by decide) | exact fun z => z.elim (by decide)))
              refine lv_aload_n hx hb dT_readLine_39 rfl (lv_at hl 1 rfl) ?_
              refine lv_bipush (v := nI 32) hx hb dT_readLine_40 (by decide) ?_
              refine k_i (ws2 := fun u => [(q, .inr (4, [.ref a1, .ref a2, .int (nI us), .int (nI (u))])), (a1, aB G 400 tx), (a2, aI G 5 (va_up nw k v8))]) (wr := []) (k_runV (As := [.int (nI 32)]) (rest := []) hx hb hml hown htb hP hD hK hS hA hE (k_T_skip l G H.size q a1 a2 tx (va_up nw k v8) us z8 32 (show us ≤ 400 from by omega) (show z8 ≤ us from by omega) (show ∀ j, tx j < 128 from by omega) (show 0 < 32 ∧ 32 < 128 from by omega)) b270 b255 b256 b2 b257 (by decide +kernel) rfl rfl ⟨by rw [hRf]; exact Nat.le_of_ble_eq_true rfl, by rw [hRl]; exact Nat.le_of_ble_eq_true rfl⟩ [0, 1, 2] rfl (by decide) 0 rfl rfl rfl rfl hl.1 rfl (Nat.le_of_ble_eq_true rfl) dT_readLine_42 ⟨Nat.zero_le _, Nat.zero_le _⟩) hP hD hS hA [0, 1, 2] [] [0, 1, 2] rfl rfl (by decide) (by decide) (fun u => rfl) (by decide) (fun r u H locs hw hP hD hS => ?_)
              rcases hw with ⟨hc42_e, rfl, rfl⟩ | ⟨hc42_e, rfl, rfl⟩
              · skip
                have hP : va_P (gD G) vC [(q, .inr (4, [.ref a1, .ref a2, .int (nI us), .int (nI (z8 + 1))])), (a1, aB G 400 tx), (a2, aI G 5 (va_up nw k v8))] H := hP
                have hD : va_D A [(q, .inr (4, [.ref a1, .ref a2, .int (nI us), .int (nI (z8 + 1))])), (a1, aB G 400 tx), (a2, aI G 5 (va_up nw k v8))] := hD
                have hi42 := lk_in (tx := tx) (us := us) (p := z8) (by omega)
                refine lv_if_ne (tgt := 50) hx hb dT_readLine_45 rfl (fun _ => ?_) (fun h45 => (by revert h45; first | decide | exact fun z => absurd z (by decide) | exact fun z => z.elim (by decide)))
                refine lv_iinc (v := nI (k + 1)) (lv' := [(1, .int (nI (k + 1))), (2, .int (nI v8)), (0, .ref q)]) hx hb dT_readLine_50 hl (k := 2) rfl (nI_add _ 1) (by decide) rfl (fun ls hl => ?_)
                refine lv_goto (tgt := 2) hx hb dT_readLine_53 rfl ?_
                have hl : lv_has ls 3 [(0, .ref q), (1, .int (nI (k + 1)))] := lv_sub hl [2, 0] rfl
                have hst : ∀ j, j < k + 1 → va_up nw k v8 j = (li ++ [v8]).getD j 0 := by
                              intro j hj
                              by_cases hjk : j = k
                              · subst hjk; rw [va_up_self, ← hk.2, getD_last]
                              · rw [va_up_ne _ _ hjk, getD_ap (by omega)]; exact ha j (by omega)
                have hst2 : lnF (lk tx us) 5 pl = pre (li ++ [v8]) (lnF (lk tx us) (5 - (k + 1)) (z8 + 1)) := by rw [he, show 5 - k = (5 - (k + 1)) + 1 by omega, lnF_s hc8_e, if_neg hc29_e, if_pos hc42_e, pre_pre]
                exact ih2 (k + 1) (va_up nw k v8) (z8 + 1) (li ++ [v8]) _ _ _ (by omega) (⟨by omega, by simp [hk.2]⟩) (by omega) hst hst2 hP hD hS hl
              · skip
                have hP : va_P (gD G) vC [(q, .inr (4, [.ref a1, .ref a2, .int (nI us), .int (nI z8)])), (a1, aB G 400 tx), (a2, aI G 5 (va_up nw k v8))] H := hP
                have hD : va_D A [(q, .inr (4, [.ref a1, .ref a2, .int (nI us), .int (nI z8)])), (a1, aB G 400 tx), (a2, aI G 5 (va_up nw k v8))] := hD
                refine lv_if_ne (tgt := 50) hx hb dT_readLine_45 rfl (fun h45 => (by revert h45; first | decide | exact fun z => absurd z (by decide) | exact fun z => z.elim (by decide))) (fun _ => ?_)
                refine lv_iconst (v := nI 0) hx hb dT_readLine_48 (by decide) ?_
                -- end 2
                rw [← hQ]
                exact k_iret hx hb hr hlocks rfl (u := ((va_up nw k v8), z8)) (Or.inr ⟨_, _, by rw [he, show 5 - k = (5 - (k + 1)) + 1 by omega, lnF_s hc8_e, if_neg hc29_e, if_neg hc42_e]; rfl, by omega, rfl, rfl⟩) hP hD hK hS dT_readLine_49
          · skip
            have hP : va_P (gD G) vC [(q, .inr (4, [.ref a1, .ref a2, .int (nI us), .int (nI pw)])), (a1, aB G 400 tx), (a2, aI G 5 nw)] H := hP
            have hD : va_D A [(q, .inr (4, [.ref a1, .ref a2, .int (nI us), .int (nI pw)])), (a1, aB G 400 tx), (a2, aI G 5 nw)] := hD
            refine lv_istore_n (lv' := [(2, .int (-1)), (0, .ref q), (1, .int (nI k))]) hx hb dT_readLine_11 rfl hl (by decide) rfl (fun ls hl => ?_)
            refine lv_iload_n hx hb dT_readLine_12 rfl (lv_at hl 0 rfl) ?_
            refine lv_iconst (v := (-1)) hx hb dT_readLine_13 (by decide) ?_
            refine lv_icmp_ne (tgt := 19) hx hb dT_readLine_14 rfl (fun h14 => (by revert h14; first | decide | exact fun z => absurd z (by decide) | exact fun z => z.elim (by decide))) (fun _ => ?_)
            refine lv_iconst (v := nI 0) hx hb dT_readLine_17 (by decide) ?_
            -- end 3
            rw [← hQ]
            exact k_iret hx hb hr hlocks rfl (u := (nw, pw)) (Or.inr ⟨_, _, by rw [he, show 5 - k = (5 - (k + 1)) + 1 by omega, lnF_n hc8_e]; rfl, hp, rfl, rfl⟩) hP hD hK hS dT_readLine_18
    have hl : lv_has ls 3 [(0, .ref q), (1, .int (nI 0))] := lv_sub hl [1, 0] rfl
    exact loop2 (5 - 0 + 1) 0 nm pl ([]) _ _ _ (by omega) (⟨by omega, rfl⟩) hpl (fun j hj => absurd hj (Nat.not_lt_zero j)) ((pre_nil _).symm) hP hD hS hl
  rw [hH, hlc] at hgo
  exact hgo
