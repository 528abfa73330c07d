theorem neg_all {x : Int32} (h0 : ¬ x < 0) (h1 : ¬ (-1 : Int32) < x) : False := by
  rw [Int32.lt_iff_toInt_lt] at h0 h1
  have e0 : (0 : Int32).toInt = 0 := by decide
  have e1 : (-1 : Int32).toInt = -1 := by decide
  omega
set_option maxRecDepth 100000 in
set_option maxHeartbeats 4000000 in
theorem k_C_type (l : Launch) (G : GG) (sz : Nat) (qc : Nat) (q : Nat) (qn : Nat) (qk : Nat) (qa : Nat) (qd : Nat) (a1 : Nat) (a2 : Nat) (tx : Nat → Nat) (nm : Nat → Nat) (us : Nat) (pl : Nat) (cl : Bool) (x : Int64) (hus : us ≤ 400) (htx : ∀ j, tx j < 128) : Ki l yC_type cC_type 3 .boolean 2 49 G [.ref qc, .long x] [(qc, .inr (5, [.ref q, .ref qn, .ref qk, .ref qa, .ref qd, .int (zB cl)])), (q, .inr (4, [.ref a1, .ref a2, .int (nI us), .int (nI pl)])), (a1, aB G 400 tx), (a2, aI G 5 nm)] sz (fun (r : Int32) (u : (Nat → Nat) × Nat) => ((okB x 8 ∧ us + cB x 8 ≤ 400) ∧ nI 1 = r ∧ (apB x tx us 8, us + cB x 8) = u) ∨ ((¬ (okB x 8 ∧ us + cB x 8 ≤ 400)) ∧ nI 0 = r ∧ (tx, us) = u)) (fun (u : (Nat → Nat) × Nat) => [(qc, .inr (5, [.ref q, .ref qn, .ref qk, .ref qa, .ref qd, .int (zB cl)])), (q, .inr (4, [.ref a1, .ref a2, .int (nI u.2), .int (nI pl)])), (a1, aB G 400 u.1), (a2, aI G 5 nm)]) := by
  refine Met.ofW (cc := cC_type) (maxL := 3) (ret := (some .boolean)) (by decide) rfl ?_
  intro p e s m args below meth c s₁ B hml hv
  obtain ⟨hav, hsz, hP, hK, hD0, hE⟩ := hv
  have hx := B.exec
  have hb := B.bytes
  have hr := B.returns
  have htb : ∀ w ∈ TB, w.before args s = true := fun w h => atoms_spec (ws := Cond.code yC_type cC_type 3 (some .boolean) :: TB) B.pre w (List.mem_cons_of_mem _ h)
  have hown : s.vm.findClass "CircuitProver" = some m.cls := findClass_of_methodNamed B.named
  have hlocks := B.notSynchronized
  subst hsz
  have hD := hD0.self (sz := s.heap.size)
  clear hD0
  generalize hRm : (headSpec (Cond.code yC_type cC_type 3 (some .boolean) :: TB) { frames := 2, cells := 0, slots := 0, locals := 49 }).room = R
  have hRf : R.frames = 2 := by rw [← hRm]; rfl
  have hRl : R.locals = 49 := by rw [← hRm]; rfl
  have hRc : R.cells = 0 := by rw [← hRm]; rfl
  have hRs : R.slots = 0 := by rw [← hRm]; rfl
  clear hRm
  generalize hAe : va_A [(qc, .inr (5, [.ref q, .ref qn, .ref qk, .ref qa, .ref qd, .int (zB cl)])), (q, .inr (4, [.ref a1, .ref a2, .int (nI us), .int (nI pl)])), (a1, aB G 400 tx), (a2, aI G 5 nm)] s.heap.size = A at hD hE ⊢
  have hA : ∀ q : Nat, s.heap.size ≤ q → A q := fun q h => by rw [← hAe]; exact Or.inr h
  clear hAe
  have hS : va_S A s.heap s.heap [] := va_S.rf
  have hl := lv_entry ([.ref qc, .long x]) (n := 3) (Nat.le_of_ble_eq_true rfl)
  have hent := lg_entry_eq m ([.ref qc, .long x]) 3
  rw [← hav] at hent
  rw [hent]
  clear hent hav
  generalize (lg_sl ([.ref qc, .long x]) ++ List.replicate (3 - (lg_sl ([.ref qc, .long x])).length) Slot.unset).toArray = ls at hl ⊢
  have hl : lv_has ls 3 [(0, .ref qc), (1, .long x)] := hl
  generalize hQ : MQ below _ args s 0 0 _ = Q
  have hP : va_P (gD G) vC [(qc, .inr (5, [.ref q, .ref qn, .ref qk, .ref qa, .ref qd, .int (zB cl)])), (q, .inr (4, [.ref a1, .ref a2, .int (nI us), .int (nI pl)])), (a1, aB G 400 tx), (a2, aI G 5 nm)] s.heap := hP
  obtain ⟨H, hH⟩ : ∃ H : Heap, H = s.heap := ⟨_, rfl⟩
  obtain ⟨locs, hlc⟩ : ∃ L : List Loc, L = [] := ⟨_, rfl⟩
  have hS : va_S A s.heap H locs := by rw [hH, hlc]; exact hS
  have hP : va_P (gD G) vC [(qc, .inr (5, [.ref q, .ref qn, .ref qk, .ref qa, .ref qd, .int (zB cl)])), (q, .inr (4, [.ref a1, .ref a2, .int (nI us), .int (nI pl)])), (a1, aB G 400 tx), (a2, aI G 5 nm)] H := by rw [hH]; exact hP
  have hgo : W p l e R s m args below meth c H locs 0 0 Q (F0 m 0 ls []) := by
    clear hH hlc
    refine lv_aload_n hx hb dC_type_0 rfl (lv_at hl 0 rfl) ?_
    refine va_get (D := gD G) (ci := 5) (v := .ref q) (C := "CircuitProver") (T := TC) (N := 6) hx hb htb inC hown hK hP 0 rfl rfl 0 (by decide) (htb _ b187) (fun _ h9 => h9) rfl dC_type_1 ?_
    refine lv_lload_n hx hb dC_type_4 rfl (lv_at hl 1 rfl) ?_
    refine k_i (ws2 := fun u => [(qc, .inr (5, [.ref q, .ref qn, .ref qk, .ref qa, .ref qd, .int (zB cl)])), (q, .inr (4, [.ref a1, .ref a2, .int (nI (u.2)), .int (nI pl)])), (a1, aB G 400 (u.1)), (a2, aI G 5 nm)]) (wr := [(qc, .inr (5, [.ref q, .ref qn, .ref qk, .ref qa, .ref qd, .int (zB cl)]))]) (k_runV (n := 1) (As := [.long x]) (rest := []) hx hb hml hown htb hP hD hK hS hA hE (k_T_append l G H.size q a1 a2 tx nm us pl x (show us ≤ 400 from by omega) (show ∀ j, tx j < 128 from by omega)) b210 b211 b212 b2 b213 (by decide +kernel) rfl rfl ⟨by rw [hRf]; exact Nat.le_of_ble_eq_true rfl, by rw [hRl]; exact Nat.le_of_ble_eq_true rfl⟩ [1, 2, 3] rfl (by decide) 1 rfl rfl rfl rfl hl.1 rfl (Nat.le_of_ble_eq_true rfl) dC_type_5 ⟨Nat.zero_le _, Nat.zero_le _⟩) hP hD hS hA [1, 2, 3] [0] [0, 1, 2, 3] rfl rfl (by decide) (by decide) (fun u => rfl) (by decide) (fun r u H locs hw hP hD hS => ?_)
    rcases hw with ⟨hc5_e, rfl, rfl⟩ | ⟨hc5_e, rfl, rfl⟩
    · skip
      have hP : va_P (gD G) vC [(qc, .inr (5, [.ref q, .ref qn, .ref qk, .ref qa, .ref qd, .int (zB cl)])), (q, .inr (4, [.ref a1, .ref a2, .int (nI (us + cB x 8)), .int (nI pl)])), (a1, aB G 400 (apB x tx us 8)), (a2, aI G 5 nm)] H := hP
      have hD : va_D A [(qc, .inr (5, [.ref q, .ref qn, .ref qk, .ref qa, .ref qd, .int (zB cl)])), (q, .inr (4, [.ref a1, .ref a2, .int (nI (us + cB x 8)), .int (nI pl)])), (a1, aB G 400 (apB x tx us 8)), (a2, aI G 5 nm)] := hD
      -- end 0
      rw [← hQ]
      exact k_iret hx hb hr hlocks (by decide) (u := ((apB x tx us 8), (us + cB x 8))) (Or.inl ⟨hc5_e, rfl, rfl⟩) hP hD hK hS dC_type_8
    · skip
      have hP : va_P (gD G) vC [(qc, .inr (5, [.ref q, .ref qn, .ref qk, .ref qa, .ref qd, .int (zB cl)])), (q, .inr (4, [.ref a1, .ref a2, .int (nI us), .int (nI pl)])), (a1, aB G 400 tx), (a2, aI G 5 nm)] H := hP
      have hD : va_D A [(qc, .inr (5, [.ref q, .ref qn, .ref qk, .ref qa, .ref qd, .int (zB cl)])), (q, .inr (4, [.ref a1, .ref a2, .int (nI us), .int (nI pl)])), (a1, aB G 400 tx), (a2, aI G 5 nm)] := hD
      -- end 1
      rw [← hQ]
      exact k_iret hx hb hr hlocks (by decide) (u := (tx, us)) (Or.inr ⟨hc5_e, rfl, rfl⟩) hP hD hK hS dC_type_8
  rw [hH, hlc] at hgo
  exact hgo
set_option maxRecDepth 100000 in
set_option maxHeartbeats 4000000 in
theorem k_C_wipe (l : Launch) (G : GG) (sz : Nat) (qc : Nat) (q : Nat) (qn : Nat) (qk : Nat) (qa : Nat) (qd : Nat) (a1 : Nat) (a2 : Nat) (tx : Nat → Nat) (nm : Nat → Nat) (us : Nat) (pl : Nat) (cl : Bool) : Kv l yC_wipe cC_wipe 1 1 20 0 0 G [.ref qc] [(qc, .inr (5, [.ref q, .ref qn, .ref qk, .ref qa, .ref qd, .int (zB cl)])), (q, .inr (4, [.ref a1, .ref a2, .int (nI us), .int (nI pl)])), (a1, aB G 400 tx), (a2, aI G 5 nm)] sz (fun (u : Nat) => (0 = u)) (fun (u : Nat) => [(qc, .inr (5, [.ref q, .ref qn, .ref qk, .ref qa, .ref qd, .int (zB cl)])), (q, .inr (4, [.ref a1, .ref a2, .int (nI u), .int (nI pl)])), (a1, aB G 400 tx), (a2, aI G 5 nm)]) := by
  refine Met.ofW (cc := cC_wipe) (maxL := 1) (ret := none) (by decide) rfl ?_
  intro p e s m args below meth c s₁ B hml hv
  obtain ⟨hav, hsz, hP, hK, hD0, hE⟩ := hv
  have hx := B.exec
  have hb := B.bytes
  have hr := B.returns
  have htb : ∀ w ∈ TB, w.before args s = true := fun w h => atoms_spec (ws := Cond.code yC_wipe cC_wipe 1 none :: TB) B.pre w (List.mem_cons_of_mem _ h)
  have hown : s.vm.findClass "CircuitProver" = some m.cls := findClass_of_methodNamed B.named
  have hlocks := B.notSynchronized
  subst hsz
  have hD := hD0.self (sz := s.heap.size)
  clear hD0
  generalize hRm : (headSpec (Cond.code yC_wipe cC_wipe 1 none :: TB) { frames := 1, cells := 0, slots := 0, locals := 20 }).room = R
  have hRf : R.frames = 1 := by rw [← hRm]; rfl
  have hRl : R.locals = 20 := by rw [← hRm]; rfl
  have hRc : R.cells = 0 := by rw [← hRm]; rfl
  have hRs : R.slots = 0 := by rw [← hRm]; rfl
  clear hRm
  generalize hAe : va_A [(qc, .inr (5, [.ref q, .ref qn, .ref qk, .ref qa, .ref qd, .int (zB cl)])), (q, .inr (4, [.ref a1, .ref a2, .int (nI us), .int (nI pl)])), (a1, aB G 400 tx), (a2, aI G 5 nm)] s.heap.size = A at hD hE ⊢
  have hA : ∀ q : Nat, s.heap.size ≤ q → A q := fun q h => by rw [← hAe]; exact Or.inr h
  clear hAe
  have hS : va_S A s.heap s.heap [] := va_S.rf
  have hl := lv_entry ([.ref qc]) (n := 1) (Nat.le_of_ble_eq_true rfl)
  have hent := lg_entry_eq m ([.ref qc]) 1
  rw [← hav] at hent
  rw [hent]
  clear hent hav
  generalize (lg_sl ([.ref qc]) ++ List.replicate (1 - (lg_sl ([.ref qc])).length) Slot.unset).toArray = ls at hl ⊢
  have hl : lv_has ls 1 [(0, .ref qc)] := hl
  generalize hQ : MQ below _ args s 0 0 _ = Q
  have hP : va_P (gD G) vC [(qc, .inr (5, [.ref q, .ref qn, .ref qk, .ref qa, .ref qd, .int (zB cl)])), (q, .inr (4, [.ref a1, .ref a2, .int (nI us), .int (nI pl)])), (a1, aB G 400 tx), (a2, aI G 5 nm)] s.heap := hP
  obtain ⟨H, hH⟩ : ∃ H : Heap, H = s.heap := ⟨_, rfl⟩
  obtain ⟨locs, hlc⟩ : ∃ L : List Loc, L = [] := ⟨_, rfl⟩
  have hS : va_S A s.heap H locs := by rw [hH, hlc]; exact hS
  have hP : va_P (gD G) vC [(qc, .inr (5, [.ref q, .ref qn, .ref qk, .ref qa, .ref qd, .int (zB cl)])), (q, .inr (4, [.ref a1, .ref a2, .int (nI us), .int (nI pl)])), (a1, aB G 400 tx), (a2, aI G 5 nm)] H := by rw [hH]; exact hP
  have hgo : W p l e R s m args below meth c H locs 0 0 Q (F0 m 0 ls []) := by
    clear hH hlc
    refine lv_aload_n hx hb dC_wipe_0 rfl (lv_at hl 0 rfl) ?_
    refine va_get (D := gD G) (ci := 5) (v := .ref q) (C := "CircuitProver") (T := TC) (N := 6) hx hb htb inC hown hK hP 0 rfl rfl 0 (by decide) (htb _ b187) (fun _ h9 => h9) rfl dC_wipe_1 ?_
    refine k_v (ws2 := fun u => [(qc, .inr (5, [.ref q, .ref qn, .ref qk, .ref qa, .ref qd, .int (zB cl)])), (q, .inr (4, [.ref a1, .ref a2, .int (nI (u)), .int (nI pl)])), (a1, aB G 400 tx), (a2, aI G 5 nm)]) (wr := [(qc, .inr (5, [.ref q, .ref qn, .ref qk, .ref qa, .ref qd, .int (zB cl)]))]) (k_runV (n := 0) (As := []) (rest := []) hx hb hml hown htb hP hD hK hS hA hE (k_T_clear l G H.size q a1 a2 tx nm us pl ) b221 b222 b223 b2 b224 (by decide +kernel) rfl rfl ⟨by rw [hRf]; exact Nat.le_of_ble_eq_true rfl, by rw [hRl]; exact Nat.le_of_ble_eq_true rfl⟩ [1, 2, 3] rfl (by decide) 1 rfl rfl rfl rfl hl.1 rfl (Nat.le_of_ble_eq_true rfl) dC_wipe_4 ⟨Nat.zero_le _, Nat.zero_le _⟩) hP hD hS hA [1, 2, 3] [0] [0, 1, 2, 3] rfl rfl (by decide) (by decide) (fun u => rfl) (by decide) (fun u H locs hw hP hD hS => ?_)
    obtain rfl := hw
    have hP : va_P (gD G) vC [(qc, .inr (5, [.ref q, .ref qn, .ref qk, .ref qa, .ref qd, .int (zB cl)])), (q, .inr (4, [.ref a1, .ref a2, .int (nI 0), .int (nI pl)])), (a1, aB G 400 tx), (a2, aI G 5 nm)] H := hP
    have hD : va_D A [(qc, .inr (5, [.ref q, .ref qn, .ref qk, .ref qa, .ref qd, .int (zB cl)])), (q, .inr (4, [.ref a1, .ref a2, .int (nI 0), .int (nI pl)])), (a1, aB G 400 tx), (a2, aI G 5 nm)] := hD
    -- end 0
    rw [← hQ]
    exact k_vret hx hb hr hlocks (u := 0) (rfl) hP hD hK hS dC_wipe_7
  rw [hH, hlc] at hgo
  exact hgo
set_option maxRecDepth 100000 in
set_option maxHeartbeats 4000000 in
theorem k_C_length (l : Launch) (G : GG) (sz : Nat) (qc : Nat) (q : Nat) (qn : Nat) (qk : Nat) (qa : Nat) (qd : Nat) (a1 : Nat) (a2 : Nat) (tx : Nat → Nat) (nm : Nat → Nat) (us : Nat) (pl : Nat) (cl : Bool) : Ki l yC_length cC_length 1 .int 0 0 G [.ref qc] [(qc, .inr (5, [.ref q, .ref qn, .ref qk, .ref qa, .ref qd, .int (zB cl)])), (q, .inr (4, [.ref a1, .ref a2, .int (nI us), .int (nI pl)])), (a1, aB G 400 tx), (a2, aI G 5 nm)] sz (fun (r : Int32) (u : Unit) => (nI us = r ∧ () = u)) (fun (u : Unit) => [(qc, .inr (5, [.ref q, .ref qn, .ref qk, .ref qa, .ref qd, .int (zB cl)])), (q, .inr (4, [.ref a1, .ref a2, .int (nI us), .int (nI pl)])), (a1, aB G 400 tx), (a2, aI G 5 nm)]) := by
  refine Met.ofW (cc := cC_length) (maxL := 1) (ret := (some .int)) (by decide) rfl ?_
  intro p e s m args below meth c s₁ B hml hv
  obtain ⟨hav, hsz, hP, hK, hD0, hE⟩ := hv
  have hx := B.exec
  have hb := B.bytes
  have hr := B.returns
  have htb : ∀ w ∈ TB, w.before args s = true := fun w h => atoms_spec (ws := Cond.code yC_length cC_length 1 (some .int) :: TB) B.pre w (List.mem_cons_of_mem _ h)
  have hown : s.vm.findClass "CircuitProver" = some m.cls := findClass_of_methodNamed B.named
  have hlocks := B.notSynchronized
  subst hsz
  have hD := hD0.self (sz := s.heap.size)
  clear hD0
  generalize hRm : (headSpec (Cond.code yC_length cC_length 1 (some .int) :: TB) { frames := 0, cells := 0, slots := 0, locals := 0 }).room = R
  have hRf : R.frames = 0 := by rw [← hRm]; rfl
  have hRl : R.locals = 0 := by rw [← hRm]; rfl
  have hRc : R.cells = 0 := by rw [← hRm]; rfl
  have hRs : R.slots = 0 := by rw [← hRm]; rfl
  clear hRm
  generalize hAe : va_A [(qc, .inr (5, [.ref q, .ref qn, .ref qk, .ref qa, .ref qd, .int (zB cl)])), (q, .inr (4, [.ref a1, .ref a2, .int (nI us), .int (nI pl)])), (a1, aB G 400 tx), (a2, aI G 5 nm)] s.heap.size = A at hD hE ⊢
  have hA : ∀ q : Nat, s.heap.size ≤ q → A q := fun q h => by rw [← hAe]; exact Or.inr h
  clear hAe
  have hS : va_S A s.heap s.heap [] := va_S.rf
  have hl := lv_entry ([.ref qc]) (n := 1) (Nat.le_of_ble_eq_true rfl)
  have hent := lg_entry_eq m ([.ref qc]) 1
  rw [← hav] at hent
  rw [hent]
  clear hent hav
  generalize (lg_sl ([.ref qc]) ++ List.replicate (1 - (lg_sl ([.ref qc])).length) Slot.unset).toArray = ls at hl ⊢
  have hl : lv_has ls 1 [(0, .ref qc)] := hl
  generalize hQ : MQ below _ args s 0 0 _ = Q
  have hP : va_P (gD G) vC [(qc, .inr (5, [.ref q, .ref qn, .ref qk, .ref qa, .ref qd, .int (zB cl)])), (q, .inr (4, [.ref a1, .ref a2, .int (nI us), .int (nI pl)])), (a1, aB G 400 tx), (a2, aI G 5 nm)] s.heap := hP
  obtain ⟨H, hH⟩ : ∃ H : Heap, H = s.heap := ⟨_, rfl⟩
  obtain ⟨locs, hlc⟩ : ∃ L : List Loc, L = [] := ⟨_, rfl⟩
  have hS : va_S A s.heap H locs := by rw [hH, hlc]; exact hS
  have hP : va_P (gD G) vC [(qc, .inr (5, [.ref q, .ref qn, .ref qk, .ref qa, .ref qd, .int (zB cl)])), (q, .inr (4, [.ref a1, .ref a2, .int (nI us), .int (nI pl)])), (a1, aB G 400 tx), (a2, aI G 5 nm)] H := by rw [hH]; exact hP
  have hgo : W p l e R s m args below meth c H locs 0 0 Q (F0 m 0 ls []) := by
    clear hH hlc
    refine lv_aload_n hx hb dC_length_0 rfl (lv_at hl 0 rfl) ?_
    refine va_get (D := gD G) (ci := 5) (v := .ref q) (C := "CircuitProver") (T := TC) (N := 6) hx hb htb inC hown hK hP 0 rfl rfl 0 (by decide) (htb _ b187) (fun _ h9 => h9) rfl dC_length_1 ?_
    refine va_getN (D := gD G) (ci := 4) (v := .int (nI us)) (C := "CircuitProver$Text") (T := TT) (N := 4) hx hb htb inT hown hK hP 1 rfl rfl 2 (by decide) (va_Nw.use rfl (hE.nw n36)) (fun _ h9 => h9) rfl dC_length_4 ?_
    -- end 0
    rw [← hQ]
    exact k_iret hx hb hr hlocks rfl (u := ()) (⟨rfl, rfl⟩) hP hD hK hS dC_length_7
  rw [hH, hlc] at hgo
  exact hgo
set_option maxRecDepth 100000 in
set_option maxHeartbeats 4000000 in
theorem k_C_requireCircuit_ok (l : Launch) (G : GG) (sz : Nat) (qc : Nat) (q : Nat) (qn : Nat) (qk : Nat) (qa : Nat) (qd : Nat) : Kv l yC_requireCircuit cC_requireCircuit 1 0 0 0 0 G [.ref qc] [(qc, .inr (5, [.ref q, .ref qn, .ref qk, .ref qa, .ref qd, .int (zB true)]))] sz (fun (u : Unit) => (() = u)) (fun (u : Unit) => [(qc, .inr (5, [.ref q, .ref qn, .ref qk, .ref qa, .ref qd, .int (zB true)]))]) := by
  refine Met.ofW (cc := cC_requireCircuit) (maxL := 1) (ret := none) (by decide) rfl ?_
  intro p e s m args below meth c s₁ B hml hv
  obtain ⟨hav, hsz, hP, hK, hD0, hE⟩ := hv
  have hx := B.exec
  have hb := B.bytes
  have hr := B.returns
  have htb : ∀ w ∈ TB, w.before args s = true := fun w h => atoms_spec (ws := Cond.code yC_requireCircuit cC_requireCircuit 1 none :: TB) B.pre w (List.mem_cons_of_mem _ h)
  have hown : s.vm.findClass "CircuitProver" = some m.cls := findClass_of_methodNamed B.named
  have hlocks := B.notSynchronized
  subst hsz
  have hD := hD0.self (sz := s.heap.size)
  clear hD0
  generalize hRm : (headSpec (Cond.code yC_requireCircuit cC_requireCircuit 1 none :: TB) { frames := 0, cells := 0, slots := 0, locals := 0 }).room = R
  have hRf : R.frames = 0 := by rw [← hRm]; rfl
  have hRl : R.locals = 0 := by rw [← hRm]; rfl
  have hRc : R.cells = 0 := by rw [← hRm]; rfl
  have hRs : R.slots = 0 := by rw [← hRm]; rfl
  clear hRm
  generalize hAe : va_A [(qc, .inr (5, [.ref q, .ref qn, .ref qk, .ref qa, .ref qd, .int (zB true)]))] s.heap.size = A at hD hE ⊢
  have hA : ∀ q : Nat, s.heap.size ≤ q → A q := fun q h => by rw [← hAe]; exact Or.inr h
  clear hAe
  have hS : va_S A s.heap s.heap [] := va_S.rf
  have hl := lv_entry ([.ref qc]) (n := 1) (Nat.le_of_ble_eq_true rfl)
  have hent := lg_entry_eq m ([.ref qc]) 1
  rw [← hav] at hent
  rw [hent]
  clear hent hav
  generalize (lg_sl ([.ref qc]) ++ List.replicate (1 - (lg_sl ([.ref qc])).length) Slot.unset).toArray = ls at hl ⊢
  have hl : lv_has ls 1 [(0, .ref qc)] := hl
  generalize hQ : MQ below _ args s 0 0 _ = Q
  have hP : va_P (gD G) vC [(qc, .inr (5, [.ref q, .ref qn, .ref qk, .ref qa, .ref qd, .int (zB true)]))] s.heap := hP
  obtain ⟨H, hH⟩ : ∃ H : Heap, H = s.heap := ⟨_, rfl⟩
  obtain ⟨locs, hlc⟩ : ∃ L : List Loc, L = [] := ⟨_, rfl⟩
  have hS : va_S A s.heap H locs := by rw [hH, hlc]; exact hS
  have hP : va_P (gD G) vC [(qc, .inr (5, [.ref q, .ref qn, .ref qk, .ref qa, .ref qd, .int (zB true)]))] H := by rw [hH]; exact hP
  have hgo : W p l e R s m args below meth c H locs 0 0 Q (F0 m 0 ls []) := by
    clear hH hlc
    refine lv_aload_n hx hb dC_requireCircuit_0 rfl (lv_at hl 0 rfl) ?_
    refine va_get (D := gD G) (ci := 5) (v := .int (zB true)) (C := "CircuitProver") (T := TC) (N := 6) hx hb htb inC hown hK hP 0 rfl rfl 5 (by decide) (htb _ b192) (fun _ h9 => h9) rfl dC_requireCircuit_1 ?_
    refine lv_if_ne (tgt := 17) hx hb dC_requireCircuit_4 rfl (fun _ => ?_) (fun h4 => (by revert h4; first | decide | exact fun z => absurd z (by decide) | exact fun z => z.elim (by decide)))
    -- end 0
    rw [← hQ]
    exact k_vret hx hb hr hlocks (u := ()) (rfl) hP hD hK hS dC_requireCircuit_17
  rw [hH, hlc] at hgo
  exact hgo
set_option maxRecDepth 100000 in
set_option maxHeartbeats 4000000 in
theorem k_C_requirePlace_ok (l : Launch) (G : GG) (sz : Nat) (qc : Nat) (q : Nat) (qn : Nat) (qk : Nat) (qa : Nat) (qd : Nat) (k1 : Nat) (k2 : Nat) (k3 : Nat) (k4 : Nat) (la : Nat) (ss : Nat) (ii : Nat) (ks : Nat) (kb : Int64) (sx : Nat) (i : Nat) (hz : ss ≤ 64) (hii : ii ≤ 8) (hsx : sx < ss) (hi : i < ii) : Kv l yC_requirePlace cC_requirePlace 3 1 21 0 0 G [.ref qc, .int (nI sx), .int (nI i)] [(qc, .inr (5, [.ref q, .ref qn, .ref qk, .ref qa, .ref qd, .int (zB true)])), (qk, .inr (2, [.ref k1, .int (nI la), .int (nI ss), .int (nI ii), .int (nI ks), .ref k2, .ref k3, .ref k4, .long kb]))] sz (fun (u : Unit) => (() = u)) (fun (u : Unit) => [(qc, .inr (5, [.ref q, .ref qn, .ref qk, .ref qa, .ref qd, .int (zB true)])), (qk, .inr (2, [.ref k1, .int (nI la), .int (nI ss), .int (nI ii), .int (nI ks), .ref k2, .ref k3, .ref k4, .long kb]))]) := by
  refine Met.ofW (cc := cC_requirePlace) (maxL := 3) (ret := none) (by decide) rfl ?_
  intro p e s m args below meth c s₁ B hml hv
  obtain ⟨hav, hsz, hP, hK, hD0, hE⟩ := hv
  have hx := B.exec
  have hb := B.bytes
  have hr := B.returns
  have htb : ∀ w ∈ TB, w.before args s = true := fun w h => atoms_spec (ws := Cond.code yC_requirePlace cC_requirePlace 3 none :: TB) B.pre w (List.mem_cons_of_mem _ h)
  have hown : s.vm.findClass "CircuitProver" = some m.cls := findClass_of_methodNamed B.named
  have hlocks := B.notSynchronized
  subst hsz
  have hD := hD0.self (sz := s.heap.size)
  clear hD0
  generalize hRm : (headSpec (Cond.code yC_requirePlace cC_requirePlace 3 none :: TB) { frames := 1, cells := 0, slots := 0, locals := 21 }).room = R
  have hRf : R.frames = 1 := by rw [← hRm]; rfl
  have hRl : R.locals = 21 := by rw [← hRm]; rfl
  have hRc : R.cells = 0 := by rw [← hRm]; rfl
  have hRs : R.slots = 0 := by rw [← hRm]; rfl
  clear hRm
  generalize hAe : va_A [(qc, .inr (5, [.ref q, .ref qn, .ref qk, .ref qa, .ref qd, .int (zB true)])), (qk, .inr (2, [.ref k1, .int (nI la), .int (nI ss), .int (nI ii), .int (nI ks), .ref k2, .ref k3, .ref k4, .long kb]))] s.heap.size = A at hD hE ⊢
  have hA : ∀ q : Nat, s.heap.size ≤ q → A q := fun q h => by rw [← hAe]; exact Or.inr h
  clear hAe
  have hS : va_S A s.heap s.heap [] := va_S.rf
  have hl := lv_entry ([.ref qc, .int (nI sx), .int (nI i)]) (n := 3) (Nat.le_of_ble_eq_true rfl)
  have hent := lg_entry_eq m ([.ref qc, .int (nI sx), .int (nI i)]) 3
  rw [← hav] at hent
  rw [hent]
  clear hent hav
  generalize (lg_sl ([.ref qc, .int (nI sx), .int (nI i)]) ++ List.replicate (3 - (lg_sl ([.ref qc, .int (nI sx), .int (nI i)])).length) Slot.unset).toArray = ls at hl ⊢
  have hl : lv_has ls 3 [(0, .ref qc), (1, .int (nI sx)), (2, .int (nI i))] := hl
  generalize hQ : MQ below _ args s 0 0 _ = Q
  have hP : va_P (gD G) vC [(qc, .inr (5, [.ref q, .ref qn, .ref qk, .ref qa, .ref qd, .int (zB true)])), (qk, .inr (2, [.ref k1, .int (nI la), .int (nI ss), .int (nI ii), .int (nI ks), .ref k2, .ref k3, .ref k4, .long kb]))] s.heap := hP
  obtain ⟨H, hH⟩ : ∃ H : Heap, H = s.heap := ⟨_, rfl⟩
  obtain ⟨locs, hlc⟩ : ∃ L : List Loc, L = [] := ⟨_, rfl⟩
  have hS : va_S A s.heap H locs := by rw [hH, hlc]; exact hS
  have hP : va_P (gD G) vC [(qc, .inr (5, [.ref q, .ref qn, .ref qk, .ref qa, .ref qd, .int (zB true)])), (qk, .inr (2, [.ref k1, .int (nI la), .int (nI ss), .int (nI ii), .int (nI ks), .ref k2, .ref k3, .ref k4, .long kb]))] H := by rw [hH]; exact hP
  have hgo : W p l e R s m args below meth c H locs 0 0 Q (F0 m 0 ls []) := by
    clear hH hlc
    refine lv_aload_n hx hb dC_requirePlace_0 rfl (lv_at hl 0 rfl) ?_
    refine va_get (D := gD G) (ci := 5) (v := .ref qk) (C := "CircuitProver") (T := TC) (N := 6) hx hb htb inC hown hK hP 0 rfl rfl 2 (by decide) (htb _ b189) (fun _ h9 => h9) rfl dC_requirePlace_1 ?_
    refine lv_iload_n hx hb dC_requirePlace_4 rfl (lv_at hl 1 rfl) ?_
    refine k_i (ws2 := fun u => [(qc, .inr (5, [.ref q, .ref qn, .ref qk, .ref qa, .ref qd, .int (zB true)])), (qk, .inr (2, [.ref k1, .int (nI la), .int (nI ss), .int (nI ii), .int (nI ks), .ref k2, .ref k3, .ref k4, .long kb]))]) (wr := [(qc, .inr (5, [.ref q, .ref qn, .ref qk, .ref qa, .ref qd, .int (zB true)]))]) (k_runV (n := 1) (As := [.int (nI sx)]) (rest := []) hx hb hml hown htb hP hD hK hS hA hE (k_K_isState l G H.size qk k1 k2 k3 k4 la ss ii ks kb (nI sx) (show ss ≤ 64 from by omega)) b539 b540 b541 b4 b542 (by decide +kernel) rfl rfl ⟨by rw [hRf]; exact Nat.le_of_ble_eq_true rfl, by rw [hRl]; exact Nat.le_of_ble_eq_true rfl⟩ [1] rfl (by decide) 1 rfl rfl rfl rfl hl.1 rfl (Nat.le_of_ble_eq_true rfl) dC_requirePlace_5 ⟨Nat.zero_le _, Nat.zero_le _⟩) hP hD hS hA [1] [0] [0, 1] rfl rfl (by decide) (by decide) (fun u => rfl) (by decide) (fun r u H locs hw hP hD hS => ?_)
    rcases hw with ⟨j5, hc5_e, rfl, rfl⟩ | ⟨hc5_e, rfl, rfl⟩
    · skip
      have hP : va_P (gD G) vC [(qc, .inr (5, [.ref q, .ref qn, .ref qk, .ref qa, .ref qd, .int (zB true)])), (qk, .inr (2, [.ref k1, .int (nI la), .int (nI ss), .int (nI ii), .int (nI ks), .ref k2, .ref k3, .ref k4, .long kb]))] H := hP
      have hD : va_D A [(qc, .inr (5, [.ref q, .ref qn, .ref qk, .ref qa, .ref qd, .int (zB true)])), (qk, .inr (2, [.ref k1, .int (nI la), .int (nI ss), .int (nI ii), .int (nI ks), .ref k2, .ref k3, .ref k4, .long kb]))] := hD
      refine lv_if_eq (tgt := 22) hx hb dC_requirePlace_8 rfl (fun h8 => (by revert h8; first | decide | exact fun z => absurd z (by decide) | exact fun z => z.elim (by decide))) (fun _ => ?_)
      refine lv_aload_n hx hb dC_requirePlace_11 rfl (lv_at hl 0 rfl) ?_
      refine va_get (D := gD G) (ci := 5) (v := .ref qk) (C := "CircuitProver") (T := TC) (N := 6) hx hb htb inC hown hK hP 0 rfl rfl 2 (by decide) (htb _ b189) (fun _ h9 => h9) rfl dC_requirePlace_12 ?_
      refine lv_iload_n hx hb dC_requirePlace_15 rfl (lv_at hl 2 rfl) ?_
      refine k_i (ws2 := fun u => [(qc, .inr (5, [.ref q, .ref qn, .ref qk, .ref qa, .ref qd, .int (zB true)])), (qk, .inr (2, [.ref k1, .int (nI la), .int (nI ss), .int (nI ii), .int (nI ks), .ref k2, .ref k3, .ref k4, .long kb]))]) (wr := [(qc, .inr (5, [.ref q, .ref qn, .ref qk, .ref qa, .ref qd, .int (zB true)]))]) (k_runV (n := 1) (As := [.int (nI i)]) (rest := []) hx hb hml hown htb hP hD hK hS hA hE (k_K_isInput l G H.size qk k1 k2 k3 k4 la ss ii ks kb (nI i) (show ii ≤ 64 from by omega)) b543 b544 b545 b4 b546 (by decide +kernel) rfl rfl ⟨by rw [hRf]; exact Nat.le_of_ble_eq_true rfl, by rw [hRl]; exact Nat.le_of_ble_eq_true rfl⟩ [1] rfl (by decide) 1 rfl rfl rfl rfl hl.1 rfl (Nat.le_of_ble_eq_true rfl) dC_requirePlace_16 ⟨Nat.zero_le _, Nat.zero_le _⟩) hP hD hS hA [1] [0] [0, 1] rfl rfl (by decide) (by decide) (fun u => rfl) (by decide) (fun r u H locs hw hP hD hS => ?_)
      rcases hw with ⟨j16, hc16_e, rfl, rfl⟩ | ⟨hc16_e, rfl, rfl⟩
      · skip
        have hP : va_P (gD G) vC [(qc, .inr (5, [.ref q, .ref qn, .ref qk, .ref qa, .ref qd, .int (zB true)])), (qk, .inr (2, [.ref k1, .int (nI la), .int (nI ss), .int (nI ii), .int (nI ks), .ref k2, .ref k3, .ref k4, .long kb]))] H := hP
        have hD : va_D A [(qc, .inr (5, [.ref q, .ref qn, .ref qk, .ref qa, .ref qd, .int (zB true)])), (qk, .inr (2, [.ref k1, .int (nI la), .int (nI ss), .int (nI ii), .int (nI ks), .ref k2, .ref k3, .ref k4, .long kb]))] := hD
        refine lv_if_ne (tgt := 32) hx hb dC_requirePlace_19 rfl (fun _ => ?_) (fun h19 => (by revert h19; first | decide | exact fun z => absurd z (by decide) | exact fun z => z.elim (by decide)))
        -- end 0
        rw [← hQ]
        exact k_vret hx hb hr hlocks (u := ()) (rfl) hP hD hK hS dC_requirePlace_32
      · skip
        exact absurd rfl (hc16_e i hi)
    · skip
      exact absurd rfl (hc5_e sx hsx)
  rw [hH, hlc] at hgo
  exact hgo
set_option maxRecDepth 100000 in
set_option maxHeartbeats 4000000 in
theorem k_C_go_ok (l : Launch) (G : GG) (sz : Nat) (qc : Nat) (q : Nat) (qn : Nat) (qk : Nat) (qa : Nat) (qd : Nat) (k1 : Nat) (k2 : Nat) (k3 : Nat) (k4 : Nat) (la : Nat) (ss : Nat) (ii : Nat) (ks : Nat) (kb : Int64) (kn : Nat → Int64) (sx : Nat) (i : Nat) (hz : ss ≤ 64) (hii : ii ≤ 8) (hsx : sx < ss) (hi : i < ii) (hla : la ≤ 6) : Ki l yC_go cC_go 3 .int 2 46 G [.ref qc, .int (nI sx), .int (nI i)] [(qc, .inr (5, [.ref q, .ref qn, .ref qk, .ref qa, .ref qd, .int (zB true)])), (qk, .inr (2, [.ref k1, .int (nI la), .int (nI ss), .int (nI ii), .int (nI ks), .ref k2, .ref k3, .ref k4, .long kb])), (k2, aJ G 48 kn)] sz (fun (r : Int32) (u : Unit) => (nI (nxC kn la sx i) = r ∧ () = u)) (fun (u : Unit) => [(qc, .inr (5, [.ref q, .ref qn, .ref qk, .ref qa, .ref qd, .int (zB true)])), (qk, .inr (2, [.ref k1, .int (nI la), .int (nI ss), .int (nI ii), .int (nI ks), .ref k2, .ref k3, .ref k4, .long kb])), (k2, aJ G 48 kn)]) := by
  refine Met.ofW (cc := cC_go) (maxL := 3) (ret := (some .int)) (by decide) rfl ?_
  intro p e s m args below meth c s₁ B hml hv
  obtain ⟨hav, hsz, hP, hK, hD0, hE⟩ := hv
  have hx := B.exec
  have hb := B.bytes
  have hr := B.returns
  have htb : ∀ w ∈ TB, w.before args s = true := fun w h => atoms_spec (ws := Cond.code yC_go cC_go 3 (some .int) :: TB) B.pre w (List.mem_cons_of_mem _ h)
  have hown : s.vm.findClass "CircuitProver" = some m.cls := findClass_of_methodNamed B.named
  have hlocks := B.notSynchronized
  subst hsz
  have hD := hD0.self (sz := s.heap.size)
  clear hD0
  generalize hRm : (headSpec (Cond.code yC_go cC_go 3 (some .int) :: TB) { frames := 2, cells := 0, slots := 0, locals := 46 }).room = R
  have hRf : R.frames = 2 := by rw [← hRm]; rfl
  have hRl : R.locals = 46 := by rw [← hRm]; rfl
  have hRc : R.cells = 0 := by rw [← hRm]; rfl
  have hRs : R.slots = 0 := by rw [← hRm]; rfl
  clear hRm
  generalize hAe : va_A [(qc, .inr (5, [.ref q, .ref qn, .ref qk, .ref qa, .ref qd, .int (zB true)])), (qk, .inr (2, [.ref k1, .int (nI la), .int (nI ss), .int (nI ii), .int (nI ks), .ref k2, .ref k3, .ref k4, .long kb])), (k2, aJ G 48 kn)] s.heap.size = A at hD hE ⊢
  have hA : ∀ q : Nat, s.heap.size ≤ q → A q := fun q h => by rw [← hAe]; exact Or.inr h
  clear hAe
  have hS : va_S A s.heap s.heap [] := va_S.rf
  have hl := lv_entry ([.ref qc, .int (nI sx), .int (nI i)]) (n := 3) (Nat.le_of_ble_eq_true rfl)
  have hent := lg_entry_eq m ([.ref qc, .int (nI sx), .int (nI i)]) 3
  rw [← hav] at hent
  rw [hent]
  clear hent hav
  generalize (lg_sl ([.ref qc, .int (nI sx), .int (nI i)]) ++ List.replicate (3 - (lg_sl ([.ref qc, .int (nI sx), .int (nI i)])).length) Slot.unset).toArray = ls at hl ⊢
  have hl : lv_has ls 3 [(0, .ref qc), (1, .int (nI sx)), (2, .int (nI i))] := hl
  generalize hQ : MQ below _ args s 0 0 _ = Q
  have hP : va_P (gD G) vC [(qc, .inr (5, [.ref q, .ref qn, .ref qk, .ref qa, .ref qd, .int (zB true)])), (qk, .inr (2, [.ref k1, .int (nI la), .int (nI ss), .int (nI ii), .int (nI ks), .ref k2, .ref k3, .ref k4, .long kb])), (k2, aJ G 48 kn)] s.heap := hP
  obtain ⟨H, hH⟩ : ∃ H : Heap, H = s.heap := ⟨_, rfl⟩
  obtain ⟨locs, hlc⟩ : ∃ L : List Loc, L = [] := ⟨_, rfl⟩
  have hS : va_S A s.heap H locs := by rw [hH, hlc]; exact hS
  have hP : va_P (gD G) vC [(qc, .inr (5, [.ref q, .ref qn, .ref qk, .ref qa, .ref qd, .int (zB true)])), (qk, .inr (2, [.ref k1, .int (nI la), .int (nI ss), .int (nI ii), .int (nI ks), .ref k2, .ref k3, .ref k4, .long kb])), (k2, aJ G 48 kn)] H := by rw [hH]; exact hP
  have hgo : W p l e R s m args below meth c H locs 0 0 Q (F0 m 0 ls []) := by
    clear hH hlc
    refine lv_aload_n hx hb dC_go_0 rfl (lv_at hl 0 rfl) ?_
    refine k_v (ws2 := fun u => [(qc, .inr (5, [.ref q, .ref qn, .ref qk, .ref qa, .ref qd, .int (zB true)])), (qk, .inr (2, [.ref k1, .int (nI la), .int (nI ss), .int (nI ii), .int (nI ks), .ref k2, .ref k3, .ref k4, .long kb])), (k2, aJ G 48 kn)]) (wr := [(qk, .inr (2, [.ref k1, .int (nI la), .int (nI ss), .int (nI ii), .int (nI ks), .ref k2, .ref k3, .ref k4, .long kb])), (k2, aJ G 48 kn)]) (k_runV (n := 0) (As := []) (rest := []) hx hb hml hown htb hP hD hK hS hA hE (k_C_requireCircuit_ok l G H.size qc q qn qk qa qd ) b507 b509 s23 b1 b510 (by decide +kernel) rfl rfl ⟨by rw [hRf]; exact Nat.le_of_ble_eq_true rfl, by rw [hRl]; exact Nat.le_of_ble_eq_true rfl⟩ [0] rfl (by decide) 0 rfl rfl rfl rfl hl.1 rfl (Nat.le_of_ble_eq_true rfl) dC_go_1 ⟨Nat.zero_le _, Nat.zero_le _⟩) hP hD hS hA [0] [1, 2] [2, 0, 1] rfl rfl (by decide) (by decide) (fun u => rfl) (by decide) (fun u H locs hw hP hD hS => ?_)
    obtain rfl := hw
    have hP : va_P (gD G) vC [(qc, .inr (5, [.ref q, .ref qn, .ref qk, .ref qa, .ref qd, .int (zB true)])), (qk, .inr (2, [.ref k1, .int (nI la), .int (nI ss), .int (nI ii), .int (nI ks), .ref k2, .ref k3, .ref k4, .long kb])), (k2, aJ G 48 kn)] H := hP
    have hD : va_D A [(qc, .inr (5, [.ref q, .ref qn, .ref qk, .ref qa, .ref qd, .int (zB true)])), (qk, .inr (2, [.ref k1, .int (nI la), .int (nI ss), .int (nI ii), .int (nI ks), .ref k2, .ref k3, .ref k4, .long kb])), (k2, aJ G 48 kn)] := hD
    refine lv_aload_n hx hb dC_go_4 rfl (lv_at hl 0 rfl) ?_
    refine lv_iload_n hx hb dC_go_5 rfl (lv_at hl 1 rfl) ?_
    refine lv_iload_n hx hb dC_go_6 rfl (lv_at hl 2 rfl) ?_
    refine k_v (ws2 := fun u => [(qc, .inr (5, [.ref q, .ref qn, .ref qk, .ref qa, .ref qd, .int (zB true)])), (qk, .inr (2, [.ref k1, .int (nI la), .int (nI ss), .int (nI ii), .int (nI ks), .ref k2, .ref k3, .ref k4, .long kb])), (k2, aJ G 48 kn)]) (wr := [(k2, aJ G 48 kn)]) (k_runV (n := 2) (As := [.int (nI sx), .int (nI i)]) (rest := []) hx hb hml hown htb hP hD hK hS hA hE (k_C_requirePlace_ok l G H.size qc q qn qk qa qd k1 k2 k3 k4 la ss ii ks kb sx i (show ss ≤ 64 from by omega) (show ii ≤ 8 from by omega) (show sx < ss from by omega) (show i < ii from by omega)) b535 b537 s24 b1 b538 (by decide +kernel) rfl rfl ⟨by rw [hRf]; exact Nat.le_of_ble_eq_true rfl, by rw [hRl]; exact Nat.le_of_ble_eq_true rfl⟩ [0, 1] rfl (by decide) 0 rfl rfl rfl rfl hl.1 rfl (Nat.le_of_ble_eq_true rfl) dC_go_7 ⟨Nat.zero_le _, Nat.zero_le _⟩) hP hD hS hA [0, 1] [2] [1, 2, 0] rfl rfl (by decide) (by decide) (fun u => rfl) (by decide) (fun u H locs hw hP hD hS => ?_)
    obtain rfl := hw
    have hP : va_P (gD G) vC [(qc, .inr (5, [.ref q, .ref qn, .ref qk, .ref qa, .ref qd, .int (zB true)])), (qk, .inr (2, [.ref k1, .int (nI la), .int (nI ss), .int (nI ii), .int (nI ks), .ref k2, .ref k3, .ref k4, .long kb])), (k2, aJ G 48 kn)] H := hP
    have hD : va_D A [(qc, .inr (5, [.ref q, .ref qn, .ref qk, .ref qa, .ref qd, .int (zB true)])), (qk, .inr (2, [.ref k1, .int (nI la), .int (nI ss), .int (nI ii), .int (nI ks), .ref k2, .ref k3, .ref k4, .long kb])), (k2, aJ G 48 kn)] := hD
    refine lv_aload_n hx hb dC_go_10 rfl (lv_at hl 0 rfl) ?_
    refine va_get (D := gD G) (ci := 5) (v := .ref qk) (C := "CircuitProver") (T := TC) (N := 6) hx hb htb inC hown hK hP 0 rfl rfl 2 (by decide) (htb _ b189) (fun _ h9 => h9) rfl dC_go_11 ?_
    refine lv_iload_n hx hb dC_go_14 rfl (lv_at hl 1 rfl) ?_
    refine lv_iload_n hx hb dC_go_15 rfl (lv_at hl 2 rfl) ?_
    refine k_i (ws2 := fun u => [(qc, .inr (5, [.ref q, .ref qn, .ref qk, .ref qa, .ref qd, .int (zB true)])), (qk, .inr (2, [.ref k1, .int (nI la), .int (nI ss), .int (nI ii), .int (nI ks), .ref k2, .ref k3, .ref k4, .long kb])), (k2, aJ G 48 kn)]) (wr := [(qc, .inr (5, [.ref q, .ref qn, .ref qk, .ref qa, .ref qd, .int (zB true)]))]) (k_runV (n := 2) (As := [.int (nI sx), .int (nI i)]) (rest := []) hx hb hml hown htb hP hD hK hS hA hE (k_K_next l G H.size qk k1 k2 k3 k4 la ss ii ks kb kn sx i (show la ≤ 6 from by omega) (show i < 8 from by omega) (show sx < 64 from by omega)) b563 b431 b432 b4 b433 (by decide +kernel) rfl rfl ⟨by rw [hRf]; exact Nat.le_of_ble_eq_true rfl, by rw [hRl]; exact Nat.le_of_ble_eq_true rfl⟩ [1, 2] rfl (by decide) 1 rfl rfl rfl rfl hl.1 rfl (Nat.le_of_ble_eq_true rfl) dC_go_16 ⟨Nat.zero_le _, Nat.zero_le _⟩) hP hD hS hA [1, 2] [0] [0, 1, 2] rfl rfl (by decide) (by decide) (fun u => rfl) (by decide) (fun r u H locs hw hP hD hS => ?_)
    obtain ⟨rfl, rfl⟩ := hw
    have hP : va_P (gD G) vC [(qc, .inr (5, [.ref q, .ref qn, .ref qk, .ref qa, .ref qd, .int (zB true)])), (qk, .inr (2, [.ref k1, .int (nI la), .int (nI ss), .int (nI ii), .int (nI ks), .ref k2, .ref k3, .ref k4, .long kb])), (k2, aJ G 48 kn)] H := hP
    have hD : va_D A [(qc, .inr (5, [.ref q, .ref qn, .ref qk, .ref qa, .ref qd, .int (zB true)])), (qk, .inr (2, [.ref k1, .int (nI la), .int (nI ss), .int (nI ii), .int (nI ks), .ref k2, .ref k3, .ref k4, .long kb])), (k2, aJ G 48 kn)] := hD
    -- end 0
    rw [← hQ]
    exact k_iret hx hb hr hlocks rfl (u := ()) (⟨rfl, rfl⟩) hP hD hK hS dC_go_19
  rw [hH, hlc] at hgo
  exact hgo
set_option maxRecDepth 100000 in
set_option maxHeartbeats 4000000 in
theorem k_C_output_ok (l : Launch) (G : GG) (sz : Nat) (qc : Nat) (q : Nat) (qn : Nat) (qk : Nat) (qa : Nat) (qd : Nat) (k1 : Nat) (k2 : Nat) (k3 : Nat) (k4 : Nat) (la : Nat) (ss : Nat) (ii : Nat) (ks : Nat) (kb : Int64) (ko : Nat → Int64) (sx : Nat) (i : Nat) (hz : ss ≤ 64) (hii : ii ≤ 8) (hsx : sx < ss) (hi : i < ii) : Ki l yC_output cC_output 3 .boolean 2 44 G [.ref qc, .int (nI sx), .int (nI i)] [(qc, .inr (5, [.ref q, .ref qn, .ref qk, .ref qa, .ref qd, .int (zB true)])), (qk, .inr (2, [.ref k1, .int (nI la), .int (nI ss), .int (nI ii), .int (nI ks), .ref k2, .ref k3, .ref k4, .long kb])), (k3, aJ G 8 ko)] sz (fun (r : Int32) (u : Unit) => (lb (ko i) sx = true ∧ nI 1 = r ∧ () = u) ∨ (lb (ko i) sx = false ∧ nI 0 = r ∧ () = u)) (fun (u : Unit) => [(qc, .inr (5, [.ref q, .ref qn, .ref qk, .ref qa, .ref qd, .int (zB true)])), (qk, .inr (2, [.ref k1, .int (nI la), .int (nI ss), .int (nI ii), .int (nI ks), .ref k2, .ref k3, .ref k4, .long kb])), (k3, aJ G 8 ko)]) := by
  refine Met.ofW (cc := cC_output) (maxL := 3) (ret := (some .boolean)) (by decide) rfl ?_
  intro p e s m args below meth c s₁ B hml hv
  obtain ⟨hav, hsz, hP, hK, hD0, hE⟩ := hv
  have hx := B.exec
  have hb := B.bytes
  have hr := B.returns
  have htb : ∀ w ∈ TB, w.before args s = true := fun w h => atoms_spec (ws := Cond.code yC_output cC_output 3 (some .boolean) :: TB) B.pre w (List.mem_cons_of_mem _ h)
  have hown : s.vm.findClass "CircuitProver" = some m.cls := findClass_of_methodNamed B.named
  have hlocks := B.notSynchronized
  subst hsz
  have hD := hD0.self (sz := s.heap.size)
  clear hD0
  generalize hRm : (headSpec (Cond.code yC_output cC_output 3 (some .boolean) :: TB) { frames := 2, cells := 0, slots := 0, locals := 44 }).room = R
  have hRf : R.frames = 2 := by rw [← hRm]; rfl
  have hRl : R.locals = 44 := by rw [← hRm]; rfl
  have hRc : R.cells = 0 := by rw [← hRm]; rfl
  have hRs : R.slots = 0 := by rw [← hRm]; rfl
  clear hRm
  generalize hAe : va_A [(qc, .inr (5, [.ref q, .ref qn, .ref qk, .ref qa, .ref qd, .int (zB true)])), (qk, .inr (2, [.ref k1, .int (nI la), .int (nI ss), .int (nI ii), .int (nI ks), .ref k2, .ref k3, .ref k4, .long kb])), (k3, aJ G 8 ko)] s.heap.size = A at hD hE ⊢
  have hA : ∀ q : Nat, s.heap.size ≤ q → A q := fun q h => by rw [← hAe]; exact Or.inr h
  clear hAe
  have hS : va_S A s.heap s.heap [] := va_S.rf
  have hl := lv_entry ([.ref qc, .int (nI sx), .int (nI i)]) (n := 3) (Nat.le_of_ble_eq_true rfl)
  have hent := lg_entry_eq m ([.ref qc, .int (nI sx), .int (nI i)]) 3
  rw [← hav] at hent
  rw [hent]
  clear hent hav
  generalize (lg_sl ([.ref qc, .int (nI sx), .int (nI i)]) ++ List.replicate (3 - (lg_sl ([.ref qc, .int (nI sx), .int (nI i)])).length) Slot.unset).toArray = ls at hl ⊢
  have hl : lv_has ls 3 [(0, .ref qc), (1, .int (nI sx)), (2, .int (nI i))] := hl
  generalize hQ : MQ below _ args s 0 0 _ = Q
  have hP : va_P (gD G) vC [(qc, .inr (5, [.ref q, .ref qn, .ref qk, .ref qa, .ref qd, .int (zB true)])), (qk, .inr (2, [.ref k1, .int (nI la), .int (nI ss), .int (nI ii), .int (nI ks), .ref k2, .ref k3, .ref k4, .long kb])), (k3, aJ G 8 ko)] s.heap := hP
  obtain ⟨H, hH⟩ : ∃ H : Heap, H = s.heap := ⟨_, rfl⟩
  obtain ⟨locs, hlc⟩ : ∃ L : List Loc, L = [] := ⟨_, rfl⟩
  have hS : va_S A s.heap H locs := by rw [hH, hlc]; exact hS
  have hP : va_P (gD G) vC [(qc, .inr (5, [.ref q, .ref qn, .ref qk, .ref qa, .ref qd, .int (zB true)])), (qk, .inr (2, [.ref k1, .int (nI la), .int (nI ss), .int (nI ii), .int (nI ks), .ref k2, .ref k3, .ref k4, .long kb])), (k3, aJ G 8 ko)] H := by rw [hH]; exact hP
  have hgo : W p l e R s m args below meth c H locs 0 0 Q (F0 m 0 ls []) := by
    clear hH hlc
    refine lv_aload_n hx hb dC_output_0 rfl (lv_at hl 0 rfl) ?_
    refine k_v (ws2 := fun u => [(qc, .inr (5, [.ref q, .ref qn, .ref qk, .ref qa, .ref qd, .int (zB true)])), (qk, .inr (2, [.ref k1, .int (nI la), .int (nI ss), .int (nI ii), .int (nI ks), .ref k2, .ref k3, .ref k4, .long kb])), (k3, aJ G 8 ko)]) (wr := [(qk, .inr (2, [.ref k1, .int (nI la), .int (nI ss), .int (nI ii), .int (nI ks), .ref k2, .ref k3, .ref k4, .long kb])), (k3, aJ G 8 ko)]) (k_runV (n := 0) (As := []) (rest := []) hx hb hml hown htb hP hD hK hS hA hE (k_C_requireCircuit_ok l G H.size qc q qn qk qa qd ) b507 b509 s23 b1 b510 (by decide +kernel) rfl rfl ⟨by rw [hRf]; exact Nat.le_of_ble_eq_true rfl, by rw [hRl]; exact Nat.le_of_ble_eq_true rfl⟩ [0] rfl (by decide) 0 rfl rfl rfl rfl hl.1 rfl (Nat.le_of_ble_eq_true rfl) dC_output_1 ⟨Nat.zero_le _, Nat.zero_le _⟩) hP hD hS hA [0] [1, 2] [2, 0, 1] rfl rfl (by decide) (by decide) (fun u => rfl) (by decide) (fun u H locs hw hP hD hS => ?_)
    obtain rfl := hw
    have hP : va_P (gD G) vC [(qc, .inr (5, [.ref q, .ref qn, .ref qk, .ref qa, .ref qd, .int (zB true)])), (qk, .inr (2, [.ref k1, .int (nI la), .int (nI ss), .int (nI ii), .int (nI ks), .ref k2, .ref k3, .ref k4, .long kb])), (k3, aJ G 8 ko)] H := hP
    have hD : va_D A [(qc, .inr (5, [.ref q, .ref qn, .ref qk, .ref qa, .ref qd, .int (zB true)])), (qk, .inr (2, [.ref k1, .int (nI la), .int (nI ss), .int (nI ii), .int (nI ks), .ref k2, .ref k3, .ref k4, .long kb])), (k3, aJ G 8 ko)] := hD
    refine lv_aload_n hx hb dC_output_4 rfl (lv_at hl 0 rfl) ?_
    refine lv_iload_n hx hb dC_output_5 rfl (lv_at hl 1 rfl) ?_
    refine lv_iload_n hx hb dC_output_6 rfl (lv_at hl 2 rfl) ?_
    refine k_v (ws2 := fun u => [(qc, .inr (5, [.ref q, .ref qn, .ref qk, .ref qa, .ref qd, .int (zB true)])), (qk, .inr (2, [.ref k1, .int (nI la), .int (nI ss), .int (nI ii), .int (nI ks), .ref k2, .ref k3, .ref k4, .long kb])), (k3, aJ G 8 ko)]) (wr := [(k3, aJ G 8 ko)]) (k_runV (n := 2) (As := [.int (nI sx), .int (nI i)]) (rest := []) hx hb hml hown htb hP hD hK hS hA hE (k_C_requirePlace_ok l G H.size qc q qn qk qa qd k1 k2 k3 k4 la ss ii ks kb sx i (show ss ≤ 64 from by omega) (show ii ≤ 8 from by omega) (show sx < ss from by omega) (show i < ii from by omega)) b535 b537 s24 b1 b538 (by decide +kernel) rfl rfl ⟨by rw [hRf]; exact Nat.le_of_ble_eq_true rfl, by rw [hRl]; exact Nat.le_of_ble_eq_true rfl⟩ [0, 1] rfl (by decide) 0 rfl rfl rfl rfl hl.1 rfl (Nat.le_of_ble_eq_true rfl) dC_output_7 ⟨Nat.zero_le _, Nat.zero_le _⟩) hP hD hS hA [0, 1] [2] [1, 2, 0] rfl rfl (by decide) (by decide) (fun u => rfl) (by decide) (fun u H locs hw hP hD hS => ?_)
    obtain rfl := hw
    have hP : va_P (gD G) vC [(qc, .inr (5, [.ref q, .ref qn, .ref qk, .ref qa, .ref qd, .int (zB true)])), (qk, .inr (2, [.ref k1, .int (nI la), .int (nI ss), .int (nI ii), .int (nI ks), .ref k2, .ref k3, .ref k4, .long kb])), (k3, aJ G 8 ko)] H := hP
    have hD : va_D A [(qc, .inr (5, [.ref q, .ref qn, .ref qk, .ref qa, .ref qd, .int (zB true)])), (qk, .inr (2, [.ref k1, .int (nI la), .int (nI ss), .int (nI ii), .int (nI ks), .ref k2, .ref k3, .ref k4, .long kb])), (k3, aJ G 8 ko)] := hD
    refine lv_aload_n hx hb dC_output_10 rfl (lv_at hl 0 rfl) ?_
    refine va_get (D := gD G) (ci := 5) (v := .ref qk) (C := "CircuitProver") (T := TC) (N := 6) hx hb htb inC hown hK hP 0 rfl rfl 2 (by decide) (htb _ b189) (fun _ h9 => h9) rfl dC_output_11 ?_
    refine lv_iload_n hx hb dC_output_14 rfl (lv_at hl 1 rfl) ?_
    refine lv_iload_n hx hb dC_output_15 rfl (lv_at hl 2 rfl) ?_
    refine k_i (ws2 := fun u => [(qc, .inr (5, [.ref q, .ref qn, .ref qk, .ref qa, .ref qd, .int (zB true)])), (qk, .inr (2, [.ref k1, .int (nI la), .int (nI ss), .int (nI ii), .int (nI ks), .ref k2, .ref k3, .ref k4, .long kb])), (k3, aJ G 8 ko)]) (wr := [(qc, .inr (5, [.ref q, .ref qn, .ref qk, .ref qa, .ref qd, .int (zB true)]))]) (k_runV (n := 2) (As := [.int (nI sx), .int (nI i)]) (rest := []) hx hb hml hown htb hP hD hK hS hA hE (k_K_hasOutput l G H.size qk k1 k2 k3 k4 la ss ii ks kb ko sx i (show i < 8 from by omega) (show sx < 64 from by omega)) b571 b496 b497 b4 b498 (by decide +kernel) rfl rfl ⟨by rw [hRf]; exact Nat.le_of_ble_eq_true rfl, by rw [hRl]; exact Nat.le_of_ble_eq_true rfl⟩ [1, 2] rfl (by decide) 1 rfl rfl rfl rfl hl.1 rfl (Nat.le_of_ble_eq_true rfl) dC_output_16 ⟨Nat.zero_le _, Nat.zero_le _⟩) hP hD hS hA [1, 2] [0] [0, 1, 2] rfl rfl (by decide) (by decide) (fun u => rfl) (by decide) (fun r u H locs hw hP hD hS => ?_)
    rcases hw with ⟨hc16_e, rfl, rfl⟩ | ⟨hc16_e, rfl, rfl⟩
    · skip
      have hP : va_P (gD G) vC [(qc, .inr (5, [.ref q, .ref qn, .ref qk, .ref qa, .ref qd, .int (zB true)])), (qk, .inr (2, [.ref k1, .int (nI la), .int (nI ss), .int (nI ii), .int (nI ks), .ref k2, .ref k3, .ref k4, .long kb])), (k3, aJ G 8 ko)] H := hP
      have hD : va_D A [(qc, .inr (5, [.ref q, .ref qn, .ref qk, .ref qa, .ref qd, .int (zB true)])), (qk, .inr (2, [.ref k1, .int (nI la), .int (nI ss), .int (nI ii), .int (nI ks), .ref k2, .ref k3, .ref k4, .long kb])), (k3, aJ G 8 ko)] := hD
      -- end 0
      rw [← hQ]
      exact k_iret hx hb hr hlocks (by decide) (u := ()) (Or.inl ⟨hc16_e, rfl, rfl⟩) hP hD hK hS dC_output_19
    · skip
      have hP : va_P (gD G) vC [(qc, .inr (5, [.ref q, .ref qn, .ref qk, .ref qa, .ref qd, .int (zB true)])), (qk, .inr (2, [.ref k1, .int (nI la), .int (nI ss), .int (nI ii), .int (nI ks), .ref k2, .ref k3, .ref k4, .long kb])), (k3, aJ G 8 ko)] H := hP
      have hD : va_D A [(qc, .inr (5, [.ref q, .ref qn, .ref qk, .ref qa, .ref qd, .int (zB true)])), (qk, .inr (2, [.ref k1, .int (nI la), .int (nI ss), .int (nI ii), .int (nI ks), .ref k2, .ref k3, .ref k4, .long kb])), (k3, aJ G 8 ko)] := hD
      -- end 1
      rw [← hQ]
      exact k_iret hx hb hr hlocks (by decide) (u := ()) (Or.inr ⟨hc16_e, rfl, rfl⟩) hP hD hK hS dC_output_19
  rw [hH, hlc] at hgo
  exact hgo
set_option maxRecDepth 100000 in
set_option maxHeartbeats 4000000 in
theorem k_C_safe_ok (l : Launch) (G : GG) (sz : Nat) (qc : Nat) (q : Nat) (qn : Nat) (qk : Nat) (qa : Nat) (qd : Nat) (r1 : Nat) (r2 : Nat) (ns : Nat) (re : Int64) (sp : Int32) (lr : Nat) (rt : Nat) (vi : Int64) : Ki l yC_safe cC_safe 1 .boolean 1 20 G [.ref qc] [(qc, .inr (5, [.ref q, .ref qn, .ref qk, .ref qa, .ref qd, .int (zB true)])), (qa, .inr (0, [.ref r1, .int (nI ns), .long re, .int sp, .ref r2, .int (nI lr), .int (nI rt), .long vi]))] sz (fun (r : Int32) (u : Unit) => (sp = (-1) ∧ nI 1 = r ∧ () = u) ∨ (¬ sp = (-1) ∧ nI 0 = r ∧ () = u)) (fun (u : Unit) => [(qc, .inr (5, [.ref q, .ref qn, .ref qk, .ref qa, .ref qd, .int (zB true)])), (qa, .inr (0, [.ref r1, .int (nI ns), .long re, .int sp, .ref r2, .int (nI lr), .int (nI rt), .long vi]))]) := by
  refine Met.ofW (cc := cC_safe) (maxL := 1) (ret := (some .boolean)) (by decide) rfl ?_
  intro p e s m args below meth c s₁ B hml hv
  obtain ⟨hav, hsz, hP, hK, hD0, hE⟩ := hv
  have hx := B.exec
  have hb := B.bytes
  have hr := B.returns
  have htb : ∀ w ∈ TB, w.before args s = true := fun w h => atoms_spec (ws := Cond.code yC_safe cC_safe 1 (some .boolean) :: TB) B.pre w (List.mem_cons_of_mem _ h)
  have hown : s.vm.findClass "CircuitProver" = some m.cls := findClass_of_methodNamed B.named
  have hlocks := B.notSynchronized
  subst hsz
  have hD := hD0.self (sz := s.heap.size)
  clear hD0
  generalize hRm : (headSpec (Cond.code yC_safe cC_safe 1 (some .boolean) :: TB) { frames := 1, cells := 0, slots := 0, locals := 20 }).room = R
  have hRf : R.frames = 1 := by rw [← hRm]; rfl
  have hRl : R.locals = 20 := by rw [← hRm]; rfl
  have hRc : R.cells = 0 := by rw [← hRm]; rfl
  have hRs : R.slots = 0 := by rw [← hRm]; rfl
  clear hRm
  generalize hAe : va_A [(qc, .inr (5, [.ref q, .ref qn, .ref qk, .ref qa, .ref qd, .int (zB true)])), (qa, .inr (0, [.ref r1, .int (nI ns), .long re, .int sp, .ref r2, .int (nI lr), .int (nI rt), .long vi]))] s.heap.size = A at hD hE ⊢
  have hA : ∀ q : Nat, s.heap.size ≤ q → A q := fun q h => by rw [← hAe]; exact Or.inr h
  clear hAe
  have hS : va_S A s.heap s.heap [] := va_S.rf
  have hl := lv_entry ([.ref qc]) (n := 1) (Nat.le_of_ble_eq_true rfl)
  have hent := lg_entry_eq m ([.ref qc]) 1
  rw [← hav] at hent
  rw [hent]
  clear hent hav
  generalize (lg_sl ([.ref qc]) ++ List.replicate (1 - (lg_sl ([.ref qc])).length) Slot.unset).toArray = ls at hl ⊢
  have hl : lv_has ls 1 [(0, .ref qc)] := hl
  generalize hQ : MQ below _ args s 0 0 _ = Q
  have hP : va_P (gD G) vC [(qc, .inr (5, [.ref q, .ref qn, .ref qk, .ref qa, .ref qd, .int (zB true)])), (qa, .inr (0, [.ref r1, .int (nI ns), .long re, .int sp, .ref r2, .int (nI lr), .int (nI rt), .long vi]))] s.heap := hP
  obtain ⟨H, hH⟩ : ∃ H : Heap, H = s.heap := ⟨_, rfl⟩
  obtain ⟨locs, hlc⟩ : ∃ L : List Loc, L = [] := ⟨_, rfl⟩
  have hS : va_S A s.heap H locs := by rw [hH, hlc]; exact hS
  have hP : va_P (gD G) vC [(qc, .inr (5, [.ref q, .ref qn, .ref qk, .ref qa, .ref qd, .int (zB true)])), (qa, .inr (0, [.ref r1, .int (nI ns), .long re, .int sp, .ref r2, .int (nI lr), .int (nI rt), .long vi]))] H := by rw [hH]; exact hP
  have hgo : W p l e R s m args below meth c H locs 0 0 Q (F0 m 0 ls []) := by
    clear hH hlc
    refine lv_aload_n hx hb dC_safe_0 rfl (lv_at hl 0 rfl) ?_
    refine k_v (ws2 := fun u => [(qc, .inr (5, [.ref q, .ref qn, .ref qk, .ref qa, .ref qd, .int (zB true)])), (qa, .inr (0, [.ref r1, .int (nI ns), .long re, .int sp, .ref r2, .int (nI lr), .int (nI rt), .long vi]))]) (wr := [(qa, .inr (0, [.ref r1, .int (nI ns), .long re, .int sp, .ref r2, .int (nI lr), .int (nI rt), .long vi]))]) (k_runV (n := 0) (As := []) (rest := []) hx hb hml hown htb hP hD hK hS hA hE (k_C_requireCircuit_ok l G H.size qc q qn qk qa qd ) b507 b509 s23 b1 b510 (by decide +kernel) rfl rfl ⟨by rw [hRf]; exact Nat.le_of_ble_eq_true rfl, by rw [hRl]; exact Nat.le_of_ble_eq_true rfl⟩ [0] rfl (by decide) 0 rfl rfl rfl rfl hl.1 rfl (Nat.le_of_ble_eq_true rfl) dC_safe_1 ⟨Nat.zero_le _, Nat.zero_le _⟩) hP hD hS hA [0] [1] [1, 0] rfl rfl (by decide) (by decide) (fun u => rfl) (by decide) (fun u H locs hw hP hD hS => ?_)
    obtain rfl := hw
    have hP : va_P (gD G) vC [(qc, .inr (5, [.ref q, .ref qn, .ref qk, .ref qa, .ref qd, .int (zB true)])), (qa, .inr (0, [.ref r1, .int (nI ns), .long re, .int sp, .ref r2, .int (nI lr), .int (nI rt), .long vi]))] H := hP
    have hD : va_D A [(qc, .inr (5, [.ref q, .ref qn, .ref qk, .ref qa, .ref qd, .int (zB true)])), (qa, .inr (0, [.ref r1, .int (nI ns), .long re, .int sp, .ref r2, .int (nI lr), .int (nI rt), .long vi]))] := hD
    refine lv_aload_n hx hb dC_safe_4 rfl (lv_at hl 0 rfl) ?_
    refine va_get (D := gD G) (ci := 5) (v := .ref qa) (C := "CircuitProver") (T := TC) (N := 6) hx hb htb inC hown hK hP 0 rfl rfl 3 (by decide) (htb _ b190) (fun _ h9 => h9) rfl dC_safe_5 ?_
    refine k_i (ws2 := fun u => [(qc, .inr (5, [.ref q, .ref qn, .ref qk, .ref qa, .ref qd, .int (zB true)])), (qa, .inr (0, [.ref r1, .int (nI ns), .long re, .int sp, .ref r2, .int (nI lr), .int (nI rt), .long vi]))]) (wr := [(qc, .inr (5, [.ref q, .ref qn, .ref qk, .ref qa, .ref qd, .int (zB true)]))]) (k_runV (n := 0) (As := []) (rest := []) hx hb hml hown htb hP hD hK hS hA hE (k_A_isSafe l G H.size qa r1 r2 ns re sp lr rt vi ) b579 b463 b464 b5 b465 (by decide +kernel) rfl rfl ⟨by rw [hRf]; exact Nat.le_of_ble_eq_true rfl, by rw [hRl]; exact Nat.le_of_ble_eq_true rfl⟩ [1] rfl (by decide) 1 rfl rfl rfl rfl hl.1 rfl (Nat.le_of_ble_eq_true rfl) dC_safe_8 ⟨Nat.zero_le _, Nat.zero_le _⟩) hP hD hS hA [1] [0] [0, 1] rfl rfl (by decide) (by decide) (fun u => rfl) (by decide) (fun r u H locs hw hP hD hS => ?_)
    rcases hw with ⟨hc8_e, rfl, rfl⟩ | ⟨hc8_e, rfl, rfl⟩
    · skip
      have hP : va_P (gD G) vC [(qc, .inr (5, [.ref q, .ref qn, .ref qk, .ref qa, .ref qd, .int (zB true)])), (qa, .inr (0, [.ref r1, .int (nI ns), .long re, .int sp, .ref r2, .int (nI lr), .int (nI rt), .long vi]))] H := hP
      have hD : va_D A [(qc, .inr (5, [.ref q, .ref qn, .ref qk, .ref qa, .ref qd, .int (zB true)])), (qa, .inr (0, [.ref r1, .int (nI ns), .long re, .int sp, .ref r2, .int (nI lr), .int (nI rt), .long vi]))] := hD
      -- end 0
      rw [← hQ]
      exact k_iret hx hb hr hlocks (by decide) (u := ()) (Or.inl ⟨hc8_e, rfl, rfl⟩) hP hD hK hS dC_safe_11
    · skip
      have hP : va_P (gD G) vC [(qc, .inr (5, [.ref q, .ref qn, .ref qk, .ref qa, .ref qd, .int (zB true)])), (qa, .inr (0, [.ref r1, .int (nI ns), .long re, .int sp, .ref r2, .int (nI lr), .int (nI rt), .long vi]))] H := hP
      have hD : va_D A [(qc, .inr (5, [.ref q, .ref qn, .ref qk, .ref qa, .ref qd, .int (zB true)])), (qa, .inr (0, [.ref r1, .int (nI ns), .long re, .int sp, .ref r2, .int (nI lr), .int (nI rt), .long vi]))] := hD
      -- end 1
      rw [← hQ]
      exact k_iret hx hb hr hlocks (by decide) (u := ()) (Or.inr ⟨hc8_e, rfl, rfl⟩) hP hD hK hS dC_safe_11
  rw [hH, hlc] at hgo
  exact hgo
set_option maxRecDepth 100000 in
set_option maxHeartbeats 4000000 in
theorem k_C_depth_ok (l : Launch) (G : GG) (sz : Nat) (qc : Nat) (q : Nat) (qn : Nat) (qk : Nat) (qa : Nat) (qd : Nat) (r1 : Nat) (r2 : Nat) (ns : Nat) (re : Int64) (sp : Int32) (lr : Nat) (rt : Nat) (vi : Int64) : Ki l yC_depth cC_depth 1 .int 1 20 G [.ref qc] [(qc, .inr (5, [.ref q, .ref qn, .ref qk, .ref qa, .ref qd, .int (zB true)])), (qa, .inr (0, [.ref r1, .int (nI ns), .long re, .int sp, .ref r2, .int (nI lr), .int (nI rt), .long vi]))] sz (fun (r : Int32) (u : Unit) => (sp = r ∧ () = u)) (fun (u : Unit) => [(qc, .inr (5, [.ref q, .ref qn, .ref qk, .ref qa, .ref qd, .int (zB true)])), (qa, .inr (0, [.ref r1, .int (nI ns), .long re, .int sp, .ref r2, .int (nI lr), .int (nI rt), .long vi]))]) := by
  refine Met.ofW (cc := cC_depth) (maxL := 1) (ret := (some .int)) (by decide) rfl ?_
  intro p e s m args below meth c s₁ B hml hv
  obtain ⟨hav, hsz, hP, hK, hD0, hE⟩ := hv
  have hx := B.exec
  have hb := B.bytes
  have hr := B.returns
  have htb : ∀ w ∈ TB, w.before args s = true := fun w h => atoms_spec (ws := Cond.code yC_depth cC_depth 1 (some .int) :: TB) B.pre w (List.mem_cons_of_mem _ h)
  have hown : s.vm.findClass "CircuitProver" = some m.cls := findClass_of_methodNamed B.named
  have hlocks := B.notSynchronized
  subst hsz
  have hD := hD0.self (sz := s.heap.size)
  clear hD0
  generalize hRm : (headSpec (Cond.code yC_depth cC_depth 1 (some .int) :: TB) { frames := 1, cells := 0, slots := 0, locals := 20 }).room = R
  have hRf : R.frames = 1 := by rw [← hRm]; rfl
  have hRl : R.locals = 20 := by rw [← hRm]; rfl
  have hRc : R.cells = 0 := by rw [← hRm]; rfl
  have hRs : R.slots = 0 := by rw [← hRm]; rfl
  clear hRm
  generalize hAe : va_A [(qc, .inr (5, [.ref q, .ref qn, .ref qk, .ref qa, .ref qd, .int (zB true)])), (qa, .inr (0, [.ref r1, .int (nI ns), .long re, .int sp, .ref r2, .int (nI lr), .int (nI rt), .long vi]))] s.heap.size = A at hD hE ⊢
  have hA : ∀ q : Nat, s.heap.size ≤ q → A q := fun q h => by rw [← hAe]; exact Or.inr h
  clear hAe
  have hS : va_S A s.heap s.heap [] := va_S.rf
  have hl := lv_entry ([.ref qc]) (n := 1) (Nat.le_of_ble_eq_true rfl)
  have hent := lg_entry_eq m ([.ref qc]) 1
  rw [← hav] at hent
  rw [hent]
  clear hent hav
  generalize (lg_sl ([.ref qc]) ++ List.replicate (1 - (lg_sl ([.ref qc])).length) Slot.unset).toArray = ls at hl ⊢
  have hl : lv_has ls 1 [(0, .ref qc)] := hl
  generalize hQ : MQ below _ args s 0 0 _ = Q
  have hP : va_P (gD G) vC [(qc, .inr (5, [.ref q, .ref qn, .ref qk, .ref qa, .ref qd, .int (zB true)])), (qa, .inr (0, [.ref r1, .int (nI ns), .long re, .int sp, .ref r2, .int (nI lr), .int (nI rt), .long vi]))] s.heap := hP
  obtain ⟨H, hH⟩ : ∃ H : Heap, H = s.heap := ⟨_, rfl⟩
  obtain ⟨locs, hlc⟩ : ∃ L : List Loc, L = [] := ⟨_, rfl⟩
  have hS : va_S A s.heap H locs := by rw [hH, hlc]; exact hS
  have hP : va_P (gD G) vC [(qc, .inr (5, [.ref q, .ref qn, .ref qk, .ref qa, .ref qd, .int (zB true)])), (qa, .inr (0, [.ref r1, .int (nI ns), .long re, .int sp, .ref r2, .int (nI lr), .int (nI rt), .long vi]))] H := by rw [hH]; exact hP
  have hgo : W p l e R s m args below meth c H locs 0 0 Q (F0 m 0 ls []) := by
    clear hH hlc
    refine lv_aload_n hx hb dC_depth_0 rfl (lv_at hl 0 rfl) ?_
    refine k_v (ws2 := fun u => [(qc, .inr (5, [.ref q, .ref qn, .ref qk, .ref qa, .ref qd, .int (zB true)])), (qa, .inr (0, [.ref r1, .int (nI ns), .long re, .int sp, .ref r2, .int (nI lr), .int (nI rt), .long vi]))]) (wr := [(qa, .inr (0, [.ref r1, .int (nI ns), .long re, .int sp, .ref r2, .int (nI lr), .int (nI rt), .long vi]))]) (k_runV (n := 0) (As := []) (rest := []) hx hb hml hown htb hP hD hK hS hA hE (k_C_requireCircuit_ok l G H.size qc q qn qk qa qd ) b507 b509 s23 b1 b510 (by decide +kernel) rfl rfl ⟨by rw [hRf]; exact Nat.le_of_ble_eq_true rfl, by rw [hRl]; exact Nat.le_of_ble_eq_true rfl⟩ [0] rfl (by decide) 0 rfl rfl rfl rfl hl.1 rfl (Nat.le_of_ble_eq_true rfl) dC_depth_1 ⟨Nat.zero_le _, Nat.zero_le _⟩) hP hD hS hA [0] [1] [1, 0] rfl rfl (by decide) (by decide) (fun u => rfl) (by decide) (fun u H locs hw hP hD hS => ?_)
    obtain rfl := hw
    have hP : va_P (gD G) vC [(qc, .inr (5, [.ref q, .ref qn, .ref qk, .ref qa, .ref qd, .int (zB true)])), (qa, .inr (0, [.ref r1, .int (nI ns), .long re, .int sp, .ref r2, .int (nI lr), .int (nI rt), .long vi]))] H := hP
    have hD : va_D A [(qc, .inr (5, [.ref q, .ref qn, .ref qk, .ref qa, .ref qd, .int (zB true)])), (qa, .inr (0, [.ref r1, .int (nI ns), .long re, .int sp, .ref r2, .int (nI lr), .int (nI rt), .long vi]))] := hD
    refine lv_aload_n hx hb dC_depth_4 rfl (lv_at hl 0 rfl) ?_
    refine va_get (D := gD G) (ci := 5) (v := .ref qa) (C := "CircuitProver") (T := TC) (N := 6) hx hb htb inC hown hK hP 0 rfl rfl 3 (by decide) (htb _ b190) (fun _ h9 => h9) rfl dC_depth_5 ?_
    refine va_getN (D := gD G) (ci := 0) (v := .int sp) (C := "CircuitProver$Answer") (T := TA) (N := 8) hx hb htb inA hown hK hP 1 rfl rfl 3 (by decide) (va_Nw.use rfl (hE.nw n151)) (fun _ h9 => h9) rfl dC_depth_8 ?_
    -- end 0
    rw [← hQ]
    exact k_iret hx hb hr hlocks rfl (u := ()) (⟨rfl, rfl⟩) hP hD hK hS dC_depth_11
  rw [hH, hlc] at hgo
  exact hgo
set_option maxRecDepth 100000 in
set_option maxHeartbeats 4000000 in
theorem k_C_bound_ok (l : Launch) (G : GG) (sz : Nat) (qc : Nat) (q : Nat) (qn : Nat) (qk : Nat) (qa : Nat) (qd : Nat) (r1 : Nat) (r2 : Nat) (ns : Nat) (re : Int64) (sp : Int32) (lr : Nat) (rt : Nat) (vi : Int64) : Ki l yC_bound cC_bound 1 .int 1 20 G [.ref qc] [(qc, .inr (5, [.ref q, .ref qn, .ref qk, .ref qa, .ref qd, .int (zB true)])), (qa, .inr (0, [.ref r1, .int (nI ns), .long re, .int sp, .ref r2, .int (nI lr), .int (nI rt), .long vi]))] sz (fun (r : Int32) (u : Unit) => (sp = (-1) ∧ nI lr = r ∧ () = u) ∨ (¬ sp = (-1) ∧ (-1) = r ∧ () = u)) (fun (u : Unit) => [(qc, .inr (5, [.ref q, .ref qn, .ref qk, .ref qa, .ref qd, .int (zB true)])), (qa, .inr (0, [.ref r1, .int (nI ns), .long re, .int sp, .ref r2, .int (nI lr), .int (nI rt), .long vi]))]) := by
  refine Met.ofW (cc := cC_bound) (maxL := 1) (ret := (some .int)) (by decide) rfl ?_
  intro p e s m args below meth c s₁ B hml hv
  obtain ⟨hav, hsz, hP, hK, hD0, hE⟩ := hv
  have hx := B.exec
  have hb := B.bytes
  have hr := B.returns
  have htb : ∀ w ∈ TB, w.before args s = true := fun w h => atoms_spec (ws := Cond.code yC_bound cC_bound 1 (some .int) :: TB) B.pre w (List.mem_cons_of_mem _ h)
  have hown : s.vm.findClass "CircuitProver" = some m.cls := findClass_of_methodNamed B.named
  have hlocks := B.notSynchronized
  subst hsz
  have hD := hD0.self (sz := s.heap.size)
  clear hD0
  generalize hRm : (headSpec (Cond.code yC_bound cC_bound 1 (some .int) :: TB) { frames := 1, cells := 0, slots := 0, locals := 20 }).room = R
  have hRf : R.frames = 1 := by rw [← hRm]; rfl
  have hRl : R.locals = 20 := by rw [← hRm]; rfl
  have hRc : R.cells = 0 := by rw [← hRm]; rfl
  have hRs : R.slots = 0 := by rw [← hRm]; rfl
  clear hRm
  generalize hAe : va_A [(qc, .inr (5, [.ref q, .ref qn, .ref qk, .ref qa, .ref qd, .int (zB true)])), (qa, .inr (0, [.ref r1, .int (nI ns), .long re, .int sp, .ref r2, .int (nI lr), .int (nI rt), .long vi]))] s.heap.size = A at hD hE ⊢
  have hA : ∀ q : Nat, s.heap.size ≤ q → A q := fun q h => by rw [← hAe]; exact Or.inr h
  clear hAe
  have hS : va_S A s.heap s.heap [] := va_S.rf
  have hl := lv_entry ([.ref qc]) (n := 1) (Nat.le_of_ble_eq_true rfl)
  have hent := lg_entry_eq m ([.ref qc]) 1
  rw [← hav] at hent
  rw [hent]
  clear hent hav
  generalize (lg_sl ([.ref qc]) ++ List.replicate (1 - (lg_sl ([.ref qc])).length) Slot.unset).toArray = ls at hl ⊢
  have hl : lv_has ls 1 [(0, .ref qc)] := hl
  generalize hQ : MQ below _ args s 0 0 _ = Q
  have hP : va_P (gD G) vC [(qc, .inr (5, [.ref q, .ref qn, .ref qk, .ref qa, .ref qd, .int (zB true)])), (qa, .inr (0, [.ref r1, .int (nI ns), .long re, .int sp, .ref r2, .int (nI lr), .int (nI rt), .long vi]))] s.heap := hP
  obtain ⟨H, hH⟩ : ∃ H : Heap, H = s.heap := ⟨_, rfl⟩
  obtain ⟨locs, hlc⟩ : ∃ L : List Loc, L = [] := ⟨_, rfl⟩
  have hS : va_S A s.heap H locs := by rw [hH, hlc]; exact hS
  have hP : va_P (gD G) vC [(qc, .inr (5, [.ref q, .ref qn, .ref qk, .ref qa, .ref qd, .int (zB true)])), (qa, .inr (0, [.ref r1, .int (nI ns), .long re, .int sp, .ref r2, .int (nI lr), .int (nI rt), .long vi]))] H := by rw [hH]; exact hP
  have hgo : W p l e R s m args below meth c H locs 0 0 Q (F0 m 0 ls []) := by
    clear hH hlc
    refine lv_aload_n hx hb dC_bound_0 rfl (lv_at hl 0 rfl) ?_
    refine k_v (ws2 := fun u => [(qc, .inr (5, [.ref q, .ref qn, .ref qk, .ref qa, .ref qd, .int (zB true)])), (qa, .inr (0, [.ref r1, .int (nI ns), .long re, .int sp, .ref r2, .int (nI lr), .int (nI rt), .long vi]))]) (wr := [(qa, .inr (0, [.ref r1, .int (nI ns), .long re, .int sp, .ref r2, .int (nI lr), .int (nI rt), .long vi]))]) (k_runV (n := 0) (As := []) (rest := []) hx hb hml hown htb hP hD hK hS hA hE (k_C_requireCircuit_ok l G H.size qc q qn qk qa qd ) b507 b509 s23 b1 b510 (by decide +kernel) rfl rfl ⟨by rw [hRf]; exact Nat.le_of_ble_eq_true rfl, by rw [hRl]; exact Nat.le_of_ble_eq_true rfl⟩ [0] rfl (by decide) 0 rfl rfl rfl rfl hl.1 rfl (Nat.le_of_ble_eq_true rfl) dC_bound_1 ⟨Nat.zero_le _, Nat.zero_le _⟩) hP hD hS hA [0] [1] [1, 0] rfl rfl (by decide) (by decide) (fun u => rfl) (by decide) (fun u H locs hw hP hD hS => ?_)
    obtain rfl := hw
    have hP : va_P (gD G) vC [(qc, .inr (5, [.ref q, .ref qn, .ref qk, .ref qa, .ref qd, .int (zB true)])), (qa, .inr (0, [.ref r1, .int (nI ns), .long re, .int sp, .ref r2, .int (nI lr), .int (nI rt), .long vi]))] H := hP
    have hD : va_D A [(qc, .inr (5, [.ref q, .ref qn, .ref qk, .ref qa, .ref qd, .int (zB true)])), (qa, .inr (0, [.ref r1, .int (nI ns), .long re, .int sp, .ref r2, .int (nI lr), .int (nI rt), .long vi]))] := hD
    refine lv_aload_n hx hb dC_bound_4 rfl (lv_at hl 0 rfl) ?_
    refine va_get (D := gD G) (ci := 5) (v := .ref qa) (C := "CircuitProver") (T := TC) (N := 6) hx hb htb inC hown hK hP 0 rfl rfl 3 (by decide) (htb _ b190) (fun _ h9 => h9) rfl dC_bound_5 ?_
    refine k_i (ws2 := fun u => [(qc, .inr (5, [.ref q, .ref qn, .ref qk, .ref qa, .ref qd, .int (zB true)])), (qa, .inr (0, [.ref r1, .int (nI ns), .long re, .int sp, .ref r2, .int (nI lr), .int (nI rt), .long vi]))]) (wr := [(qc, .inr (5, [.ref q, .ref qn, .ref qk, .ref qa, .ref qd, .int (zB true)]))]) (k_runV (n := 0) (As := []) (rest := []) hx hb hml hown htb hP hD hK hS hA hE (k_A_isSafe l G H.size qa r1 r2 ns re sp lr rt vi ) b579 b463 b464 b5 b465 (by decide +kernel) rfl rfl ⟨by rw [hRf]; exact Nat.le_of_ble_eq_true rfl, by rw [hRl]; exact Nat.le_of_ble_eq_true rfl⟩ [1] rfl (by decide) 1 rfl rfl rfl rfl hl.1 rfl (Nat.le_of_ble_eq_true rfl) dC_bound_8 ⟨Nat.zero_le _, Nat.zero_le _⟩) hP hD hS hA [1] [0] [0, 1] rfl rfl (by decide) (by decide) (fun u => rfl) (by decide) (fun r u H locs hw hP hD hS => ?_)
    rcases hw with ⟨hc8_e, rfl, rfl⟩ | ⟨hc8_e, rfl, rfl⟩
    · skip
      have hP : va_P (gD G) vC [(qc, .inr (5, [.ref q, .ref qn, .ref qk, .ref qa, .ref qd, .int (zB true)])), (qa, .inr (0, [.ref r1, .int (nI ns), .long re, .int sp, .ref r2, .int (nI lr), .int (nI rt), .long vi]))] H := hP
      have hD : va_D A [(qc, .inr (5, [.ref q, .ref qn, .ref qk, .ref qa, .ref qd, .int (zB true)])), (qa, .inr (0, [.ref r1, .int (nI ns), .long re, .int sp, .ref r2, .int (nI lr), .int (nI rt), .long vi]))] := hD
      refine lv_if_eq (tgt := 24) hx hb dC_bound_11 rfl (fun h11 => (by revert h11; first | decide | exact fun z => absurd z (by decide) | exact fun z => z.elim (by decide))) (fun _ => ?_)
      refine lv_aload_n hx hb dC_bound_14 rfl (lv_at hl 0 rfl) ?_
      refine va_get (D := gD G) (ci := 5) (v := .ref qa) (C := "CircuitProver") (T := TC) (N := 6) hx hb htb inC hown hK hP 0 rfl rfl 3 (by decide) (htb _ b190) (fun _ h9 => h9) rfl dC_bound_15 ?_
      refine va_getN (D := gD G) (ci := 0) (v := .int (nI lr)) (C := "CircuitProver$Answer") (T := TA) (N := 8) hx hb htb inA hown hK hP 1 rfl rfl 5 (by decide) (va_Nw.use rfl (hE.nw n155)) (fun _ h9 => h9) rfl dC_bound_18 ?_
      refine lv_goto (tgt := 25) hx hb dC_bound_21 rfl ?_
      -- end 0
      rw [← hQ]
      exact k_iret hx hb hr hlocks rfl (u := ()) (Or.inl ⟨hc8_e, rfl, rfl⟩) hP hD hK hS dC_bound_25
    · skip
      have hP : va_P (gD G) vC [(qc, .inr (5, [.ref q, .ref qn, .ref qk, .ref qa, .ref qd, .int (zB true)])), (qa, .inr (0, [.ref r1, .int (nI ns), .long re, .int sp, .ref r2, .int (nI lr), .int (nI rt), .long vi]))] H := hP
      have hD : va_D A [(qc, .inr (5, [.ref q, .ref qn, .ref qk, .ref qa, .ref qd, .int (zB true)])), (qa, .inr (0, [.ref r1, .int (nI ns), .long re, .int sp, .ref r2, .int (nI lr), .int (nI rt), .long vi]))] := hD
      refine lv_if_eq (tgt := 24) hx hb dC_bound_11 rfl (fun _ => ?_) (fun h11 => (by revert h11; first | decide | exact fun z => absurd z (by decide) | exact fun z => z.elim (by decide)))
      refine lv_iconst (v := (-1)) hx hb dC_bound_24 (by decide) ?_
      -- end 1
      rw [← hQ]
      exact k_iret hx hb hr hlocks rfl (u := ()) (Or.inr ⟨hc8_e, rfl, rfl⟩) hP hD hK hS dC_bound_25
  rw [hH, hlc] at hgo
  exact hgo
set_option maxRecDepth 100000 in
set_option maxHeartbeats 4000000 in
theorem k_C_rounds_ok (l : Launch) (G : GG) (sz : Nat) (qc : Nat) (q : Nat) (qn : Nat) (qk : Nat) (qa : Nat) (qd : Nat) (r1 : Nat) (r2 : Nat) (ns : Nat) (re : Int64) (sp : Int32) (lr : Nat) (rt : Nat) (vi : Int64) : Ki l yC_rounds cC_rounds 1 .int 1 20 G [.ref qc] [(qc, .inr (5, [.ref q, .ref qn, .ref qk, .ref qa, .ref qd, .int (zB true)])), (qa, .inr (0, [.ref r1, .int (nI ns), .long re, .int sp, .ref r2, .int (nI lr), .int (nI rt), .long vi]))] sz (fun (r : Int32) (u : Unit) => (sp = (-1) ∧ nI rt = r ∧ () = u) ∨ (¬ sp = (-1) ∧ (-1) = r ∧ () = u)) (fun (u : Unit) => [(qc, .inr (5, [.ref q, .ref qn, .ref qk, .ref qa, .ref qd, .int (zB true)])), (qa, .inr (0, [.ref r1, .int (nI ns), .long re, .int sp, .ref r2, .int (nI lr), .int (nI rt), .long vi]))]) := by
  refine Met.ofW (cc := cC_rounds) (maxL := 1) (ret := (some .int)) (by decide) rfl ?_
  intro p e s m args below meth c s₁ B hml hv
  obtain ⟨hav, hsz, hP, hK, hD0, hE⟩ := hv
  have hx := B.exec
  have hb := B.bytes
  have hr := B.returns
  have htb : ∀ w ∈ TB, w.before args s = true := fun w h => atoms_spec (ws := Cond.code yC_rounds cC_rounds 1 (some .int) :: TB) B.pre w (List.mem_cons_of_mem _ h)
  have hown : s.vm.findClass "CircuitProver" = some m.cls := findClass_of_methodNamed B.named
  have hlocks := B.notSynchronized
  subst hsz
  have hD := hD0.self (sz := s.heap.size)
  clear hD0
  generalize hRm : (headSpec (Cond.code yC_rounds cC_rounds 1 (some .int) :: TB) { frames := 1, cells := 0, slots := 0, locals := 20 }).room = R
  have hRf : R.frames = 1 := by rw [← hRm]; rfl
  have hRl : R.locals = 20 := by rw [← hRm]; rfl
  have hRc : R.cells = 0 := by rw [← hRm]; rfl
  have hRs : R.slots = 0 := by rw [← hRm]; rfl
  clear hRm
  generalize hAe : va_A [(qc, .inr (5, [.ref q, .ref qn, .ref qk, .ref qa, .ref qd, .int (zB true)])), (qa, .inr (0, [.ref r1, .int (nI ns), .long re, .int sp, .ref r2, .int (nI lr), .int (nI rt), .long vi]))] s.heap.size = A at hD hE ⊢
  have hA : ∀ q : Nat, s.heap.size ≤ q → A q := fun q h => by rw [← hAe]; exact Or.inr h
  clear hAe
  have hS : va_S A s.heap s.heap [] := va_S.rf
  have hl := lv_entry ([.ref qc]) (n := 1) (Nat.le_of_ble_eq_true rfl)
  have hent := lg_entry_eq m ([.ref qc]) 1
  rw [← hav] at hent
  rw [hent]
  clear hent hav
  generalize (lg_sl ([.ref qc]) ++ List.replicate (1 - (lg_sl ([.ref qc])).length) Slot.unset).toArray = ls at hl ⊢
  have hl : lv_has ls 1 [(0, .ref qc)] := hl
  generalize hQ : MQ below _ args s 0 0 _ = Q
  have hP : va_P (gD G) vC [(qc, .inr (5, [.ref q, .ref qn, .ref qk, .ref qa, .ref qd, .int (zB true)])), (qa, .inr (0, [.ref r1, .int (nI ns), .long re, .int sp, .ref r2, .int (nI lr), .int (nI rt), .long vi]))] s.heap := hP
  obtain ⟨H, hH⟩ : ∃ H : Heap, H = s.heap := ⟨_, rfl⟩
  obtain ⟨locs, hlc⟩ : ∃ L : List Loc, L = [] := ⟨_, rfl⟩
  have hS : va_S A s.heap H locs := by rw [hH, hlc]; exact hS
  have hP : va_P (gD G) vC [(qc, .inr (5, [.ref q, .ref qn, .ref qk, .ref qa, .ref qd, .int (zB true)])), (qa, .inr (0, [.ref r1, .int (nI ns), .long re, .int sp, .ref r2, .int (nI lr), .int (nI rt), .long vi]))] H := by rw [hH]; exact hP
  have hgo : W p l e R s m args below meth c H locs 0 0 Q (F0 m 0 ls []) := by
    clear hH hlc
    refine lv_aload_n hx hb dC_rounds_0 rfl (lv_at hl 0 rfl) ?_
    refine k_v (ws2 := fun u => [(qc, .inr (5, [.ref q, .ref qn, .ref qk, .ref qa, .ref qd, .int (zB true)])), (qa, .inr (0, [.ref r1, .int (nI ns), .long re, .int sp, .ref r2, .int (nI lr), .int (nI rt), .long vi]))]) (wr := [(qa, .inr (0, [.ref r1, .int (nI ns), .long re, .int sp, .ref r2, .int (nI lr), .int (nI rt), .long vi]))]) (k_runV (n := 0) (As := []) (rest := []) hx hb hml hown htb hP hD hK hS hA hE (k_C_requireCircuit_ok l G H.size qc q qn qk qa qd ) b507 b509 s23 b1 b510 (by decide +kernel) rfl rfl ⟨by rw [hRf]; exact Nat.le_of_ble_eq_true rfl, by rw [hRl]; exact Nat.le_of_ble_eq_true rfl⟩ [0] rfl (by decide) 0 rfl rfl rfl rfl hl.1 rfl (Nat.le_of_ble_eq_true rfl) dC_rounds_1 ⟨Nat.zero_le _, Nat.zero_le _⟩) hP hD hS hA [0] [1] [1, 0] rfl rfl (by decide) (by decide) (fun u => rfl) (by decide) (fun u H locs hw hP hD hS => ?_)
    obtain rfl := hw
    have hP : va_P (gD G) vC [(qc, .inr (5, [.ref q, .ref qn, .ref qk, .ref qa, .ref qd, .int (zB true)])), (qa, .inr (0, [.ref r1, .int (nI ns), .long re, .int sp, .ref r2, .int (nI lr), .int (nI rt), .long vi]))] H := hP
    have hD : va_D A [(qc, .inr (5, [.ref q, .ref qn, .ref qk, .ref qa, .ref qd, .int (zB true)])), (qa, .inr (0, [.ref r1, .int (nI ns), .long re, .int sp, .ref r2, .int (nI lr), .int (nI rt), .long vi]))] := hD
    refine lv_aload_n hx hb dC_rounds_4 rfl (lv_at hl 0 rfl) ?_
    refine va_get (D := gD G) (ci := 5) (v := .ref qa) (C := "CircuitProver") (T := TC) (N := 6) hx hb htb inC hown hK hP 0 rfl rfl 3 (by decide) (htb _ b190) (fun _ h9 => h9) rfl dC_rounds_5 ?_
    refine k_i (ws2 := fun u => [(qc, .inr (5, [.ref q, .ref qn, .ref qk, .ref qa, .ref qd, .int (zB true)])), (qa, .inr (0, [.ref r1, .int (nI ns), .long re, .int sp, .ref r2, .int (nI lr), .int (nI rt), .long vi]))]) (wr := [(qc, .inr (5, [.ref q, .ref qn, .ref qk, .ref qa, .ref qd, .int (zB true)]))]) (k_runV (n := 0) (As := []) (rest := []) hx hb hml hown htb hP hD hK hS hA hE (k_A_isSafe l G H.size qa r1 r2 ns re sp lr rt vi ) b579 b463 b464 b5 b465 (by decide +kernel) rfl rfl ⟨by rw [hRf]; exact Nat.le_of_ble_eq_true rfl, by rw [hRl]; exact Nat.le_of_ble_eq_true rfl⟩ [1] rfl (by decide) 1 rfl rfl rfl rfl hl.1 rfl (Nat.le_of_ble_eq_true rfl) dC_rounds_8 ⟨Nat.zero_le _, Nat.zero_le _⟩) hP hD hS hA [1] [0] [0, 1] rfl rfl (by decide) (by decide) (fun u => rfl) (by decide) (fun r u H locs hw hP hD hS => ?_)
    rcases hw with ⟨hc8_e, rfl, rfl⟩ | ⟨hc8_e, rfl, rfl⟩
    · skip
      have hP : va_P (gD G) vC [(qc, .inr (5, [.ref q, .ref qn, .ref qk, .ref qa, .ref qd, .int (zB true)])), (qa, .inr (0, [.ref r1, .int (nI ns), .long re, .int sp, .ref r2, .int (nI lr), .int (nI rt), .long vi]))] H := hP
      have hD : va_D A [(qc, .inr (5, [.ref q, .ref qn, .ref qk, .ref qa, .ref qd, .int (zB true)])), (qa, .inr (0, [.ref r1, .int (nI ns), .long re, .int sp, .ref r2, .int (nI lr), .int (nI rt), .long vi]))] := hD
      refine lv_if_eq (tgt := 24) hx hb dC_rounds_11 rfl (fun h11 => (by revert h11; first | decide | exact fun z => absurd z (by decide) | exact fun z => z.elim (by decide))) (fun _ => ?_)
      refine lv_aload_n hx hb dC_rounds_14 rfl (lv_at hl 0 rfl) ?_
      refine va_get (D := gD G) (ci := 5) (v := .ref qa) (C := "CircuitProver") (T := TC) (N := 6) hx hb htb inC hown hK hP 0 rfl rfl 3 (by decide) (htb _ b190) (fun _ h9 => h9) rfl dC_rounds_15 ?_
      refine va_getN (D := gD G) (ci := 0) (v := .int (nI rt)) (C := "CircuitProver$Answer") (T := TA) (N := 8) hx hb htb inA hown hK hP 1 rfl rfl 6 (by decide) (va_Nw.use rfl (hE.nw n157)) (fun _ h9 => h9) rfl dC_rounds_18 ?_
      refine lv_goto (tgt := 25) hx hb dC_rounds_21 rfl ?_
      -- end 0
      rw [← hQ]
      exact k_iret hx hb hr hlocks rfl (u := ()) (Or.inl ⟨hc8_e, rfl, rfl⟩) hP hD hK hS dC_rounds_25
    · skip
      have hP : va_P (gD G) vC [(qc, .inr (5, [.ref q, .ref qn, .ref qk, .ref qa, .ref qd, .int (zB true)])), (qa, .inr (0, [.ref r1, .int (nI ns), .long re, .int sp, .ref r2, .int (nI lr), .int (nI rt), .long vi]))] H := hP
      have hD : va_D A [(qc, .inr (5, [.ref q, .ref qn, .ref qk, .ref qa, .ref qd, .int (zB true)])), (qa, .inr (0, [.ref r1, .int (nI ns), .long re, .int sp, .ref r2, .int (nI lr), .int (nI rt), .long vi]))] := hD
      refine lv_if_eq (tgt := 24) hx hb dC_rounds_11 rfl (fun _ => ?_) (fun h11 => (by revert h11; first | decide | exact fun z => absurd z (by decide) | exact fun z => z.elim (by decide)))
      refine lv_iconst (v := (-1)) hx hb dC_rounds_24 (by decide) ?_
      -- end 1
      rw [← hQ]
      exact k_iret hx hb hr hlocks rfl (u := ()) (Or.inr ⟨hc8_e, rfl, rfl⟩) hP hD hK hS dC_rounds_25
  rw [hH, hlc] at hgo
  exact hgo
set_option maxRecDepth 100000 in
set_option maxHeartbeats 4000000 in
theorem k_C_circuit_ok (l : Launch) (G : GG) (sz : Nat) (qc : Nat) (q : Nat) (qn : Nat) (qk : Nat) (qa : Nat) (qd : Nat) (k1 : Nat) (k2 : Nat) (k3 : Nat) (k4 : Nat) (la : Nat) (ss : Nat) (ii : Nat) (ks : Nat) (kb : Int64) (kh : Nat → Nat) (x : Int32) : Ki l yC_circuit cC_circuit 2 .int 1 20 G [.ref qc, .int x] [(qc, .inr (5, [.ref q, .ref qn, .ref qk, .ref qa, .ref qd, .int (zB true)])), (qk, .inr (2, [.ref k1, .int (nI la), .int (nI ss), .int (nI ii), .int (nI ks), .ref k2, .ref k3, .ref k4, .long kb])), (k1, aI G 5 kh)] sz (fun (r : Int32) (u : Unit) => (∃ (n : Nat), (n < 5 ∧ x = nI n) ∧ nI (kh n) = r ∧ () = u) ∨ (x = nI 5 ∧ nI ks = r ∧ () = u) ∨ ((∀ n, n < 6 → ¬ x = nI n) ∧ (-1) = r ∧ () = u)) (fun (u : Unit) => [(qc, .inr (5, [.ref q, .ref qn, .ref qk, .ref qa, .ref qd, .int (zB true)])), (qk, .inr (2, [.ref k1, .int (nI la), .int (nI ss), .int (nI ii), .int (nI ks), .ref k2, .ref k3, .ref k4, .long kb])), (k1, aI G 5 kh)]) := by
  refine Met.ofW (cc := cC_circuit) (maxL := 2) (ret := (some .int)) (by decide) rfl ?_
  intro p e s m args below meth c s₁ B hml hv
  obtain ⟨hav, hsz, hP, hK, hD0, hE⟩ := hv
  have hx := B.exec
  have hb := B.bytes
  have hr := B.returns
  have htb : ∀ w ∈ TB, w.before args s = true := fun w h => atoms_spec (ws := Cond.code yC_circuit cC_circuit 2 (some .int) :: TB) B.pre w (List.mem_cons_of_mem _ h)
  have hown : s.vm.findClass "CircuitProver" = some m.cls := findClass_of_methodNamed B.named
  have hlocks := B.notSynchronized
  subst hsz
  have hD := hD0.self (sz := s.heap.size)
  clear hD0
  generalize hRm : (headSpec (Cond.code yC_circuit cC_circuit 2 (some .int) :: TB) { frames := 1, cells := 0, slots := 0, locals := 20 }).room = R
  have hRf : R.frames = 1 := by rw [← hRm]; rfl
  have hRl : R.locals = 20 := by rw [← hRm]; rfl
  have hRc : R.cells = 0 := by rw [← hRm]; rfl
  have hRs : R.slots = 0 := by rw [← hRm]; rfl
  clear hRm
  generalize hAe : va_A [(qc, .inr (5, [.ref q, .ref qn, .ref qk, .ref qa, .ref qd, .int (zB true)])), (qk, .inr (2, [.ref k1, .int (nI la), .int (nI ss), .int (nI ii), .int (nI ks), .ref k2, .ref k3, .ref k4, .long kb])), (k1, aI G 5 kh)] s.heap.size = A at hD hE ⊢
  have hA : ∀ q : Nat, s.heap.size ≤ q → A q := fun q h => by rw [← hAe]; exact Or.inr h
  clear hAe
  have hS : va_S A s.heap s.heap [] := va_S.rf
  have hl := lv_entry ([.ref qc, .int x]) (n := 2) (Nat.le_of_ble_eq_true rfl)
  have hent := lg_entry_eq m ([.ref qc, .int x]) 2
  rw [← hav] at hent
  rw [hent]
  clear hent hav
  generalize (lg_sl ([.ref qc, .int x]) ++ List.replicate (2 - (lg_sl ([.ref qc, .int x])).length) Slot.unset).toArray = ls at hl ⊢
  have hl : lv_has ls 2 [(0, .ref qc), (1, .int x)] := hl
  generalize hQ : MQ below _ args s 0 0 _ = Q
  have hP : va_P (gD G) vC [(qc, .inr (5, [.ref q, .ref qn, .ref qk, .ref qa, .ref qd, .int (zB true)])), (qk, .inr (2, [.ref k1, .int (nI la), .int (nI ss), .int (nI ii), .int (nI ks), .ref k2, .ref k3, .ref k4, .long kb])), (k1, aI G 5 kh)] s.heap := hP
  obtain ⟨H, hH⟩ : ∃ H : Heap, H = s.heap := ⟨_, rfl⟩
  obtain ⟨locs, hlc⟩ : ∃ L : List Loc, L = [] := ⟨_, rfl⟩
  have hS : va_S A s.heap H locs := by rw [hH, hlc]; exact hS
  have hP : va_P (gD G) vC [(qc, .inr (5, [.ref q, .ref qn, .ref qk, .ref qa, .ref qd, .int (zB true)])), (qk, .inr (2, [.ref k1, .int (nI la), .int (nI ss), .int (nI ii), .int (nI ks), .ref k2, .ref k3, .ref k4, .long kb])), (k1, aI G 5 kh)] H := by rw [hH]; exact hP
  have hgo : W p l e R s m args below meth c H locs 0 0 Q (F0 m 0 ls []) := by
    clear hH hlc
    refine lv_aload_n hx hb dC_circuit_0 rfl (lv_at hl 0 rfl) ?_
    refine k_v (ws2 := fun u => [(qc, .inr (5, [.ref q, .ref qn, .ref qk, .ref qa, .ref qd, .int (zB true)])), (qk, .inr (2, [.ref k1, .int (nI la), .int (nI ss), .int (nI ii), .int (nI ks), .ref k2, .ref k3, .ref k4, .long kb])), (k1, aI G 5 kh)]) (wr := [(qk, .inr (2, [.ref k1, .int (nI la), .int (nI ss), .int (nI ii), .int (nI ks), .ref k2, .ref k3, .ref k4, .long kb])), (k1, aI G 5 kh)]) (k_runV (n := 0) (As := []) (rest := []) hx hb hml hown htb hP hD hK hS hA hE (k_C_requireCircuit_ok l G H.size qc q qn qk qa qd ) b507 b509 s23 b1 b510 (by decide +kernel) rfl rfl ⟨by rw [hRf]; exact Nat.le_of_ble_eq_true rfl, by rw [hRl]; exact Nat.le_of_ble_eq_true rfl⟩ [0] rfl (by decide) 0 rfl rfl rfl rfl hl.1 rfl (Nat.le_of_ble_eq_true rfl) dC_circuit_1 ⟨Nat.zero_le _, Nat.zero_le _⟩) hP hD hS hA [0] [1, 2] [2, 0, 1] rfl rfl (by decide) (by decide) (fun u => rfl) (by decide) (fun u H locs hw hP hD hS => ?_)
    obtain rfl := hw
    have hP : va_P (gD G) vC [(qc, .inr (5, [.ref q, .ref qn, .ref qk, .ref qa, .ref qd, .int (zB true)])), (qk, .inr (2, [.ref k1, .int (nI la), .int (nI ss), .int (nI ii), .int (nI ks), .ref k2, .ref k3, .ref k4, .long kb])), (k1, aI G 5 kh)] H := hP
    have hD : va_D A [(qc, .inr (5, [.ref q, .ref qn, .ref qk, .ref qa, .ref qd, .int (zB true)])), (qk, .inr (2, [.ref k1, .int (nI la), .int (nI ss), .int (nI ii), .int (nI ks), .ref k2, .ref k3, .ref k4, .long kb])), (k1, aI G 5 kh)] := hD
    refine lv_iload_n hx hb dC_circuit_4 rfl (lv_at hl 1 rfl) ?_
    refine lv_if_lt (tgt := 23) hx hb dC_circuit_5 rfl (fun h5 => ?_) (fun h5 => ?_)
    · skip
      refine lv_iload_n hx hb dC_circuit_23 rfl (lv_at hl 1 rfl) ?_
      refine lv_iconst (v := nI 5) hx hb dC_circuit_24 (by decide) ?_
      refine lv_icmp_ne (tgt := 38) hx hb dC_circuit_25 rfl (fun h25 => ?_) (fun h25 => ?_)
      · skip
        refine lv_iconst (v := (-1)) hx hb dC_circuit_38 (by decide) ?_
        -- end 0
        rw [← hQ]
        exact k_iret hx hb hr hlocks rfl (u := ()) (Or.inr (Or.inr ⟨fun n hn e9 => (by rw [e9] at h5; exact nI_pos (by omega) h5), rfl, rfl⟩)) hP hD hK hS dC_circuit_39
      · skip
        refine lv_aload_n hx hb dC_circuit_28 rfl (lv_at hl 0 rfl) ?_
        refine va_get (D := gD G) (ci := 5) (v := .ref qk) (C := "CircuitProver") (T := TC) (N := 6) hx hb htb inC hown hK hP 0 rfl rfl 2 (by decide) (htb _ b189) (fun _ h9 => h9) rfl dC_circuit_29 ?_
        refine va_getN (D := gD G) (ci := 2) (v := .int (nI ks)) (C := "CircuitProver$Machine") (T := TK) (N := 9) hx hb htb inK hown hK hP 1 rfl rfl 4 (by decide) (va_Nw.use rfl (hE.nw n114)) (fun _ h9 => h9) rfl dC_circuit_32 ?_
        refine lv_goto (tgt := 39) hx hb dC_circuit_35 rfl ?_
        -- end 1
        rw [← hQ]
        exact k_iret hx hb hr hlocks rfl (u := ()) (Or.inr (Or.inl ⟨h25, rfl, rfl⟩)) hP hD hK hS dC_circuit_39
    · skip
      refine lv_iload_n hx hb dC_circuit_8 rfl (lv_at hl 1 rfl) ?_
      refine lv_iconst (v := nI 5) hx hb dC_circuit_9 (by decide) ?_
      refine lv_icmp_ge (tgt := 23) hx hb dC_circuit_10 rfl (fun h10 => ?_) (fun h10 => ?_)
      · skip
        refine lv_iload_n hx hb dC_circuit_23 rfl (lv_at hl 1 rfl) ?_
        refine lv_iconst (v := nI 5) hx hb dC_circuit_24 (by decide) ?_
        refine lv_icmp_ne (tgt := 38) hx hb dC_circuit_25 rfl (fun h25 => ?_) (fun h25 => ?_)
        · skip
          refine lv_iconst (v := (-1)) hx hb dC_circuit_38 (by decide) ?_
          -- end 2
          rw [← hQ]
          exact k_iret hx hb hr hlocks rfl (u := ()) (Or.inr (Or.inr ⟨fun n hn e9 => (by by_cases e5 : n = 5; (subst e5; exact h25 e9); (rw [e9] at h10; exact nI_ge (show n < 5 by omega) (by omega) h10)), rfl, rfl⟩)) hP hD hK hS dC_circuit_39
        · skip
          refine lv_aload_n hx hb dC_circuit_28 rfl (lv_at hl 0 rfl) ?_
          refine va_get (D := gD G) (ci := 5) (v := .ref qk) (C := "CircuitProver") (T := TC) (N := 6) hx hb htb inC hown hK hP 0 rfl rfl 2 (by decide) (htb _ b189) (fun _ h9 => h9) rfl dC_circuit_29 ?_
          refine va_getN (D := gD G) (ci := 2) (v := .int (nI ks)) (C := "CircuitProver$Machine") (T := TK) (N := 9) hx hb htb inK hown hK hP 1 rfl rfl 4 (by decide) (va_Nw.use rfl (hE.nw n114)) (fun _ h9 => h9) rfl dC_circuit_32 ?_
          refine lv_goto (tgt := 39) hx hb dC_circuit_35 rfl ?_
          -- end 3
          rw [← hQ]
          exact k_iret hx hb hr hlocks rfl (u := ()) (Or.inr (Or.inl ⟨h25, rfl, rfl⟩)) hP hD hK hS dC_circuit_39
      · skip
        obtain ⟨n, hn5, rfl⟩ : ∃ n, n < 5 ∧ x = nI n := by rcases pk_ix x (n := 5) (by omega) with h | h | h; (exact absurd h h5); (exact absurd h h10); exact h
        refine lv_aload_n hx hb dC_circuit_13 rfl (lv_at hl 0 rfl) ?_
        refine va_get (D := gD G) (ci := 5) (v := .ref qk) (C := "CircuitProver") (T := TC) (N := 6) hx hb htb inC hown hK hP 0 rfl rfl 2 (by decide) (htb _ b189) (fun _ h9 => h9) rfl dC_circuit_14 ?_
        refine va_getN (D := gD G) (ci := 2) (v := .ref k1) (C := "CircuitProver$Machine") (T := TK) (N := 9) hx hb htb inK hown hK hP 1 rfl rfl 0 (by decide) (va_Nw.use rfl (hE.nw n105)) (fun _ h9 => h9) rfl dC_circuit_17 ?_
        refine lv_iload_n hx hb dC_circuit_20 rfl (lv_at hl 1 rfl) ?_
        refine k_iald hx hb hK hP 2 rfl (k := n) (by omega) (by decide) dC_circuit_21 ?_
        -- end 4
        rw [← hQ]
        exact k_iret hx hb hr hlocks rfl (u := ()) (Or.inl ⟨n, ⟨hn5, rfl⟩, rfl, rfl⟩) hP hD hK hS dC_circuit_22
  rw [hH, hlc] at hgo
  exact hgo
