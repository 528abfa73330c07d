theorem ng_m (n : Nat) : -(Int32.toInt64 (nI (n % 2))) = if n % 2 = 1 then (-1 : Int64) else 0 := by
  rcases (show n % 2 = 0 ∨ n % 2 = 1 by omega) with h | h
  · rw [h]; decide
  · rw [h]; decide
theorem ng_b (i k : Nat) : -(Int32.toInt64 (nI (i / 2 ^ k % 2))) = if i.testBit k = true then (-1 : Int64) else 0 := by
  rw [ng_m, Nat.testBit_eq_decide_div_mod_eq]
  by_cases h : i / 2 ^ k % 2 = 1
  · rw [if_pos h, if_pos (by simp [h])]
  · rw [if_neg h, if_neg (by simp [h])]
/-- all variables' values with input i, in all states at once; a inputs, b latches -/
def runI (a : Nat) (iv : Nat → Nat) (i : Nat) (o : Nat → Int64) : Nat → Int64 := it (fun k o => va_up o (iv k) (if i.testBit k = true then -1 else 0)) a o
def runL (b : Nat) (lv : Nat → Nat) (o : Nat → Int64) : Nat → Int64 := it (fun k o => va_up o (lv k) (L1 k)) b o
def runC (a b : Nat) (iv lv : Nat → Nat) (ig : Nat → Bool) (gl gr : Nat → Nat) (o : Nat → Int64) (i : Nat) : Nat → Int64 := it (gsC ig gl gr) 49 (runL b lv (runI a iv i (va_up o 0 0)))
theorem runC_ev (T : Nat → Nat) (iv lv : Nat → Nat) (ig : Nat → Bool) (gl gr : Nat → Nat) (o : Nat → Int64) (i : Nat) : runC (hd T 1) (hd T 2) iv lv ig gl gr o i = evC T iv lv ig gl gr o i := rfl
set_option maxRecDepth 100000 in
set_option maxHeartbeats 4000000 in
theorem k_N_statesWith (l : Launch) (G : GG) (sz : Nat) (qn : Nat) (n1 : Nat) (n2 : Nat) (n3 : Nat) (n4 : Nat) (n5 : Nat) (n6 : Nat) (n7 : Nat) (n8 : Nat) (n9 : Nat) (n10 : Nat) (sa : Nat) (ol : Nat) (io : Nat → Int64) (x : Nat) (hx0 : x < 100) : Kl l yN_statesWith cN_statesWith 2 0 0 G [.ref qn, .int (nI x)] [(qn, .inr (3, [.ref n1, .ref n2, .ref n3, .ref n4, .ref n5, .ref n6, .ref n7, .ref n8, .ref n9, .int (nI sa), .int (nI ol), .ref n10])), (n10, aJ G 50 io)] sz (fun (r : Int64) (u : Unit) => (swC io x = r ∧ () = u)) (fun (u : Unit) => [(qn, .inr (3, [.ref n1, .ref n2, .ref n3, .ref n4, .ref n5, .ref n6, .ref n7, .ref n8, .ref n9, .int (nI sa), .int (nI ol), .ref n10])), (n10, aJ G 50 io)]) := by
  refine Met.ofW (cc := cN_statesWith) (maxL := 2) (ret := (some .long)) (by decide) rfl ?_
  intro p e s m args below meth c s₁ B hml hv
  obtain ⟨hav, hsz, hP, hK, hD0, hE⟩ := hv
  have hx := B.exec
  have hb := B.bytes
  have hr := B.returns
  have htb : ∀ w ∈ TB, w.before args s = true := fun w h => atoms_spec (ws := Cond.code yN_statesWith cN_statesWith 2 (some .long) :: TB) B.pre w (List.mem_cons_of_mem _ h)
  have hown : s.vm.findClass "CircuitProver$Netlist" = some m.cls := findClass_of_methodNamed B.named
  have hlocks := B.notSynchronized
  subst hsz
  have hD := hD0.self (sz := s.heap.size)
  clear hD0
  generalize hRm : (headSpec (Cond.code yN_statesWith cN_statesWith 2 (some .long) :: TB) { frames := 0, cells := 0, slots := 0, locals := 0 }).room = R
  have hRf : R.frames = 0 := by rw [← hRm]; rfl
  have hRl : R.locals = 0 := by rw [← hRm]; rfl
  have hRc : R.cells = 0 := by rw [← hRm]; rfl
  have hRs : R.slots = 0 := by rw [← hRm]; rfl
  clear hRm
  generalize hAe : va_A [(qn, .inr (3, [.ref n1, .ref n2, .ref n3, .ref n4, .ref n5, .ref n6, .ref n7, .ref n8, .ref n9, .int (nI sa), .int (nI ol), .ref n10])), (n10, aJ G 50 io)] s.heap.size = A at hD hE ⊢
  have hA : ∀ q : Nat, s.heap.size ≤ q → A q := fun q h => by rw [← hAe]; exact Or.inr h
  clear hAe
  have hS : va_S A s.heap s.heap [] := va_S.rf
  have hl := lv_entry ([.ref qn, .int (nI x)]) (n := 2) (Nat.le_of_ble_eq_true rfl)
  have hent := lg_entry_eq m ([.ref qn, .int (nI x)]) 2
  rw [← hav] at hent
  rw [hent]
  clear hent hav
  generalize (lg_sl ([.ref qn, .int (nI x)]) ++ List.replicate (2 - (lg_sl ([.ref qn, .int (nI x)])).length) Slot.unset).toArray = ls at hl ⊢
  have hl : lv_has ls 2 [(0, .ref qn), (1, .int (nI x))] := hl
  generalize hQ : MQ below _ args s 0 0 _ = Q
  have hP : va_P (gD G) vC [(qn, .inr (3, [.ref n1, .ref n2, .ref n3, .ref n4, .ref n5, .ref n6, .ref n7, .ref n8, .ref n9, .int (nI sa), .int (nI ol), .ref n10])), (n10, aJ G 50 io)] s.heap := hP
  obtain ⟨H, hH⟩ : ∃ H : Heap, H = s.heap := ⟨_, rfl⟩
  obtain ⟨locs, hlc⟩ : ∃ L : List Loc, L = [] := ⟨_, rfl⟩
  have hS : va_S A s.heap H locs := by rw [hH, hlc]; exact hS
  have hP : va_P (gD G) vC [(qn, .inr (3, [.ref n1, .ref n2, .ref n3, .ref n4, .ref n5, .ref n6, .ref n7, .ref n8, .ref n9, .int (nI sa), .int (nI ol), .ref n10])), (n10, aJ G 50 io)] H := by rw [hH]; exact hP
  have hgo : W p l e R s m args below meth c H locs 0 0 Q (F0 m 0 ls []) := by
    clear hH hlc
    refine lv_aload_n hx hb dN_statesWith_0 rfl (lv_at hl 0 rfl) ?_
    refine va_get (D := gD G) (ci := 3) (v := .ref n10) (C := "CircuitProver$Netlist") (T := TN) (N := 12) hx hb htb inN hown hK hP 0 rfl rfl 11 (by decide) (htb _ b70) (fun _ h9 => h9) rfl dN_statesWith_1 ?_
    refine lv_iload_n hx hb dN_statesWith_4 rfl (lv_at hl 1 rfl) ?_
    refine lv_iconst (v := nI 1) hx hb dN_statesWith_5 (by decide) ?_
    refine lv_ishr hx hb dN_statesWith_6 ?_
    refine k_toi (y := nI (x / 2)) (pk_shrN (by omega) _ 1 (by decide)) ?_
    refine k_lald hx hb hK hP 1 rfl (k := x / 2) (by omega) (by decide) dN_statesWith_7 ?_
    refine lv_iload_n hx hb dN_statesWith_8 rfl (lv_at hl 1 rfl) ?_
    refine lv_iconst (v := nI 1) hx hb dN_statesWith_9 (by decide) ?_
    refine lv_iand hx hb dN_statesWith_10 ?_
    refine k_toi (y := nI (x % 2)) (pk_andN (by omega) 1 (by decide)) ?_
    refine lv_i2l (v := Int32.toInt64 (nI (x % 2))) hx hb dN_statesWith_11 rfl ?_
    refine lv_lneg hx hb dN_statesWith_12 ?_
    refine k_tol (y := if x % 2 = 1 then (-1 : Int64) else 0) (ng_m x) ?_
    refine lv_lxor hx hb dN_statesWith_13 ?_
    -- end 0
    rw [← hQ]
    exact k_lret hx hb hr hlocks (u := ()) (⟨rfl, rfl⟩) hP hD hK hS dN_statesWith_14
  rw [hH, hlc] at hgo
  exact hgo
set_option maxRecDepth 100000 in
set_option maxHeartbeats 4000000 in
theorem k_N_run (l : Launch) (G : GG) (sz : Nat) (qn : Nat) (n1 : Nat) (n2 : Nat) (n3 : Nat) (n4 : Nat) (n5 : Nat) (n6 : Nat) (n7 : Nat) (n8 : Nat) (n9 : Nat) (n10 : Nat) (sa : Nat) (ol : Nat) (hh : Nat → Nat) (ig : Nat → Bool) (gl : Nat → Nat) (gr : Nat → Nat) (iv : Nat → Nat) (lv : Nat → Nat) (io : Nat → Int64) (i : Nat) (hi : i < 8) (h1 : hh 1 ≤ 3) (h2 : hh 2 ≤ 6) (hiv : ∀ k, k < hh 1 → iv k < 50) (hlv : ∀ k, k < hh 2 → lv k < 50) (hg : ∀ v, v < 50 → ig v = true → gl v < 100 ∧ gr v < 100) : Kv l yN_run cN_run 3 1 21 0 0 G [.ref qn, .int (nI i)] [(qn, .inr (3, [.ref n1, .ref n2, .ref n3, .ref n4, .ref n5, .ref n6, .ref n7, .ref n8, .ref n9, .int (nI sa), .int (nI ol), .ref n10])), (n1, aI G 5 hh), (n4, aZ G 50 ig), (n5, aI G 50 gl), (n6, aI G 50 gr), (n7, aI G 3 iv), (n8, aI G 6 lv), (n10, aJ G 50 io)] sz (fun (u : (Nat → Int64)) => (runC (hh 1) (hh 2) iv lv ig gl gr io i = u)) (fun (u : (Nat → Int64)) => [(qn, .inr (3, [.ref n1, .ref n2, .ref n3, .ref n4, .ref n5, .ref n6, .ref n7, .ref n8, .ref n9, .int (nI sa), .int (nI ol), .ref n10])), (n1, aI G 5 hh), (n4, aZ G 50 ig), (n5, aI G 50 gl), (n6, aI G 50 gr), (n7, aI G 3 iv), (n8, aI G 6 lv), (n10, aJ G 50 u)]) := by
  refine Met.ofW (cc := cN_run) (maxL := 3) (ret := none) (by decide) rfl ?_
  intro p e s m args below meth c s₁ B hml hv
  obtain ⟨hav, hsz, hP, hK, hD0, hE⟩ := hv
  have hx := B.exec
  have hb := B.bytes
  have hr := B.returns
  have htb : ∀ w ∈ TB, w.before args s = true := fun w h => atoms_spec (ws := Cond.code yN_run cN_run 3 none :: TB) B.pre w (List.mem_cons_of_mem _ h)
  have hown : s.vm.findClass "CircuitProver$Netlist" = some m.cls := findClass_of_methodNamed B.named
  have hlocks := B.notSynchronized
  subst hsz
  have hD := hD0.self (sz := s.heap.size)
  clear hD0
  generalize hRm : (headSpec (Cond.code yN_run cN_run 3 none :: TB) { frames := 1, cells := 0, slots := 0, locals := 21 }).room = R
  have hRf : R.frames = 1 := by rw [← hRm]; rfl
  have hRl : R.locals = 21 := by rw [← hRm]; rfl
  have hRc : R.cells = 0 := by rw [← hRm]; rfl
  have hRs : R.slots = 0 := by rw [← hRm]; rfl
  clear hRm
  generalize hAe : va_A [(qn, .inr (3, [.ref n1, .ref n2, .ref n3, .ref n4, .ref n5, .ref n6, .ref n7, .ref n8, .ref n9, .int (nI sa), .int (nI ol), .ref n10])), (n1, aI G 5 hh), (n4, aZ G 50 ig), (n5, aI G 50 gl), (n6, aI G 50 gr), (n7, aI G 3 iv), (n8, aI G 6 lv), (n10, aJ G 50 io)] s.heap.size = A at hD hE ⊢
  have hA : ∀ q : Nat, s.heap.size ≤ q → A q := fun q h => by rw [← hAe]; exact Or.inr h
  clear hAe
  have hS : va_S A s.heap s.heap [] := va_S.rf
  have hl := lv_entry ([.ref qn, .int (nI i)]) (n := 3) (Nat.le_of_ble_eq_true rfl)
  have hent := lg_entry_eq m ([.ref qn, .int (nI i)]) 3
  rw [← hav] at hent
  rw [hent]
  clear hent hav
  generalize (lg_sl ([.ref qn, .int (nI i)]) ++ List.replicate (3 - (lg_sl ([.ref qn, .int (nI i)])).length) Slot.unset).toArray = ls at hl ⊢
  have hl : lv_has ls 3 [(0, .ref qn), (1, .int (nI i))] := hl
  generalize hQ : MQ below _ args s 0 0 _ = Q
  have hP : va_P (gD G) vC [(qn, .inr (3, [.ref n1, .ref n2, .ref n3, .ref n4, .ref n5, .ref n6, .ref n7, .ref n8, .ref n9, .int (nI sa), .int (nI ol), .ref n10])), (n1, aI G 5 hh), (n4, aZ G 50 ig), (n5, aI G 50 gl), (n6, aI G 50 gr), (n7, aI G 3 iv), (n8, aI G 6 lv), (n10, aJ G 50 io)] s.heap := hP
  obtain ⟨H, hH⟩ : ∃ H : Heap, H = s.heap := ⟨_, rfl⟩
  obtain ⟨locs, hlc⟩ : ∃ L : List Loc, L = [] := ⟨_, rfl⟩
  have hS : va_S A s.heap H locs := by rw [hH, hlc]; exact hS
  have hP : va_P (gD G) vC [(qn, .inr (3, [.ref n1, .ref n2, .ref n3, .ref n4, .ref n5, .ref n6, .ref n7, .ref n8, .ref n9, .int (nI sa), .int (nI ol), .ref n10])), (n1, aI G 5 hh), (n4, aZ G 50 ig), (n5, aI G 50 gl), (n6, aI G 50 gr), (n7, aI G 3 iv), (n8, aI G 6 lv), (n10, aJ G 50 io)] H := by rw [hH]; exact hP
  have hgo : W p l e R s m args below meth c H locs 0 0 Q (F0 m 0 ls []) := by
    clear hH hlc
    refine lv_aload_n hx hb dN_run_0 rfl (lv_at hl 0 rfl) ?_
    refine va_get (D := gD G) (ci := 3) (v := .ref n10) (C := "CircuitProver$Netlist") (T := TN) (N := 12) hx hb htb inN hown hK hP 0 rfl rfl 11 (by decide) (htb _ b70) (fun _ h9 => h9) rfl dN_run_1 ?_
    refine lv_iconst (v := nI 0) hx hb dN_run_4 (by decide) ?_
    refine lv_lconst (v := 0) hx hb dN_run_5 (by decide) ?_
    refine k_last hx hb hK hP hD hS 7 rfl (k := 0) (v := 0) (by omega) (by decide) dN_run_6 (fun H locs hP hD hS => ?_)
    have hP : va_P (gD G) vC [(qn, .inr (3, [.ref n1, .ref n2, .ref n3, .ref n4, .ref n5, .ref n6, .ref n7, .ref n8, .ref n9, .int (nI sa), .int (nI ol), .ref n10])), (n1, aI G 5 hh), (n4, aZ G 50 ig), (n5, aI G 50 gl), (n6, aI G 50 gr), (n7, aI G 3 iv), (n8, aI G 6 lv), (n10, aJ G 50 (va_up io 0 0))] H := hP
    have hD : va_D A [(qn, .inr (3, [.ref n1, .ref n2, .ref n3, .ref n4, .ref n5, .ref n6, .ref n7, .ref n8, .ref n9, .int (nI sa), .int (nI ol), .ref n10])), (n1, aI G 5 hh), (n4, aZ G 50 ig), (n5, aI G 50 gl), (n6, aI G 50 gr), (n7, aI G 3 iv), (n8, aI G 6 lv), (n10, aJ G 50 (va_up io 0 0))] := hD
    refine lv_iconst (v := nI 0) hx hb dN_run_7 (by decide) ?_
    refine lv_istore_n (lv' := [(2, .int (nI 0)), (0, .ref qn), (1, .int (nI i))]) hx hb dN_run_8 rfl hl (by decide) rfl (fun ls hl => ?_)
    have loop9 : ∀ (n : Nat) (k : Nat) (o : Nat → Int64) (H : Heap) (locs : List Loc) (ls : Array Slot), hh 1 - k < n → (k ≤ hh 1) → (o = runI k iv i (va_up io 0 0)) → va_P (gD G) vC [(qn, .inr (3, [.ref n1, .ref n2, .ref n3, .ref n4, .ref n5, .ref n6, .ref n7, .ref n8, .ref n9, .int (nI sa), .int (nI ol), .ref n10])), (n1, aI G 5 hh), (n4, aZ G 50 ig), (n5, aI G 50 gl), (n6, aI G 50 gr), (n7, aI G 3 iv), (n8, aI G 6 lv), (n10, aJ G 50 o)] H → va_D A [(qn, .inr (3, [.ref n1, .ref n2, .ref n3, .ref n4, .ref n5, .ref n6, .ref n7, .ref n8, .ref n9, .int (nI sa), .int (nI ol), .ref n10])), (n1, aI G 5 hh), (n4, aZ G 50 ig), (n5, aI G 50 gl), (n6, aI G 50 gr), (n7, aI G 3 iv), (n8, aI G 6 lv), (n10, aJ G 50 o)] → va_S A s.heap H locs → lv_has ls 3 [(0, .ref qn), (1, .int (nI i)), (2, .int (nI k))] → W p l e R s m args below meth c H locs 0 0 Q (F0 m 9 ls []) := by
      intro n
      induction n with
      | zero => intro k o H locs ls hmu; omega
      | succ n ih =>
        intro k o H locs ls hmu hk ho hP hD hS hl
        have ih9 := ih
        clear ih
        refine lv_iload_n hx hb dN_run_9 rfl (lv_at hl 2 rfl) ?_
        refine lv_aload_n hx hb dN_run_10 rfl (lv_at hl 0 rfl) ?_
        refine va_get (D := gD G) (ci := 3) (v := .ref n1) (C := "CircuitProver$Netlist") (T := TN) (N := 12) hx hb htb inN hown hK hP 0 rfl rfl 0 (by decide) (htb _ b55) (fun _ h9 => h9) rfl dN_run_11 ?_
        refine lv_iconst (v := nI 1) hx hb dN_run_14 (by decide) ?_
        refine k_iald hx hb hK hP 1 rfl (k := 1) (by omega) (by decide) dN_run_15 ?_
        refine lv_icmp_ge (tgt := 48) hx hb dN_run_16 rfl (fun h16 => ?_) (fun h16 => ?_)
        · have h16 : hh 1 ≤ k := (nI_leI (a := hh 1) (b := k) (by omega) (by omega)).mp h16
          refine lv_iconst (v := nI 0) hx hb dN_run_48 (by decide) ?_
          refine lv_istore_n (lv' := [(2, .int (nI 0)), (0, .ref qn), (1, .int (nI i))]) hx hb dN_run_49 rfl hl (by decide) rfl (fun ls hl => ?_)
          have loop50 : ∀ (n : Nat) (k : Nat) (o : Nat → Int64) (H : Heap) (locs : List Loc) (ls : Array Slot), hh 2 - k < n → (k ≤ hh 2) → (o = runL k lv (runI (hh 1) iv i (va_up io 0 0))) → va_P (gD G) vC [(qn, .inr (3, [.ref n1, .ref n2, .ref n3, .ref n4, .ref n5, .ref n6, .ref n7, .ref n8, .ref n9, .int (nI sa), .int (nI ol), .ref n10])), (n1, aI G 5 hh), (n4, aZ G 50 ig), (n5, aI G 50 gl), (n6, aI G 50 gr), (n7, aI G 3 iv), (n8, aI G 6 lv), (n10, aJ G 50 o)] H → va_D A [(qn, .inr (3, [.ref n1, .ref n2, .ref n3, .ref n4, .ref n5, .ref n6, .ref n7, .ref n8, .ref n9, .int (nI sa), .int (nI ol), .ref n10])), (n1, aI G 5 hh), (n4, aZ G 50 ig), (n5, aI G 50 gl), (n6, aI G 50 gr), (n7, aI G 3 iv), (n8, aI G 6 lv), (n10, aJ G 50 o)] → va_S A s.heap H locs → lv_has ls 3 [(0, .ref qn), (1, .int (nI i)), (2, .int (nI k))] → W p l e R s m args below meth c H locs 0 0 Q (F0 m 50 ls []) := by
            intro n
            induction n with
            | zero => intro k o H locs ls hmu; omega
            | succ n ih =>
              intro k o H locs ls hmu hk2 ho2 hP hD hS hl
              have ih50 := ih
              clear ih
              refine lv_iload_n hx hb dN_run_50 rfl (lv_at hl 2 rfl) ?_
              refine lv_aload_n hx hb dN_run_51 rfl (lv_at hl 0 rfl) ?_
              refine va_get (D := gD G) (ci := 3) (v := .ref n1) (C := "CircuitProver$Netlist") (T := TN) (N := 12) hx hb htb inN hown hK hP 0 rfl rfl 0 (by decide) (htb _ b55) (fun _ h9 => h9) rfl dN_run_52 ?_
              refine lv_iconst (v := nI 2) hx hb dN_run_55 (by decide) ?_
              refine k_iald hx hb hK hP 1 rfl (k := 2) (by omega) (by decide) dN_run_56 ?_
              refine lv_icmp_ge (tgt := 88) hx hb dN_run_57 rfl (fun h57 => ?_) (fun h57 => ?_)
              · have h57 : hh 2 ≤ k := (nI_leI (a := hh 2) (b := k) (by omega) (by omega)).mp h57
                refine lv_iconst (v := nI 1) hx hb dN_run_88 (by decide) ?_
                refine lv_istore_n (lv' := [(2, .int (nI 1)), (0, .ref qn), (1, .int (nI i))]) hx hb dN_run_89 rfl hl (by decide) rfl (fun ls hl => ?_)
                have loop90 : ∀ (n : Nat) (v : Nat) (o : Nat → Int64) (w : Nat) (H : Heap) (locs : List Loc) (ls : Array Slot), 50 - v < n → (v = w + 1 ∧ v ≤ 50) → (o = it (gsC ig gl gr) w (runL (hh 2) lv (runI (hh 1) iv i (va_up io 0 0)))) → va_P (gD G) vC [(qn, .inr (3, [.ref n1, .ref n2, .ref n3, .ref n4, .ref n5, .ref n6, .ref n7, .ref n8, .ref n9, .int (nI sa), .int (nI ol), .ref n10])), (n1, aI G 5 hh), (n4, aZ G 50 ig), (n5, aI G 50 gl), (n6, aI G 50 gr), (n7, aI G 3 iv), (n8, aI G 6 lv), (n10, aJ G 50 o)] H → va_D A [(qn, .inr (3, [.ref n1, .ref n2, .ref n3, .ref n4, .ref n5, .ref n6, .ref n7, .ref n8, .ref n9, .int (nI sa), .int (nI ol), .ref n10])), (n1, aI G 5 hh), (n4, aZ G 50 ig), (n5, aI G 50 gl), (n6, aI G 50 gr), (n7, aI G 3 iv), (n8, aI G 6 lv), (n10, aJ G 50 o)] → va_S A s.heap H locs → lv_has ls 3 [(0, .ref qn), (1, .int (nI i)), (2, .int (nI v))] → W p l e R s m args below meth c H locs 0 0 Q (F0 m 90 ls []) := by
                  intro n
                  induction n with
                  | zero => intro v o w H locs ls hmu; omega
                  | succ n ih =>
                    intro v o w H locs ls hmu hv ho3 hP hD hS hl
                    have ih90 := ih
                    clear ih
                    refine lv_iload_n hx hb dN_run_90 rfl (lv_at hl 2 rfl) ?_
                    refine lv_bipush (v := nI 50) hx hb dN_run_91 (by decide) ?_
                    refine lv_icmp_ge (tgt := 138) hx hb dN_run_93 rfl (fun h93 => ?_) (fun h93 => ?_)
                    · have h93 : 50 ≤ v := (nI_leI (a := 50) (b := v) (by omega) (by omega)).mp h93
                      -- end 0
                      rw [← hQ]
                      exact k_vret hx hb hr hlocks (u := o) (by rw [ho3, show w = 49 by omega]; rfl) hP hD hK hS dN_run_138
                    · have h93 : v < 50 := Nat.lt_of_not_le (fun z => h93 ((nI_leI (a := 50) (b := v) (by omega) (by omega)).mpr z))
                      refine lv_aload_n hx hb dN_run_96 rfl (lv_at hl 0 rfl) ?_
                      refine va_get (D := gD G) (ci := 3) (v := .ref n4) (C := "CircuitProver$Netlist") (T := TN) (N := 12) hx hb htb inN hown hK hP 0 rfl rfl 3 (by decide) (htb _ b59) (fun _ h9 => h9) rfl dN_run_97 ?_
                      refine lv_iload_n hx hb dN_run_100 rfl (lv_at hl 2 rfl) ?_
                      refine k_zald hx hb hK hP 2 rfl (k := v) (by omega) (by decide) dN_run_101 ?_
                      refine lv_if_eq (tgt := 132) hx hb dN_run_102 rfl (fun h102 => ?_) (fun h102 => ?_)
                      · have h102 : ig v = false := zB_f h102
                        refine lv_iinc (v := nI (v + 1)) (lv' := [(2, .int (nI (v + 1))), (0, .ref qn), (1, .int (nI i))]) hx hb dN_run_132 hl (k := 2) rfl (nI_add _ 1) (by decide) rfl (fun ls hl => ?_)
                        refine lv_goto (tgt := 90) hx hb dN_run_135 rfl ?_
                        have hl : lv_has ls 3 [(0, .ref qn), (1, .int (nI i)), (2, .int (nI (v + 1)))] := lv_sub hl [1, 2, 0] rfl
                        exact ih90 (v + 1) o (w + 1) _ _ _ (by omega) (by omega) (by rw [it_s, gsC, ← ho3, ← hv.1]; first | rw [if_pos h102] | rw [if_neg (by rw [h102]; decide)]) hP hD hS hl
                      · have h102 : ig v = true := zB_t h102
                        have hgv := hg v (by omega) h102
                        refine lv_aload_n hx hb dN_run_105 rfl (lv_at hl 0 rfl) ?_
                        refine va_get (D := gD G) (ci := 3) (v := .ref n10) (C := "CircuitProver$Netlist") (T := TN) (N := 12) hx hb htb inN hown hK hP 0 rfl rfl 11 (by decide) (htb _ b70) (fun _ h9 => h9) rfl dN_run_106 ?_
                        refine lv_iload_n hx hb dN_run_109 rfl (lv_at hl 2 rfl) ?_
                        refine lv_aload_n hx hb dN_run_110 rfl (lv_at hl 0 rfl) ?_
                        refine lv_aload_n hx hb dN_run_111 rfl (lv_at hl 0 rfl) ?_
                        refine va_get (D := gD G) (ci := 3) (v := .ref n5) (C := "CircuitProver$Netlist") (T := TN) (N := 12) hx hb htb inN hown hK hP 0 rfl rfl 4 (by decide) (htb _ b60) (fun _ h9 => h9) rfl dN_run_112 ?_
                        refine lv_iload_n hx hb dN_run_115 rfl (lv_at hl 2 rfl) ?_
                        refine k_iald hx hb hK hP 3 rfl (k := v) (by omega) (by decide) dN_run_116 ?_
                        refine k_l (ws2 := fun u => [(qn, .inr (3, [.ref n1, .ref n2, .ref n3, .ref n4, .ref n5, .ref n6, .ref n7, .ref n8, .ref n9, .int (nI sa), .int (nI ol), .ref n10])), (n1, aI G 5 hh), (n4, aZ G 50 ig), (n5, aI G 50 gl), (n6, aI G 50 gr), (n7, aI G 3 iv), (n8, aI G 6 lv), (n10, aJ G 50 o)]) (wr := [(n1, aI G 5 hh), (n4, aZ G 50 ig), (n5, aI G 50 gl), (n6, aI G 50 gr), (n7, aI G 3 iv), (n8, aI G 6 lv)]) (k_runV (n := 1) (As := [.int (nI (gl v))]) (rest := [.int (nI v), .ref n10]) hx hb hml hown htb hP hD hK hS hA hE (k_N_statesWith l G H.size qn n1 n2 n3 n4 n5 n6 n7 n8 n9 n10 sa ol o (gl v) (show (gl v) < 100 from by omega)) b416 b417 b418 b3 b419 (by decide +kernel) rfl rfl ⟨by rw [hRf]; exact Nat.le_of_ble_eq_true rfl, by rw [hRl]; exact Nat.le_of_ble_eq_true rfl⟩ [0, 7] rfl (by decide) 0 rfl rfl rfl rfl hl.1 rfl (Nat.le_of_ble_eq_true rfl) dN_run_117 ⟨Nat.zero_le _, Nat.zero_le _⟩) hP hD hS hA [0, 7] [1, 2, 3, 4, 5, 6] [6, 0, 1, 2, 3, 4, 5, 7] rfl rfl (by decide) (by decide) (fun u => rfl) (by decide) (fun r u H locs hw hP hD hS => ?_)
                        obtain ⟨rfl, rfl⟩ := hw
                        have hP : va_P (gD G) vC [(qn, .inr (3, [.ref n1, .ref n2, .ref n3, .ref n4, .ref n5, .ref n6, .ref n7, .ref n8, .ref n9, .int (nI sa), .int (nI ol), .ref n10])), (n1, aI G 5 hh), (n4, aZ G 50 ig), (n5, aI G 50 gl), (n6, aI G 50 gr), (n7, aI G 3 iv), (n8, aI G 6 lv), (n10, aJ G 50 o)] H := hP
                        have hD : va_D A [(qn, .inr (3, [.ref n1, .ref n2, .ref n3, .ref n4, .ref n5, .ref n6, .ref n7, .ref n8, .ref n9, .int (nI sa), .int (nI ol), .ref n10])), (n1, aI G 5 hh), (n4, aZ G 50 ig), (n5, aI G 50 gl), (n6, aI G 50 gr), (n7, aI G 3 iv), (n8, aI G 6 lv), (n10, aJ G 50 o)] := hD
                        refine lv_aload_n hx hb dN_run_120 rfl (lv_at hl 0 rfl) ?_
                        refine lv_aload_n hx hb dN_run_121 rfl (lv_at hl 0 rfl) ?_
                        refine va_get (D := gD G) (ci := 3) (v := .ref n6) (C := "CircuitProver$Netlist") (T := TN) (N := 12) hx hb htb inN hown hK hP 0 rfl rfl 5 (by decide) (htb _ b61) (fun _ h9 => h9) rfl dN_run_122 ?_
                        refine lv_iload_n hx hb dN_run_125 rfl (lv_at hl 2 rfl) ?_
                        refine k_iald hx hb hK hP 4 rfl (k := v) (by omega) (by decide) dN_run_126 ?_
                        refine k_l (ws2 := fun u => [(qn, .inr (3, [.ref n1, .ref n2, .ref n3, .ref n4, .ref n5, .ref n6, .ref n7, .ref n8, .ref n9, .int (nI sa), .int (nI ol), .ref n10])), (n1, aI G 5 hh), (n4, aZ G 50 ig), (n5, aI G 50 gl), (n6, aI G 50 gr), (n7, aI G 3 iv), (n8, aI G 6 lv), (n10, aJ G 50 o)]) (wr := [(n1, aI G 5 hh), (n4, aZ G 50 ig), (n5, aI G 50 gl), (n6, aI G 50 gr), (n7, aI G 3 iv), (n8, aI G 6 lv)]) (k_runV (n := 1) (As := [.int (nI (gr v))]) (rest := [.long (swC o (gl v)), .int (nI v), .ref n10]) hx hb hml hown htb hP hD hK hS hA hE (k_N_statesWith l G H.size qn n1 n2 n3 n4 n5 n6 n7 n8 n9 n10 sa ol o (gr v) (show (gr v) < 100 from by omega)) b416 b417 b418 b3 b419 (by decide +kernel) rfl rfl ⟨by rw [hRf]; exact Nat.le_of_ble_eq_true rfl, by rw [hRl]; exact Nat.le_of_ble_eq_true rfl⟩ [0, 7] rfl (by decide) 0 rfl rfl rfl rfl hl.1 rfl (Nat.le_of_ble_eq_true rfl) dN_run_127 ⟨Nat.zero_le _, Nat.zero_le _⟩) hP hD hS hA [0, 7] [1, 2, 3, 4, 5, 6] [6, 0, 1, 2, 3, 4, 5, 7] rfl rfl (by decide) (by decide) (fun u => rfl) (by decide) (fun r u H locs hw hP hD hS => ?_)
                        obtain ⟨rfl, rfl⟩ := hw
                        have hP : va_P (gD G) vC [(qn, .inr (3, [.ref n1, .ref n2, .ref n3, .ref n4, .ref n5, .ref n6, .ref n7, .ref n8, .ref n9, .int (nI sa), .int (nI ol), .ref n10])), (n1, aI G 5 hh), (n4, aZ G 50 ig), (n5, aI G 50 gl), (n6, aI G 50 gr), (n7, aI G 3 iv), (n8, aI G 6 lv), (n10, aJ G 50 o)] H := hP
                        have hD : va_D A [(qn, .inr (3, [.ref n1, .ref n2, .ref n3, .ref n4, .ref n5, .ref n6, .ref n7, .ref n8, .ref n9, .int (nI sa), .int (nI ol), .ref n10])), (n1, aI G 5 hh), (n4, aZ G 50 ig), (n5, aI G 50 gl), (n6, aI G 50 gr), (n7, aI G 3 iv), (n8, aI G 6 lv), (n10, aJ G 50 o)] := hD
                        refine lv_land hx hb dN_run_130 ?_
                        refine k_last hx hb hK hP hD hS 7 rfl (k := v) (v := (swC o (gl v)) &&& (swC o (gr v))) (by omega) (by decide) dN_run_131 (fun H locs hP hD hS => ?_)
                        have hP : va_P (gD G) vC [(qn, .inr (3, [.ref n1, .ref n2, .ref n3, .ref n4, .ref n5, .ref n6, .ref n7, .ref n8, .ref n9, .int (nI sa), .int (nI ol), .ref n10])), (n1, aI G 5 hh), (n4, aZ G 50 ig), (n5, aI G 50 gl), (n6, aI G 50 gr), (n7, aI G 3 iv), (n8, aI G 6 lv), (n10, aJ G 50 (va_up o v ((swC o (gl v)) &&& (swC o (gr v)))))] H := hP
                        have hD : va_D A [(qn, .inr (3, [.ref n1, .ref n2, .ref n3, .ref n4, .ref n5, .ref n6, .ref n7, .ref n8, .ref n9, .int (nI sa), .int (nI ol), .ref n10])), (n1, aI G 5 hh), (n4, aZ G 50 ig), (n5, aI G 50 gl), (n6, aI G 50 gr), (n7, aI G 3 iv), (n8, aI G 6 lv), (n10, aJ G 50 (va_up o v ((swC o (gl v)) &&& (swC o (gr v)))))] := hD
                        refine lv_iinc (v := nI (v + 1)) (lv' := [(2, .int (nI (v + 1))), (0, .ref qn), (1, .int (nI i))]) hx hb dN_run_132 hl (k := 2) rfl (nI_add _ 1) (by decide) rfl (fun ls hl => ?_)
                        refine lv_goto (tgt := 90) hx hb dN_run_135 rfl ?_
                        have hl : lv_has ls 3 [(0, .ref qn), (1, .int (nI i)), (2, .int (nI (v + 1)))] := lv_sub hl [1, 2, 0] rfl
                        exact ih90 (v + 1) (va_up o v ((swC o (gl v)) &&& (swC o (gr v)))) (w + 1) _ _ _ (by omega) (by omega) (by rw [it_s, gsC, ← ho3, ← hv.1]; first | rw [if_pos h102] | rw [if_neg (by rw [h102]; decide)]) hP hD hS hl
                have hl : lv_has ls 3 [(0, .ref qn), (1, .int (nI i)), (2, .int (nI 1))] := lv_sub hl [1, 2, 0] rfl
                exact loop90 (50 - 1 + 1) 1 o 0 _ _ _ (by omega) (by omega) (by rw [ho2, show k = hh 2 by omega]; rfl) hP hD hS hl
              · have h57 : k < hh 2 := Nat.lt_of_not_le (fun z => h57 ((nI_leI (a := hh 2) (b := k) (by omega) (by omega)).mpr z))
                refine lv_iload_n hx hb dN_run_60 rfl (lv_at hl 2 rfl) ?_
                refine lv_bipush (v := nI 6) hx hb dN_run_61 (by decide) ?_
                refine lv_icmp_ge (tgt := 88) hx hb dN_run_63 rfl (fun h63 => ?_) (fun h63 => ?_)
                · have h63 : 6 ≤ k := (nI_leI (a := 6) (b := k) (by omega) (by omega)).mp h63
                  exfalso; omega
                · have h63 : k < 6 := Nat.lt_of_not_le (fun z => h63 ((nI_leI (a := 6) (b := k) (by omega) (by omega)).mpr z))
                  have hlvk := hlv k (by omega)
                  refine lv_aload_n hx hb dN_run_66 rfl (lv_at hl 0 rfl) ?_
                  refine va_get (D := gD G) (ci := 3) (v := .ref n10) (C := "CircuitProver$Netlist") (T := TN) (N := 12) hx hb htb inN hown hK hP 0 rfl rfl 11 (by decide) (htb _ b70) (fun _ h9 => h9) rfl dN_run_67 ?_
                  refine lv_aload_n hx hb dN_run_70 rfl (lv_at hl 0 rfl) ?_
                  refine va_get (D := gD G) (ci := 3) (v := .ref n8) (C := "CircuitProver$Netlist") (T := TN) (N := 12) hx hb htb inN hown hK hP 0 rfl rfl 7 (by decide) (htb _ b63) (fun _ h9 => h9) rfl dN_run_71 ?_
                  refine lv_iload_n hx hb dN_run_74 rfl (lv_at hl 2 rfl) ?_
                  refine k_iald hx hb hK hP 6 rfl (k := k) (by omega) (by decide) dN_run_75 ?_
                  obtain ⟨tq, hZ, hT⟩ := hE.2.1
                  refine va_gets hx hb hZ hS hown (htb _ b414) (fun _ h9 => h9) dN_run_76 ?_
                  refine lv_iload_n hx hb dN_run_79 rfl (lv_at hl 2 rfl) ?_
                  refine va_tl (v := .long (L1 k)) hx hb hT hS (vp_in_nI (show k < 6 by omega) (by decide)) (by rw [nI_clamp (by omega)]) dN_run_80 ?_
                  refine k_last hx hb hK hP hD hS 7 rfl (k := lv k) (v := L1 k) (by omega) (by decide) dN_run_81 (fun H locs hP hD hS => ?_)
                  have hP : va_P (gD G) vC [(qn, .inr (3, [.ref n1, .ref n2, .ref n3, .ref n4, .ref n5, .ref n6, .ref n7, .ref n8, .ref n9, .int (nI sa), .int (nI ol), .ref n10])), (n1, aI G 5 hh), (n4, aZ G 50 ig), (n5, aI G 50 gl), (n6, aI G 50 gr), (n7, aI G 3 iv), (n8, aI G 6 lv), (n10, aJ G 50 (va_up o (lv k) (L1 k)))] H := hP
                  have hD : va_D A [(qn, .inr (3, [.ref n1, .ref n2, .ref n3, .ref n4, .ref n5, .ref n6, .ref n7, .ref n8, .ref n9, .int (nI sa), .int (nI ol), .ref n10])), (n1, aI G 5 hh), (n4, aZ G 50 ig), (n5, aI G 50 gl), (n6, aI G 50 gr), (n7, aI G 3 iv), (n8, aI G 6 lv), (n10, aJ G 50 (va_up o (lv k) (L1 k)))] := hD
                  refine lv_iinc (v := nI (k + 1)) (lv' := [(2, .int (nI (k + 1))), (0, .ref qn), (1, .int (nI i))]) hx hb dN_run_82 hl (k := 2) rfl (nI_add _ 1) (by decide) rfl (fun ls hl => ?_)
                  refine lv_goto (tgt := 50) hx hb dN_run_85 rfl ?_
                  have hl : lv_has ls 3 [(0, .ref qn), (1, .int (nI i)), (2, .int (nI (k + 1)))] := lv_sub hl [1, 2, 0] rfl
                  exact ih50 (k + 1) (va_up o (lv k) (L1 k)) _ _ _ (by omega) (by omega) (by rw [ho2]; rfl) hP hD hS hl
          have hl : lv_has ls 3 [(0, .ref qn), (1, .int (nI i)), (2, .int (nI 0))] := lv_sub hl [1, 2, 0] rfl
          exact loop50 (hh 2 - 0 + 1) 0 o _ _ _ (by omega) (by omega) (by rw [ho, show k = hh 1 by omega]; rfl) hP hD hS hl
        · have h16 : k < hh 1 := Nat.lt_of_not_le (fun z => h16 ((nI_leI (a := hh 1) (b := k) (by omega) (by omega)).mpr z))
          refine lv_iload_n hx hb dN_run_19 rfl (lv_at hl 2 rfl) ?_
          refine lv_iconst (v := nI 3) hx hb dN_run_20 (by decide) ?_
          refine lv_icmp_ge (tgt := 48) hx hb dN_run_21 rfl (fun h21 => ?_) (fun h21 => ?_)
          · have h21 : 3 ≤ k := (nI_leI (a := 3) (b := k) (by omega) (by omega)).mp h21
            exfalso; omega
          · have h21 : k < 3 := Nat.lt_of_not_le (fun z => h21 ((nI_leI (a := 3) (b := k) (by omega) (by omega)).mpr z))
            have hivk := hiv k (by omega)
            have hdk : i / 2 ^ k < 8 := Nat.lt_of_le_of_lt (Nat.div_le_self _ _) hi
            refine lv_aload_n hx hb dN_run_24 rfl (lv_at hl 0 rfl) ?_
            refine va_get (D := gD G) (ci := 3) (v := .ref n10) (C := "CircuitProver$Netlist") (T := TN) (N := 12) hx hb htb inN hown hK hP 0 rfl rfl 11 (by decide) (htb _ b70) (fun _ h9 => h9) rfl dN_run_25 ?_
            refine lv_aload_n hx hb dN_run_28 rfl (lv_at hl 0 rfl) ?_
            refine va_get (D := gD G) (ci := 3) (v := .ref n7) (C := "CircuitProver$Netlist") (T := TN) (N := 12) hx hb htb inN hown hK hP 0 rfl rfl 6 (by decide) (htb _ b62) (fun _ h9 => h9) rfl dN_run_29 ?_
            refine lv_iload_n hx hb dN_run_32 rfl (lv_at hl 2 rfl) ?_
            refine k_iald hx hb hK hP 5 rfl (k := k) (by omega) (by decide) dN_run_33 ?_
            refine lv_iload_n hx hb dN_run_34 rfl (lv_at hl 1 rfl) ?_
            refine lv_iload_n hx hb dN_run_35 rfl (lv_at hl 2 rfl) ?_
            refine lv_ishr hx hb dN_run_36 ?_
            refine k_toi (y := nI (i / 2 ^ k)) (shrn (by omega) (by omega)) ?_
            refine lv_iconst (v := nI 1) hx hb dN_run_37 (by decide) ?_
            refine lv_iand hx hb dN_run_38 ?_
            refine k_toi (y := nI ((i / 2 ^ k) % 2)) (pk_andN (by omega) 1 (by decide)) ?_
            refine lv_i2l (v := Int32.toInt64 (nI ((i / 2 ^ k) % 2))) hx hb dN_run_39 rfl ?_
            refine lv_lneg hx hb dN_run_40 ?_
            refine k_tol (y := if i.testBit k = true then (-1 : Int64) else 0) (ng_b i k) ?_
            refine k_last hx hb hK hP hD hS 7 rfl (k := iv k) (v := if i.testBit k = true then (-1 : Int64) else 0) (by omega) (by decide) dN_run_41 (fun H locs hP hD hS => ?_)
            have hP : va_P (gD G) vC [(qn, .inr (3, [.ref n1, .ref n2, .ref n3, .ref n4, .ref n5, .ref n6, .ref n7, .ref n8, .ref n9, .int (nI sa), .int (nI ol), .ref n10])), (n1, aI G 5 hh), (n4, aZ G 50 ig), (n5, aI G 50 gl), (n6, aI G 50 gr), (n7, aI G 3 iv), (n8, aI G 6 lv), (n10, aJ G 50 (va_up o (iv k) (if i.testBit k = true then (-1 : Int64) else 0)))] H := hP
            have hD : va_D A [(qn, .inr (3, [.ref n1, .ref n2, .ref n3, .ref n4, .ref n5, .ref n6, .ref n7, .ref n8, .ref n9, .int (nI sa), .int (nI ol), .ref n10])), (n1, aI G 5 hh), (n4, aZ G 50 ig), (n5, aI G 50 gl), (n6, aI G 50 gr), (n7, aI G 3 iv), (n8, aI G 6 lv), (n10, aJ G 50 (va_up o (iv k) (if i.testBit k = true then (-1 : Int64) else 0)))] := hD
            refine lv_iinc (v := nI (k + 1)) (lv' := [(2, .int (nI (k + 1))), (0, .ref qn), (1, .int (nI i))]) hx hb dN_run_42 hl (k := 2) rfl (nI_add _ 1) (by decide) rfl (fun ls hl => ?_)
            refine lv_goto (tgt := 9) hx hb dN_run_45 rfl ?_
            have hl : lv_has ls 3 [(0, .ref qn), (1, .int (nI i)), (2, .int (nI (k + 1)))] := lv_sub hl [1, 2, 0] rfl
            exact ih9 (k + 1) (va_up o (iv k) (if i.testBit k = true then (-1 : Int64) else 0)) _ _ _ (by omega) (by omega) (by rw [ho]; rfl) hP hD hS hl
    have hl : lv_has ls 3 [(0, .ref qn), (1, .int (nI i)), (2, .int (nI 0))] := lv_sub hl [1, 2, 0] rfl
    exact loop9 (hh 1 - 0 + 1) 0 (va_up io 0 0) _ _ _ (by omega) (by omega) rfl hP hD hS hl
  rw [hH, hlc] at hgo
  exact hgo
