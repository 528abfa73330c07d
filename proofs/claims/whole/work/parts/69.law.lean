def befN (E nm : String) (G : GG) (w : va_W) (sz : Nat) (U : State) : Prop := befX G w sz U ∧ va_Nc E nm U
set_option maxRecDepth 100000 in
set_option maxHeartbeats 4000000 in
theorem k_L_go_p (l : Launch) (htr : l.stackTraces = false) (G : GG) (sz : Nat) (qc : Nat) (q : Nat) (qn : Nat) (qk : Nat) (qa : Nat) (qd : Nat) (k1 : Nat) (k2 : Nat) (k3 : Nat) (k4 : Nat) (la : Nat) (ss : Nat) (ii : Nat) (ks : Nat) (kb : Int64) (x : Int32) (y : Int32) (qb : Nat) (bx : Nat → Int64) (hz : ss ≤ 64) (hii : ii ≤ 8) (hnp : ∀ j i, j < ss → i < ii → x = nI j → ¬ y = nI i) : vx_Met l yL_go (Cond.codeWith yL_go cL_go 5 (some .int) [(0, 10, 13, 21), (0, 10, 17, 27)] :: TBX) { frames := 8, cells := 1, slots := 6, locals := 134 } (va_Pc [.ref qc, .int x, .int y, .ref qb] (befN "java/lang/IndexOutOfBoundsException" "java/lang/IllegalStateException" G [(qc, .inr (5, [.ref q, .ref qn, .ref qk, .ref qa, .ref qd, .int (zB true)])), (qk, .inr (2, [.ref k1, .int (nI la), .int (nI ss), .int (nI ii), .int (nI ks), .ref k2, .ref k3, .ref k4, .long kb])), (qb, aJ G 1 bx)] sz)) (va_Qi (fun (r : Int32) (u : (Nat → Int64)) => (nI 2 = r ∧ bx = u)) (fun u => aft G (va_A [(qc, .inr (5, [.ref q, .ref qn, .ref qk, .ref qa, .ref qd, .int (zB true)])), (qk, .inr (2, [.ref k1, .int (nI la), .int (nI ss), .int (nI ii), .int (nI ks), .ref k2, .ref k3, .ref k4, .long kb])), (qb, aJ G 1 bx)] sz) ((fun (u : (Nat → Int64)) => [(qc, .inr (5, [.ref q, .ref qn, .ref qk, .ref qa, .ref qd, .int (zB true)])), (qk, .inr (2, [.ref k1, .int (nI la), .int (nI ss), .int (nI ii), .int (nI ks), .ref k2, .ref k3, .ref k4, .long kb])), (qb, aJ G 1 u)]) u)) (va_A [(qc, .inr (5, [.ref q, .ref qn, .ref qk, .ref qa, .ref qd, .int (zB true)])), (qk, .inr (2, [.ref k1, .int (nI la), .int (nI ss), .int (nI ii), .int (nI ks), .ref k2, .ref k3, .ref k4, .long kb])), (qb, aJ G 1 bx)] sz)) (fun _ _ _ => False) 1 6 (va_A [(qc, .inr (5, [.ref q, .ref qn, .ref qk, .ref qa, .ref qd, .int (zB true)])), (qk, .inr (2, [.ref k1, .int (nI la), .int (nI ss), .int (nI ii), .int (nI ks), .ref k2, .ref k3, .ref k4, .long kb])), (qb, aJ G 1 bx)] sz) := by
  refine vx_ofWH (cc := cL_go) (maxL := 5) (ret := (some .int)) (by decide) rfl ?_
  intro p e s m args below meth c s₁ B hml hv
  obtain ⟨hav, ⟨⟨hsz, hP, hK, hD0, hE⟩, hDX⟩, hNc⟩ := hv
  have hx := B.exec
  have hb := B.bytes
  have hr := B.returns
  have hTX : ∀ w ∈ TBX, w.before args s = true := fun w h => atoms_spec (ws := Cond.codeWith yL_go cL_go 5 (some .int) [(0, 10, 13, 21), (0, 10, 17, 27)] :: TBX) B.pre w (List.mem_cons_of_mem _ h)
  have htb : ∀ w ∈ TB, w.before args s = true := fun w h => hTX w (List.mem_append_left _ h)
  have hown : s.vm.findClass "CircuitProverLaw" = some m.cls := findClass_of_methodNamed B.named
  have hlocks := B.notSynchronized
  have htab : c.exceptionTable.toList = tableOf [(0, 10, 13, 21), (0, 10, 17, 27)] := vx_table (x := yL_go) B (atoms_spec (ws := Cond.codeWith yL_go cL_go 5 (some .int) [(0, 10, 13, 21), (0, 10, 17, 27)] :: TBX) B.pre _ List.mem_cons_self)
  subst hsz
  have hD := hD0.self (sz := s.heap.size)
  clear hD0
  generalize hRm : (headSpec (Cond.codeWith yL_go cL_go 5 (some .int) [(0, 10, 13, 21), (0, 10, 17, 27)] :: TBX) { frames := 8, cells := 1, slots := 6, locals := 134 }).room = R
  have hRf : R.frames = 8 := by rw [← hRm]; rfl
  have hRl : R.locals = 134 := by rw [← hRm]; rfl
  have hRc : R.cells = 1 := by rw [← hRm]; rfl
  have hRs : R.slots = 6 := by rw [← hRm]; rfl
  clear hRm
  generalize hAe : va_A [(qc, .inr (5, [.ref q, .ref qn, .ref qk, .ref qa, .ref qd, .int (zB true)])), (qk, .inr (2, [.ref k1, .int (nI la), .int (nI ss), .int (nI ii), .int (nI ks), .ref k2, .ref k3, .ref k4, .long kb])), (qb, aJ G 1 bx)] s.heap.size = A at hD hE ⊢
  have hA : ∀ q : Nat, s.heap.size ≤ q → A q := fun q h => by rw [← hAe]; exact Or.inr h
  clear hAe
  have hS : va_S A s.heap s.heap [] := va_S.rf
  have hl := lv_entry ([.ref qc, .int x, .int y, .ref qb]) (n := 5) (Nat.le_of_ble_eq_true rfl)
  have hent := lg_entry_eq m ([.ref qc, .int x, .int y, .ref qb]) 5
  rw [← hav] at hent
  rw [hent]
  clear hent hav
  generalize (lg_sl ([.ref qc, .int x, .int y, .ref qb]) ++ List.replicate (5 - (lg_sl ([.ref qc, .int x, .int y, .ref qb])).length) Slot.unset).toArray = ls at hl ⊢
  have hl : lv_has ls 5 [(0, .ref qc), (1, .int x), (2, .int y), (3, .ref qb)] := hl
  generalize hQ : vx_MQ below _ _ args s 1 6 _ = Q
  have hP : va_P (gD G) vC [(qc, .inr (5, [.ref q, .ref qn, .ref qk, .ref qa, .ref qd, .int (zB true)])), (qk, .inr (2, [.ref k1, .int (nI la), .int (nI ss), .int (nI ii), .int (nI ks), .ref k2, .ref k3, .ref k4, .long kb])), (qb, aJ G 1 bx)] s.heap := hP
  obtain ⟨H, hH⟩ : ∃ H : Heap, H = s.heap := ⟨_, rfl⟩
  obtain ⟨locs, hlc⟩ : ∃ L : List Loc, L = [] := ⟨_, rfl⟩
  have hS : va_S A s.heap H locs := by rw [hH, hlc]; exact hS
  have hP : va_P (gD G) vC [(qc, .inr (5, [.ref q, .ref qn, .ref qk, .ref qa, .ref qd, .int (zB true)])), (qk, .inr (2, [.ref k1, .int (nI la), .int (nI ss), .int (nI ii), .int (nI ks), .ref k2, .ref k3, .ref k4, .long kb])), (qb, aJ G 1 bx)] H := by rw [hH]; exact hP
  have hgo : W p l e R s m args below meth c H locs 0 0 Q (F0 m 0 ls []) := by
    clear hH hlc
    refine lv_aload_n hx hb dL_go_0 rfl (lv_at hl 3 rfl) ?_
    refine lv_iconst (v := nI 0) hx hb dL_go_1 (by decide) ?_
    refine lv_aload_n hx hb dL_go_2 rfl (lv_at hl 0 rfl) ?_
    refine lv_iload_n hx hb dL_go_3 rfl (lv_at hl 1 rfl) ?_
    refine lv_iload_n hx hb dL_go_4 rfl (lv_at hl 2 rfl) ?_
    refine k_iX (ws2 := fun _ => [(qc, .inr (5, [.ref q, .ref qn, .ref qk, .ref qa, .ref qd, .int (zB true)])), (qk, .inr (2, [.ref k1, .int (nI la), .int (nI ss), .int (nI ii), .int (nI ks), .ref k2, .ref k3, .ref k4, .long kb])), (qb, aJ G 1 bx)]) (wr := [(qb, aJ G 1 bx)]) (k_runVX (n := 2) (As := [.int x, .int y]) (rest := [.int (nI 0), .ref qb]) hx hb hml hown hTX hP hD hK hS hA hE hDX (k_C_go_p l htr G H.size qc q qn qk qa qd k1 k2 k3 k4 la ss ii ks kb x y (show ss ≤ 64 from by omega) (show ii ≤ 8 from by omega) (show ∀ j i, j < ss → i < ii → x = nI j → ¬ y = nI i from hnp)) b531 b532 b533 b1 b534 (by decide +kernel) rfl rfl ⟨by rw [hRf]; exact Nat.le_of_ble_eq_true rfl, by rw [hRl]; exact Nat.le_of_ble_eq_true rfl⟩ [0, 1] rfl (by decide) 0 rfl rfl rfl rfl hl.1 rfl (Nat.le_of_ble_eq_true rfl) dL_go_5 ⟨by rw [hRc]; exact Nat.le_of_ble_eq_true rfl, by rw [hRs]; exact Nat.le_of_ble_eq_true rfl⟩) hP hD hS hA [0, 1] [2] [1, 2, 0] rfl rfl (by decide) (by decide) (fun u => rfl) (by decide) (fun u H locs q9 ce hw hP hD hS hce hcv hcl => ?_)
    have hP : va_P (gD G) vC [(qc, .inr (5, [.ref q, .ref qn, .ref qk, .ref qa, .ref qd, .int (zB true)])), (qk, .inr (2, [.ref k1, .int (nI la), .int (nI ss), .int (nI ii), .int (nI ks), .ref k2, .ref k3, .ref k4, .long kb])), (qb, aJ G 1 bx)] H := hP
    have hD : va_D A [(qc, .inr (5, [.ref q, .ref qn, .ref qk, .ref qa, .ref qd, .int (zB true)])), (qk, .inr (2, [.ref k1, .int (nI la), .int (nI ss), .int (nI ii), .int (nI ks), .ref k2, .ref k3, .ref k4, .long kb])), (qb, aJ G 1 bx)] := hD
    refine vx_catch (name := "java/lang/IndexOutOfBoundsException") hown [_] _ _ htab (fun z hz => by rw [List.mem_singleton.mp hz]; exact Or.inr ⟨by decide, "java/lang/IllegalStateException", htb _ b502, hNc⟩) (by decide) (by decide) (htb _ b530) (DX.use hDX (.castable "java/lang/IndexOutOfBoundsException" "java/lang/IndexOutOfBoundsException") (by decide)) hce hcv hcl ?_
    refine W.eq (g2 := F0 m 17 ls [.ref q9]) rfl ?_
    refine lv_astore (lv' := [(4, .ref q9), (0, .ref qc), (1, .int x), (2, .int y), (3, .ref qb)]) hx hb dL_go_17 hl (by decide) rfl (fun ls hl => ?_)
    refine lv_iconst (v := nI 2) hx hb dL_go_19 (by decide) ?_
    -- end 0
    rw [← hQ]
    exact vx_ret (k_iret hx hb hr hlocks rfl (u := bx) (⟨rfl, rfl⟩) hP hD hK hS dL_go_20)
  rw [hH, hlc] at hgo
  exact hgo
set_option maxRecDepth 100000 in
set_option maxHeartbeats 4000000 in
theorem k_L_output_p (l : Launch) (htr : l.stackTraces = false) (G : GG) (sz : Nat) (qc : Nat) (q : Nat) (qn : Nat) (qk : Nat) (qa : Nat) (qd : Nat) (k1 : Nat) (k2 : Nat) (k3 : Nat) (k4 : Nat) (la : Nat) (ss : Nat) (ii : Nat) (ks : Nat) (kb : Int64) (x : Int32) (y : Int32) (qb : Nat) (bx : Nat → Int64) (hz : ss ≤ 64) (hii : ii ≤ 8) (hnp : ∀ j i, j < ss → i < ii → x = nI j → ¬ y = nI i) : vx_Met l yL_output (Cond.codeWith yL_output cL_output 5 (some .int) [(0, 17, 20, 21), (0, 17, 24, 27)] :: TBX) { frames := 8, cells := 1, slots := 6, locals := 134 } (va_Pc [.ref qc, .int x, .int y, .ref qb] (befN "java/lang/IndexOutOfBoundsException" "java/lang/IllegalStateException" G [(qc, .inr (5, [.ref q, .ref qn, .ref qk, .ref qa, .ref qd, .int (zB true)])), (qk, .inr (2, [.ref k1, .int (nI la), .int (nI ss), .int (nI ii), .int (nI ks), .ref k2, .ref k3, .ref k4, .long kb])), (qb, aJ G 1 bx)] sz)) (va_Qi (fun (r : Int32) (u : (Nat → Int64)) => (nI 2 = r ∧ bx = u)) (fun u => aft G (va_A [(qc, .inr (5, [.ref q, .ref qn, .ref qk, .ref qa, .ref qd, .int (zB true)])), (qk, .inr (2, [.ref k1, .int (nI la), .int (nI ss), .int (nI ii), .int (nI ks), .ref k2, .ref k3, .ref k4, .long kb])), (qb, aJ G 1 bx)] sz) ((fun (u : (Nat → Int64)) => [(qc, .inr (5, [.ref q, .ref qn, .ref qk, .ref qa, .ref qd, .int (zB true)])), (qk, .inr (2, [.ref k1, .int (nI la), .int (nI ss), .int (nI ii), .int (nI ks), .ref k2, .ref k3, .ref k4, .long kb])), (qb, aJ G 1 u)]) u)) (va_A [(qc, .inr (5, [.ref q, .ref qn, .ref qk, .ref qa, .ref qd, .int (zB true)])), (qk, .inr (2, [.ref k1, .int (nI la), .int (nI ss), .int (nI ii), .int (nI ks), .ref k2, .ref k3, .ref k4, .long kb])), (qb, aJ G 1 bx)] sz)) (fun _ _ _ => False) 1 6 (va_A [(qc, .inr (5, [.ref q, .ref qn, .ref qk, .ref qa, .ref qd, .int (zB true)])), (qk, .inr (2, [.ref k1, .int (nI la), .int (nI ss), .int (nI ii), .int (nI ks), .ref k2, .ref k3, .ref k4, .long kb])), (qb, aJ G 1 bx)] sz) := by
  refine vx_ofWH (cc := cL_output) (maxL := 5) (ret := (some .int)) (by decide) rfl ?_
  intro p e s m args below meth c s₁ B hml hv
  obtain ⟨hav, ⟨⟨hsz, hP, hK, hD0, hE⟩, hDX⟩, hNc⟩ := hv
  have hx := B.exec
  have hb := B.bytes
  have hr := B.returns
  have hTX : ∀ w ∈ TBX, w.before args s = true := fun w h => atoms_spec (ws := Cond.codeWith yL_output cL_output 5 (some .int) [(0, 17, 20, 21), (0, 17, 24, 27)] :: TBX) B.pre w (List.mem_cons_of_mem _ h)
  have htb : ∀ w ∈ TB, w.before args s = true := fun w h => hTX w (List.mem_append_left _ h)
  have hown : s.vm.findClass "CircuitProverLaw" = some m.cls := findClass_of_methodNamed B.named
  have hlocks := B.notSynchronized
  have htab : c.exceptionTable.toList = tableOf [(0, 17, 20, 21), (0, 17, 24, 27)] := vx_table (x := yL_output) B (atoms_spec (ws := Cond.codeWith yL_output cL_output 5 (some .int) [(0, 17, 20, 21), (0, 17, 24, 27)] :: TBX) B.pre _ List.mem_cons_self)
  subst hsz
  have hD := hD0.self (sz := s.heap.size)
  clear hD0
  generalize hRm : (headSpec (Cond.codeWith yL_output cL_output 5 (some .int) [(0, 17, 20, 21), (0, 17, 24, 27)] :: TBX) { frames := 8, cells := 1, slots := 6, locals := 134 }).room = R
  have hRf : R.frames = 8 := by rw [← hRm]; rfl
  have hRl : R.locals = 134 := by rw [← hRm]; rfl
  have hRc : R.cells = 1 := by rw [← hRm]; rfl
  have hRs : R.slots = 6 := by rw [← hRm]; rfl
  clear hRm
  generalize hAe : va_A [(qc, .inr (5, [.ref q, .ref qn, .ref qk, .ref qa, .ref qd, .int (zB true)])), (qk, .inr (2, [.ref k1, .int (nI la), .int (nI ss), .int (nI ii), .int (nI ks), .ref k2, .ref k3, .ref k4, .long kb])), (qb, aJ G 1 bx)] s.heap.size = A at hD hE ⊢
  have hA : ∀ q : Nat, s.heap.size ≤ q → A q := fun q h => by rw [← hAe]; exact Or.inr h
  clear hAe
  have hS : va_S A s.heap s.heap [] := va_S.rf
  have hl := lv_entry ([.ref qc, .int x, .int y, .ref qb]) (n := 5) (Nat.le_of_ble_eq_true rfl)
  have hent := lg_entry_eq m ([.ref qc, .int x, .int y, .ref qb]) 5
  rw [← hav] at hent
  rw [hent]
  clear hent hav
  generalize (lg_sl ([.ref qc, .int x, .int y, .ref qb]) ++ List.replicate (5 - (lg_sl ([.ref qc, .int x, .int y, .ref qb])).length) Slot.unset).toArray = ls at hl ⊢
  have hl : lv_has ls 5 [(0, .ref qc), (1, .int x), (2, .int y), (3, .ref qb)] := hl
  generalize hQ : vx_MQ below _ _ args s 1 6 _ = Q
  have hP : va_P (gD G) vC [(qc, .inr (5, [.ref q, .ref qn, .ref qk, .ref qa, .ref qd, .int (zB true)])), (qk, .inr (2, [.ref k1, .int (nI la), .int (nI ss), .int (nI ii), .int (nI ks), .ref k2, .ref k3, .ref k4, .long kb])), (qb, aJ G 1 bx)] s.heap := hP
  obtain ⟨H, hH⟩ : ∃ H : Heap, H = s.heap := ⟨_, rfl⟩
  obtain ⟨locs, hlc⟩ : ∃ L : List Loc, L = [] := ⟨_, rfl⟩
  have hS : va_S A s.heap H locs := by rw [hH, hlc]; exact hS
  have hP : va_P (gD G) vC [(qc, .inr (5, [.ref q, .ref qn, .ref qk, .ref qa, .ref qd, .int (zB true)])), (qk, .inr (2, [.ref k1, .int (nI la), .int (nI ss), .int (nI ii), .int (nI ks), .ref k2, .ref k3, .ref k4, .long kb])), (qb, aJ G 1 bx)] H := by rw [hH]; exact hP
  have hgo : W p l e R s m args below meth c H locs 0 0 Q (F0 m 0 ls []) := by
    clear hH hlc
    refine lv_aload_n hx hb dL_output_0 rfl (lv_at hl 3 rfl) ?_
    refine lv_iconst (v := nI 0) hx hb dL_output_1 (by decide) ?_
    refine lv_aload_n hx hb dL_output_2 rfl (lv_at hl 0 rfl) ?_
    refine lv_iload_n hx hb dL_output_3 rfl (lv_at hl 1 rfl) ?_
    refine lv_iload_n hx hb dL_output_4 rfl (lv_at hl 2 rfl) ?_
    refine k_iX (ws2 := fun _ => [(qc, .inr (5, [.ref q, .ref qn, .ref qk, .ref qa, .ref qd, .int (zB true)])), (qk, .inr (2, [.ref k1, .int (nI la), .int (nI ss), .int (nI ii), .int (nI ks), .ref k2, .ref k3, .ref k4, .long kb])), (qb, aJ G 1 bx)]) (wr := [(qb, aJ G 1 bx)]) (k_runVX (n := 2) (As := [.int x, .int y]) (rest := [.int (nI 0), .ref qb]) hx hb hml hown hTX hP hD hK hS hA hE hDX (k_C_output_p l htr G H.size qc q qn qk qa qd k1 k2 k3 k4 la ss ii ks kb x y (show ss ≤ 64 from by omega) (show ii ≤ 8 from by omega) (show ∀ j i, j < ss → i < ii → x = nI j → ¬ y = nI i from hnp)) b567 b568 b569 b1 b570 (by decide +kernel) rfl rfl ⟨by rw [hRf]; exact Nat.le_of_ble_eq_true rfl, by rw [hRl]; exact Nat.le_of_ble_eq_true rfl⟩ [0, 1] rfl (by decide) 0 rfl rfl rfl rfl hl.1 rfl (Nat.le_of_ble_eq_true rfl) dL_output_5 ⟨by rw [hRc]; exact Nat.le_of_ble_eq_true rfl, by rw [hRs]; exact Nat.le_of_ble_eq_true rfl⟩) hP hD hS hA [0, 1] [2] [1, 2, 0] rfl rfl (by decide) (by decide) (fun u => rfl) (by decide) (fun u H locs q9 ce hw hP hD hS hce hcv hcl => ?_)
    have hP : va_P (gD G) vC [(qc, .inr (5, [.ref q, .ref qn, .ref qk, .ref qa, .ref qd, .int (zB true)])), (qk, .inr (2, [.ref k1, .int (nI la), .int (nI ss), .int (nI ii), .int (nI ks), .ref k2, .ref k3, .ref k4, .long kb])), (qb, aJ G 1 bx)] H := hP
    have hD : va_D A [(qc, .inr (5, [.ref q, .ref qn, .ref qk, .ref qa, .ref qd, .int (zB true)])), (qk, .inr (2, [.ref k1, .int (nI la), .int (nI ss), .int (nI ii), .int (nI ks), .ref k2, .ref k3, .ref k4, .long kb])), (qb, aJ G 1 bx)] := hD
    refine vx_catch (name := "java/lang/IndexOutOfBoundsException") hown [_] _ _ htab (fun z hz => by rw [List.mem_singleton.mp hz]; exact Or.inr ⟨by decide, "java/lang/IllegalStateException", htb _ b502, hNc⟩) (by decide) (by decide) (htb _ b530) (DX.use hDX (.castable "java/lang/IndexOutOfBoundsException" "java/lang/IndexOutOfBoundsException") (by decide)) hce hcv hcl ?_
    refine W.eq (g2 := F0 m 24 ls [.ref q9]) rfl ?_
    refine lv_astore (lv' := [(4, .ref q9), (0, .ref qc), (1, .int x), (2, .int y), (3, .ref qb)]) hx hb dL_output_24 hl (by decide) rfl (fun ls hl => ?_)
    refine lv_iconst (v := nI 2) hx hb dL_output_26 (by decide) ?_
    -- end 0
    rw [← hQ]
    exact vx_ret (k_iret hx hb hr hlocks rfl (u := bx) (⟨rfl, rfl⟩) hP hD hK hS dL_output_27)
  rw [hH, hlc] at hgo
  exact hgo
