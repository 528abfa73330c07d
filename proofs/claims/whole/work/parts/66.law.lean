set_option maxRecDepth 100000 in
set_option maxHeartbeats 4000000 in
theorem k_L_depth_ok (l : Launch) (htr : l.stackTraces = false) (G : GG) (sz : Nat) (qc : Nat) (q : Nat) (qn : Nat) (qk : Nat) (qa : Nat) (qd : Nat) (r1 : Nat) (r2 : Nat) (ns : Nat) (re : Int64) (sp : Int32) (lr : Nat) (rt : Nat) (vi : Int64) (qb : Nat) (bx : Nat → Int64) : vx_Met l yL_depth (Cond.codeWith yL_depth cL_depth 3 (some .int) [(0, 8, 11, 21)] :: TBX) { frames := 2, cells := 0, slots := 0, locals := 40 } (va_Pc [.ref qc, .ref qb] (befX G [(qc, .inr (5, [.ref q, .ref qn, .ref qk, .ref qa, .ref qd, .int (zB true)])), (qa, .inr (0, [.ref r1, .int (nI ns), .long re, .int sp, .ref r2, .int (nI lr), .int (nI rt), .long vi])), (qb, aJ G 1 bx)] sz)) (va_Qi (fun (r : Int32) (u : (Nat → Int64)) => (nI 0 = r ∧ va_up bx 0 (Int32.toInt64 (sp)) = u)) (fun u => aft G (va_A [(qc, .inr (5, [.ref q, .ref qn, .ref qk, .ref qa, .ref qd, .int (zB true)])), (qa, .inr (0, [.ref r1, .int (nI ns), .long re, .int sp, .ref r2, .int (nI lr), .int (nI rt), .long vi])), (qb, aJ G 1 bx)] sz) ((fun (u : (Nat → Int64)) => [(qc, .inr (5, [.ref q, .ref qn, .ref qk, .ref qa, .ref qd, .int (zB true)])), (qa, .inr (0, [.ref r1, .int (nI ns), .long re, .int sp, .ref r2, .int (nI lr), .int (nI rt), .long vi])), (qb, aJ G 1 u)]) u)) (va_A [(qc, .inr (5, [.ref q, .ref qn, .ref qk, .ref qa, .ref qd, .int (zB true)])), (qa, .inr (0, [.ref r1, .int (nI ns), .long re, .int sp, .ref r2, .int (nI lr), .int (nI rt), .long vi])), (qb, aJ G 1 bx)] sz)) (fun _ _ _ => False) 0 0 (va_A [(qc, .inr (5, [.ref q, .ref qn, .ref qk, .ref qa, .ref qd, .int (zB true)])), (qa, .inr (0, [.ref r1, .int (nI ns), .long re, .int sp, .ref r2, .int (nI lr), .int (nI rt), .long vi])), (qb, aJ G 1 bx)] sz) := by
  refine vx_ofWH (cc := cL_depth) (maxL := 3) (ret := (some .int)) (by decide) rfl ?_
  intro p e s m args below meth c s₁ B hml hv
  obtain ⟨hav, ⟨hsz, hP, hK, hD0, hE⟩, hDX⟩ := hv
  have hx := B.exec
  have hb := B.bytes
  have hr := B.returns
  have hTX : ∀ w ∈ TBX, w.before args s = true := fun w h => atoms_spec (ws := Cond.codeWith yL_depth cL_depth 3 (some .int) [(0, 8, 11, 21)] :: TBX) B.pre w (List.mem_cons_of_mem _ h)
  have htb : ∀ w ∈ TB, w.before args s = true := fun w h => hTX w (List.mem_append_left _ h)
  have hown : s.vm.findClass "CircuitProverLaw" = some m.cls := findClass_of_methodNamed B.named
  have hlocks := B.notSynchronized
  subst hsz
  have hD := hD0.self (sz := s.heap.size)
  clear hD0
  generalize hRm : (headSpec (Cond.codeWith yL_depth cL_depth 3 (some .int) [(0, 8, 11, 21)] :: TBX) { frames := 2, cells := 0, slots := 0, locals := 40 }).room = R
  have hRf : R.frames = 2 := by rw [← hRm]; rfl
  have hRl : R.locals = 40 := by rw [← hRm]; rfl
  have hRc : R.cells = 0 := by rw [← hRm]; rfl
  have hRs : R.slots = 0 := by rw [← hRm]; rfl
  clear hRm
  generalize hAe : va_A [(qc, .inr (5, [.ref q, .ref qn, .ref qk, .ref qa, .ref qd, .int (zB true)])), (qa, .inr (0, [.ref r1, .int (nI ns), .long re, .int sp, .ref r2, .int (nI lr), .int (nI rt), .long vi])), (qb, aJ G 1 bx)] s.heap.size = A at hD hE ⊢
  have hA : ∀ q : Nat, s.heap.size ≤ q → A q := fun q h => by rw [← hAe]; exact Or.inr h
  clear hAe
  have hS : va_S A s.heap s.heap [] := va_S.rf
  have hl := lv_entry ([.ref qc, .ref qb]) (n := 3) (Nat.le_of_ble_eq_true rfl)
  have hent := lg_entry_eq m ([.ref qc, .ref qb]) 3
  rw [← hav] at hent
  rw [hent]
  clear hent hav
  generalize (lg_sl ([.ref qc, .ref qb]) ++ List.replicate (3 - (lg_sl ([.ref qc, .ref qb])).length) Slot.unset).toArray = ls at hl ⊢
  have hl : lv_has ls 3 [(0, .ref qc), (1, .ref qb)] := hl
  generalize hQ : vx_MQ below _ _ args s 0 0 _ = Q
  have hP : va_P (gD G) vC [(qc, .inr (5, [.ref q, .ref qn, .ref qk, .ref qa, .ref qd, .int (zB true)])), (qa, .inr (0, [.ref r1, .int (nI ns), .long re, .int sp, .ref r2, .int (nI lr), .int (nI rt), .long vi])), (qb, aJ G 1 bx)] s.heap := hP
  obtain ⟨H, hH⟩ : ∃ H : Heap, H = s.heap := ⟨_, rfl⟩
  obtain ⟨locs, hlc⟩ : ∃ L : List Loc, L = [] := ⟨_, rfl⟩
  have hS : va_S A s.heap H locs := by rw [hH, hlc]; exact hS
  have hP : va_P (gD G) vC [(qc, .inr (5, [.ref q, .ref qn, .ref qk, .ref qa, .ref qd, .int (zB true)])), (qa, .inr (0, [.ref r1, .int (nI ns), .long re, .int sp, .ref r2, .int (nI lr), .int (nI rt), .long vi])), (qb, aJ G 1 bx)] H := by rw [hH]; exact hP
  have hgo : W p l e R s m args below meth c H locs 0 0 Q (F0 m 0 ls []) := by
    clear hH hlc
    refine lv_aload_n hx hb dL_depth_0 rfl (lv_at hl 1 rfl) ?_
    refine lv_iconst (v := nI 0) hx hb dL_depth_1 (by decide) ?_
    refine lv_aload_n hx hb dL_depth_2 rfl (lv_at hl 0 rfl) ?_
    refine k_i (ws2 := fun u => [(qc, .inr (5, [.ref q, .ref qn, .ref qk, .ref qa, .ref qd, .int (zB true)])), (qa, .inr (0, [.ref r1, .int (nI ns), .long re, .int sp, .ref r2, .int (nI lr), .int (nI rt), .long vi])), (qb, aJ G 1 bx)]) (wr := [(qb, aJ G 1 bx)]) (k_runV (n := 0) (As := []) (rest := [.int (nI 0), .ref qb]) hx hb hml hown htb hP hD hK hS hA hE (k_C_depth_ok l G H.size qc q qn qk qa qd r1 r2 ns re sp lr rt vi ) b583 b584 b585 b1 b586 (by decide +kernel) rfl rfl ⟨by rw [hRf]; exact Nat.le_of_ble_eq_true rfl, by rw [hRl]; exact Nat.le_of_ble_eq_true rfl⟩ [0, 1] rfl (by decide) 0 rfl rfl rfl rfl hl.1 rfl (Nat.le_of_ble_eq_true rfl) dL_depth_3 ⟨Nat.zero_le _, Nat.zero_le _⟩) hP hD hS hA [0, 1] [2] [1, 2, 0] rfl rfl (by decide) (by decide) (fun u => rfl) (by decide) (fun r u H locs hw hP hD hS => ?_)
    obtain ⟨rfl, rfl⟩ := hw
    have hP : va_P (gD G) vC [(qc, .inr (5, [.ref q, .ref qn, .ref qk, .ref qa, .ref qd, .int (zB true)])), (qa, .inr (0, [.ref r1, .int (nI ns), .long re, .int sp, .ref r2, .int (nI lr), .int (nI rt), .long vi])), (qb, aJ G 1 bx)] H := hP
    have hD : va_D A [(qc, .inr (5, [.ref q, .ref qn, .ref qk, .ref qa, .ref qd, .int (zB true)])), (qa, .inr (0, [.ref r1, .int (nI ns), .long re, .int sp, .ref r2, .int (nI lr), .int (nI rt), .long vi])), (qb, aJ G 1 bx)] := hD
    refine lv_i2l (v := Int32.toInt64 sp) hx hb dL_depth_6 rfl ?_
    refine k_last hx hb hK hP hD hS 2 rfl (k := 0) (v := Int32.toInt64 sp) (by omega) (by decide) dL_depth_7 (fun H locs hP hD hS => ?_)
    have hP : va_P (gD G) vC [(qc, .inr (5, [.ref q, .ref qn, .ref qk, .ref qa, .ref qd, .int (zB true)])), (qa, .inr (0, [.ref r1, .int (nI ns), .long re, .int sp, .ref r2, .int (nI lr), .int (nI rt), .long vi])), (qb, aJ G 1 (va_up bx 0 (Int32.toInt64 sp)))] H := hP
    have hD : va_D A [(qc, .inr (5, [.ref q, .ref qn, .ref qk, .ref qa, .ref qd, .int (zB true)])), (qa, .inr (0, [.ref r1, .int (nI ns), .long re, .int sp, .ref r2, .int (nI lr), .int (nI rt), .long vi])), (qb, aJ G 1 (va_up bx 0 (Int32.toInt64 sp)))] := hD
    refine lv_goto (tgt := 14) hx hb dL_depth_8 rfl ?_
    refine lv_iconst (v := nI 0) hx hb dL_depth_14 (by decide) ?_
    -- end 0
    rw [← hQ]
    exact vx_ret (k_iret hx hb hr hlocks rfl (u := (va_up bx 0 (Int32.toInt64 sp))) (⟨rfl, rfl⟩) hP hD hK hS dL_depth_15)
  rw [hH, hlc] at hgo
  exact hgo
set_option maxRecDepth 100000 in
set_option maxHeartbeats 4000000 in
theorem k_L_bound_ok (l : Launch) (htr : l.stackTraces = false) (G : GG) (sz : Nat) (qc : Nat) (q : Nat) (qn : Nat) (qk : Nat) (qa : Nat) (qd : Nat) (r1 : Nat) (r2 : Nat) (ns : Nat) (re : Int64) (sp : Int32) (lr : Nat) (rt : Nat) (vi : Int64) (qb : Nat) (bx : Nat → Int64) : vx_Met l yL_bound (Cond.codeWith yL_bound cL_bound 3 (some .int) [(0, 8, 11, 21)] :: TBX) { frames := 2, cells := 0, slots := 0, locals := 40 } (va_Pc [.ref qc, .ref qb] (befX G [(qc, .inr (5, [.ref q, .ref qn, .ref qk, .ref qa, .ref qd, .int (zB true)])), (qa, .inr (0, [.ref r1, .int (nI ns), .long re, .int sp, .ref r2, .int (nI lr), .int (nI rt), .long vi])), (qb, aJ G 1 bx)] sz)) (va_Qi (fun (r : Int32) (u : (Nat → Int64)) => (sp = (-1) ∧ nI 0 = r ∧ va_up bx 0 (Int32.toInt64 (nI lr)) = u) ∨ (¬ sp = (-1) ∧ nI 0 = r ∧ va_up bx 0 (Int32.toInt64 (-1)) = u)) (fun u => aft G (va_A [(qc, .inr (5, [.ref q, .ref qn, .ref qk, .ref qa, .ref qd, .int (zB true)])), (qa, .inr (0, [.ref r1, .int (nI ns), .long re, .int sp, .ref r2, .int (nI lr), .int (nI rt), .long vi])), (qb, aJ G 1 bx)] sz) ((fun (u : (Nat → Int64)) => [(qc, .inr (5, [.ref q, .ref qn, .ref qk, .ref qa, .ref qd, .int (zB true)])), (qa, .inr (0, [.ref r1, .int (nI ns), .long re, .int sp, .ref r2, .int (nI lr), .int (nI rt), .long vi])), (qb, aJ G 1 u)]) u)) (va_A [(qc, .inr (5, [.ref q, .ref qn, .ref qk, .ref qa, .ref qd, .int (zB true)])), (qa, .inr (0, [.ref r1, .int (nI ns), .long re, .int sp, .ref r2, .int (nI lr), .int (nI rt), .long vi])), (qb, aJ G 1 bx)] sz)) (fun _ _ _ => False) 0 0 (va_A [(qc, .inr (5, [.ref q, .ref qn, .ref qk, .ref qa, .ref qd, .int (zB true)])), (qa, .inr (0, [.ref r1, .int (nI ns), .long re, .int sp, .ref r2, .int (nI lr), .int (nI rt), .long vi])), (qb, aJ G 1 bx)] sz) := by
  refine vx_ofWH (cc := cL_bound) (maxL := 3) (ret := (some .int)) (by decide) rfl ?_
  intro p e s m args below meth c s₁ B hml hv
  obtain ⟨hav, ⟨hsz, hP, hK, hD0, hE⟩, hDX⟩ := hv
  have hx := B.exec
  have hb := B.bytes
  have hr := B.returns
  have hTX : ∀ w ∈ TBX, w.before args s = true := fun w h => atoms_spec (ws := Cond.codeWith yL_bound cL_bound 3 (some .int) [(0, 8, 11, 21)] :: TBX) B.pre w (List.mem_cons_of_mem _ h)
  have htb : ∀ w ∈ TB, w.before args s = true := fun w h => hTX w (List.mem_append_left _ h)
  have hown : s.vm.findClass "CircuitProverLaw" = some m.cls := findClass_of_methodNamed B.named
  have hlocks := B.notSynchronized
  subst hsz
  have hD := hD0.self (sz := s.heap.size)
  clear hD0
  generalize hRm : (headSpec (Cond.codeWith yL_bound cL_bound 3 (some .int) [(0, 8, 11, 21)] :: TBX) { frames := 2, cells := 0, slots := 0, locals := 40 }).room = R
  have hRf : R.frames = 2 := by rw [← hRm]; rfl
  have hRl : R.locals = 40 := by rw [← hRm]; rfl
  have hRc : R.cells = 0 := by rw [← hRm]; rfl
  have hRs : R.slots = 0 := by rw [← hRm]; rfl
  clear hRm
  generalize hAe : va_A [(qc, .inr (5, [.ref q, .ref qn, .ref qk, .ref qa, .ref qd, .int (zB true)])), (qa, .inr (0, [.ref r1, .int (nI ns), .long re, .int sp, .ref r2, .int (nI lr), .int (nI rt), .long vi])), (qb, aJ G 1 bx)] s.heap.size = A at hD hE ⊢
  have hA : ∀ q : Nat, s.heap.size ≤ q → A q := fun q h => by rw [← hAe]; exact Or.inr h
  clear hAe
  have hS : va_S A s.heap s.heap [] := va_S.rf
  have hl := lv_entry ([.ref qc, .ref qb]) (n := 3) (Nat.le_of_ble_eq_true rfl)
  have hent := lg_entry_eq m ([.ref qc, .ref qb]) 3
  rw [← hav] at hent
  rw [hent]
  clear hent hav
  generalize (lg_sl ([.ref qc, .ref qb]) ++ List.replicate (3 - (lg_sl ([.ref qc, .ref qb])).length) Slot.unset).toArray = ls at hl ⊢
  have hl : lv_has ls 3 [(0, .ref qc), (1, .ref qb)] := hl
  generalize hQ : vx_MQ below _ _ args s 0 0 _ = Q
  have hP : va_P (gD G) vC [(qc, .inr (5, [.ref q, .ref qn, .ref qk, .ref qa, .ref qd, .int (zB true)])), (qa, .inr (0, [.ref r1, .int (nI ns), .long re, .int sp, .ref r2, .int (nI lr), .int (nI rt), .long vi])), (qb, aJ G 1 bx)] s.heap := hP
  obtain ⟨H, hH⟩ : ∃ H : Heap, H = s.heap := ⟨_, rfl⟩
  obtain ⟨locs, hlc⟩ : ∃ L : List Loc, L = [] := ⟨_, rfl⟩
  have hS : va_S A s.heap H locs := by rw [hH, hlc]; exact hS
  have hP : va_P (gD G) vC [(qc, .inr (5, [.ref q, .ref qn, .ref qk, .ref qa, .ref qd, .int (zB true)])), (qa, .inr (0, [.ref r1, .int (nI ns), .long re, .int sp, .ref r2, .int (nI lr), .int (nI rt), .long vi])), (qb, aJ G 1 bx)] H := by rw [hH]; exact hP
  have hgo : W p l e R s m args below meth c H locs 0 0 Q (F0 m 0 ls []) := by
    clear hH hlc
    refine lv_aload_n hx hb dL_bound_0 rfl (lv_at hl 1 rfl) ?_
    refine lv_iconst (v := nI 0) hx hb dL_bound_1 (by decide) ?_
    refine lv_aload_n hx hb dL_bound_2 rfl (lv_at hl 0 rfl) ?_
    refine k_i (ws2 := fun u => [(qc, .inr (5, [.ref q, .ref qn, .ref qk, .ref qa, .ref qd, .int (zB true)])), (qa, .inr (0, [.ref r1, .int (nI ns), .long re, .int sp, .ref r2, .int (nI lr), .int (nI rt), .long vi])), (qb, aJ G 1 bx)]) (wr := [(qb, aJ G 1 bx)]) (k_runV (n := 0) (As := []) (rest := [.int (nI 0), .ref qb]) hx hb hml hown htb hP hD hK hS hA hE (k_C_bound_ok l G H.size qc q qn qk qa qd r1 r2 ns re sp lr rt vi ) b597 b598 b599 b1 b600 (by decide +kernel) rfl rfl ⟨by rw [hRf]; exact Nat.le_of_ble_eq_true rfl, by rw [hRl]; exact Nat.le_of_ble_eq_true rfl⟩ [0, 1] rfl (by decide) 0 rfl rfl rfl rfl hl.1 rfl (Nat.le_of_ble_eq_true rfl) dL_bound_3 ⟨Nat.zero_le _, Nat.zero_le _⟩) hP hD hS hA [0, 1] [2] [1, 2, 0] rfl rfl (by decide) (by decide) (fun u => rfl) (by decide) (fun r u H locs hw hP hD hS => ?_)
    rcases hw with ⟨hc3_e, rfl, rfl⟩ | ⟨hc3_e, rfl, rfl⟩
    · skip
      have hP : va_P (gD G) vC [(qc, .inr (5, [.ref q, .ref qn, .ref qk, .ref qa, .ref qd, .int (zB true)])), (qa, .inr (0, [.ref r1, .int (nI ns), .long re, .int sp, .ref r2, .int (nI lr), .int (nI rt), .long vi])), (qb, aJ G 1 bx)] H := hP
      have hD : va_D A [(qc, .inr (5, [.ref q, .ref qn, .ref qk, .ref qa, .ref qd, .int (zB true)])), (qa, .inr (0, [.ref r1, .int (nI ns), .long re, .int sp, .ref r2, .int (nI lr), .int (nI rt), .long vi])), (qb, aJ G 1 bx)] := hD
      refine lv_i2l (v := Int32.toInt64 (nI lr)) hx hb dL_bound_6 rfl ?_
      refine k_last hx hb hK hP hD hS 2 rfl (k := 0) (v := Int32.toInt64 (nI lr)) (by omega) (by decide) dL_bound_7 (fun H locs hP hD hS => ?_)
      have hP : va_P (gD G) vC [(qc, .inr (5, [.ref q, .ref qn, .ref qk, .ref qa, .ref qd, .int (zB true)])), (qa, .inr (0, [.ref r1, .int (nI ns), .long re, .int sp, .ref r2, .int (nI lr), .int (nI rt), .long vi])), (qb, aJ G 1 (va_up bx 0 (Int32.toInt64 (nI lr))))] H := hP
      have hD : va_D A [(qc, .inr (5, [.ref q, .ref qn, .ref qk, .ref qa, .ref qd, .int (zB true)])), (qa, .inr (0, [.ref r1, .int (nI ns), .long re, .int sp, .ref r2, .int (nI lr), .int (nI rt), .long vi])), (qb, aJ G 1 (va_up bx 0 (Int32.toInt64 (nI lr))))] := hD
      refine lv_goto (tgt := 14) hx hb dL_bound_8 rfl ?_
      refine lv_iconst (v := nI 0) hx hb dL_bound_14 (by decide) ?_
      -- end 0
      rw [← hQ]
      exact vx_ret (k_iret hx hb hr hlocks rfl (u := (va_up bx 0 (Int32.toInt64 (nI lr)))) (Or.inl ⟨hc3_e, rfl, rfl⟩) hP hD hK hS dL_bound_15)
    · skip
      have hP : va_P (gD G) vC [(qc, .inr (5, [.ref q, .ref qn, .ref qk, .ref qa, .ref qd, .int (zB true)])), (qa, .inr (0, [.ref r1, .int (nI ns), .long re, .int sp, .ref r2, .int (nI lr), .int (nI rt), .long vi])), (qb, aJ G 1 bx)] H := hP
      have hD : va_D A [(qc, .inr (5, [.ref q, .ref qn, .ref qk, .ref qa, .ref qd, .int (zB true)])), (qa, .inr (0, [.ref r1, .int (nI ns), .long re, .int sp, .ref r2, .int (nI lr), .int (nI rt), .long vi])), (qb, aJ G 1 bx)] := hD
      refine lv_i2l (v := Int32.toInt64 (-1)) hx hb dL_bound_6 rfl ?_
      refine k_last hx hb hK hP hD hS 2 rfl (k := 0) (v := Int32.toInt64 (-1)) (by omega) (by decide) dL_bound_7 (fun H locs hP hD hS => ?_)
      have hP : va_P (gD G) vC [(qc, .inr (5, [.ref q, .ref qn, .ref qk, .ref qa, .ref qd, .int (zB true)])), (qa, .inr (0, [.ref r1, .int (nI ns), .long re, .int sp, .ref r2, .int (nI lr), .int (nI rt), .long vi])), (qb, aJ G 1 (va_up bx 0 (Int32.toInt64 (-1))))] H := hP
      have hD : va_D A [(qc, .inr (5, [.ref q, .ref qn, .ref qk, .ref qa, .ref qd, .int (zB true)])), (qa, .inr (0, [.ref r1, .int (nI ns), .long re, .int sp, .ref r2, .int (nI lr), .int (nI rt), .long vi])), (qb, aJ G 1 (va_up bx 0 (Int32.toInt64 (-1))))] := hD
      refine lv_goto (tgt := 14) hx hb dL_bound_8 rfl ?_
      refine lv_iconst (v := nI 0) hx hb dL_bound_14 (by decide) ?_
      -- end 1
      rw [← hQ]
      exact vx_ret (k_iret hx hb hr hlocks rfl (u := (va_up bx 0 (Int32.toInt64 (-1)))) (Or.inr ⟨hc3_e, rfl, rfl⟩) hP hD hK hS dL_bound_15)
  rw [hH, hlc] at hgo
  exact hgo
set_option maxRecDepth 100000 in
set_option maxHeartbeats 4000000 in
theorem k_L_rounds_ok (l : Launch) (htr : l.stackTraces = false) (G : GG) (sz : Nat) (qc : Nat) (q : Nat) (qn : Nat) (qk : Nat) (qa : Nat) (qd : Nat) (r1 : Nat) (r2 : Nat) (ns : Nat) (re : Int64) (sp : Int32) (lr : Nat) (rt : Nat) (vi : Int64) (qb : Nat) (bx : Nat → Int64) : vx_Met l yL_rounds (Cond.codeWith yL_rounds cL_rounds 3 (some .int) [(0, 8, 11, 21)] :: TBX) { frames := 2, cells := 0, slots := 0, locals := 40 } (va_Pc [.ref qc, .ref qb] (befX G [(qc, .inr (5, [.ref q, .ref qn, .ref qk, .ref qa, .ref qd, .int (zB true)])), (qa, .inr (0, [.ref r1, .int (nI ns), .long re, .int sp, .ref r2, .int (nI lr), .int (nI rt), .long vi])), (qb, aJ G 1 bx)] sz)) (va_Qi (fun (r : Int32) (u : (Nat → Int64)) => (sp = (-1) ∧ nI 0 = r ∧ va_up bx 0 (Int32.toInt64 (nI rt)) = u) ∨ (¬ sp = (-1) ∧ nI 0 = r ∧ va_up bx 0 (Int32.toInt64 (-1)) = u)) (fun u => aft G (va_A [(qc, .inr (5, [.ref q, .ref qn, .ref qk, .ref qa, .ref qd, .int (zB true)])), (qa, .inr (0, [.ref r1, .int (nI ns), .long re, .int sp, .ref r2, .int (nI lr), .int (nI rt), .long vi])), (qb, aJ G 1 bx)] sz) ((fun (u : (Nat → Int64)) => [(qc, .inr (5, [.ref q, .ref qn, .ref qk, .ref qa, .ref qd, .int (zB true)])), (qa, .inr (0, [.ref r1, .int (nI ns), .long re, .int sp, .ref r2, .int (nI lr), .int (nI rt), .long vi])), (qb, aJ G 1 u)]) u)) (va_A [(qc, .inr (5, [.ref q, .ref qn, .ref qk, .ref qa, .ref qd, .int (zB true)])), (qa, .inr (0, [.ref r1, .int (nI ns), .long re, .int sp, .ref r2, .int (nI lr), .int (nI rt), .long vi])), (qb, aJ G 1 bx)] sz)) (fun _ _ _ => False) 0 0 (va_A [(qc, .inr (5, [.ref q, .ref qn, .ref qk, .ref qa, .ref qd, .int (zB true)])), (qa, .inr (0, [.ref r1, .int (nI ns), .long re, .int sp, .ref r2, .int (nI lr), .int (nI rt), .long vi])), (qb, aJ G 1 bx)] sz) := by
  refine vx_ofWH (cc := cL_rounds) (maxL := 3) (ret := (some .int)) (by decide) rfl ?_
  intro p e s m args below meth c s₁ B hml hv
  obtain ⟨hav, ⟨hsz, hP, hK, hD0, hE⟩, hDX⟩ := hv
  have hx := B.exec
  have hb := B.bytes
  have hr := B.returns
  have hTX : ∀ w ∈ TBX, w.before args s = true := fun w h => atoms_spec (ws := Cond.codeWith yL_rounds cL_rounds 3 (some .int) [(0, 8, 11, 21)] :: TBX) B.pre w (List.mem_cons_of_mem _ h)
  have htb : ∀ w ∈ TB, w.before args s = true := fun w h => hTX w (List.mem_append_left _ h)
  have hown : s.vm.findClass "CircuitProverLaw" = some m.cls := findClass_of_methodNamed B.named
  have hlocks := B.notSynchronized
  subst hsz
  have hD := hD0.self (sz := s.heap.size)
  clear hD0
  generalize hRm : (headSpec (Cond.codeWith yL_rounds cL_rounds 3 (some .int) [(0, 8, 11, 21)] :: TBX) { frames := 2, cells := 0, slots := 0, locals := 40 }).room = R
  have hRf : R.frames = 2 := by rw [← hRm]; rfl
  have hRl : R.locals = 40 := by rw [← hRm]; rfl
  have hRc : R.cells = 0 := by rw [← hRm]; rfl
  have hRs : R.slots = 0 := by rw [← hRm]; rfl
  clear hRm
  generalize hAe : va_A [(qc, .inr (5, [.ref q, .ref qn, .ref qk, .ref qa, .ref qd, .int (zB true)])), (qa, .inr (0, [.ref r1, .int (nI ns), .long re, .int sp, .ref r2, .int (nI lr), .int (nI rt), .long vi])), (qb, aJ G 1 bx)] s.heap.size = A at hD hE ⊢
  have hA : ∀ q : Nat, s.heap.size ≤ q → A q := fun q h => by rw [← hAe]; exact Or.inr h
  clear hAe
  have hS : va_S A s.heap s.heap [] := va_S.rf
  have hl := lv_entry ([.ref qc, .ref qb]) (n := 3) (Nat.le_of_ble_eq_true rfl)
  have hent := lg_entry_eq m ([.ref qc, .ref qb]) 3
  rw [← hav] at hent
  rw [hent]
  clear hent hav
  generalize (lg_sl ([.ref qc, .ref qb]) ++ List.replicate (3 - (lg_sl ([.ref qc, .ref qb])).length) Slot.unset).toArray = ls at hl ⊢
  have hl : lv_has ls 3 [(0, .ref qc), (1, .ref qb)] := hl
  generalize hQ : vx_MQ below _ _ args s 0 0 _ = Q
  have hP : va_P (gD G) vC [(qc, .inr (5, [.ref q, .ref qn, .ref qk, .ref qa, .ref qd, .int (zB true)])), (qa, .inr (0, [.ref r1, .int (nI ns), .long re, .int sp, .ref r2, .int (nI lr), .int (nI rt), .long vi])), (qb, aJ G 1 bx)] s.heap := hP
  obtain ⟨H, hH⟩ : ∃ H : Heap, H = s.heap := ⟨_, rfl⟩
  obtain ⟨locs, hlc⟩ : ∃ L : List Loc, L = [] := ⟨_, rfl⟩
  have hS : va_S A s.heap H locs := by rw [hH, hlc]; exact hS
  have hP : va_P (gD G) vC [(qc, .inr (5, [.ref q, .ref qn, .ref qk, .ref qa, .ref qd, .int (zB true)])), (qa, .inr (0, [.ref r1, .int (nI ns), .long re, .int sp, .ref r2, .int (nI lr), .int (nI rt), .long vi])), (qb, aJ G 1 bx)] H := by rw [hH]; exact hP
  have hgo : W p l e R s m args below meth c H locs 0 0 Q (F0 m 0 ls []) := by
    clear hH hlc
    refine lv_aload_n hx hb dL_rounds_0 rfl (lv_at hl 1 rfl) ?_
    refine lv_iconst (v := nI 0) hx hb dL_rounds_1 (by decide) ?_
    refine lv_aload_n hx hb dL_rounds_2 rfl (lv_at hl 0 rfl) ?_
    refine k_i (ws2 := fun u => [(qc, .inr (5, [.ref q, .ref qn, .ref qk, .ref qa, .ref qd, .int (zB true)])), (qa, .inr (0, [.ref r1, .int (nI ns), .long re, .int sp, .ref r2, .int (nI lr), .int (nI rt), .long vi])), (qb, aJ G 1 bx)]) (wr := [(qb, aJ G 1 bx)]) (k_runV (n := 0) (As := []) (rest := [.int (nI 0), .ref qb]) hx hb hml hown htb hP hD hK hS hA hE (k_C_rounds_ok l G H.size qc q qn qk qa qd r1 r2 ns re sp lr rt vi ) b604 b605 b606 b1 b607 (by decide +kernel) rfl rfl ⟨by rw [hRf]; exact Nat.le_of_ble_eq_true rfl, by rw [hRl]; exact Nat.le_of_ble_eq_true rfl⟩ [0, 1] rfl (by decide) 0 rfl rfl rfl rfl hl.1 rfl (Nat.le_of_ble_eq_true rfl) dL_rounds_3 ⟨Nat.zero_le _, Nat.zero_le _⟩) hP hD hS hA [0, 1] [2] [1, 2, 0] rfl rfl (by decide) (by decide) (fun u => rfl) (by decide) (fun r u H locs hw hP hD hS => ?_)
    rcases hw with ⟨hc3_e, rfl, rfl⟩ | ⟨hc3_e, rfl, rfl⟩
    · skip
      have hP : va_P (gD G) vC [(qc, .inr (5, [.ref q, .ref qn, .ref qk, .ref qa, .ref qd, .int (zB true)])), (qa, .inr (0, [.ref r1, .int (nI ns), .long re, .int sp, .ref r2, .int (nI lr), .int (nI rt), .long vi])), (qb, aJ G 1 bx)] H := hP
      have hD : va_D A [(qc, .inr (5, [.ref q, .ref qn, .ref qk, .ref qa, .ref qd, .int (zB true)])), (qa, .inr (0, [.ref r1, .int (nI ns), .long re, .int sp, .ref r2, .int (nI lr), .int (nI rt), .long vi])), (qb, aJ G 1 bx)] := hD
      refine lv_i2l (v := Int32.toInt64 (nI rt)) hx hb dL_rounds_6 rfl ?_
      refine k_last hx hb hK hP hD hS 2 rfl (k := 0) (v := Int32.toInt64 (nI rt)) (by omega) (by decide) dL_rounds_7 (fun H locs hP hD hS => ?_)
      have hP : va_P (gD G) vC [(qc, .inr (5, [.ref q, .ref qn, .ref qk, .ref qa, .ref qd, .int (zB true)])), (qa, .inr (0, [.ref r1, .int (nI ns), .long re, .int sp, .ref r2, .int (nI lr), .int (nI rt), .long vi])), (qb, aJ G 1 (va_up bx 0 (Int32.toInt64 (nI rt))))] H := hP
      have hD : va_D A [(qc, .inr (5, [.ref q, .ref qn, .ref qk, .ref qa, .ref qd, .int (zB true)])), (qa, .inr (0, [.ref r1, .int (nI ns), .long re, .int sp, .ref r2, .int (nI lr), .int (nI rt), .long vi])), (qb, aJ G 1 (va_up bx 0 (Int32.toInt64 (nI rt))))] := hD
      refine lv_goto (tgt := 14) hx hb dL_rounds_8 rfl ?_
      refine lv_iconst (v := nI 0) hx hb dL_rounds_14 (by decide) ?_
      -- end 0
      rw [← hQ]
      exact vx_ret (k_iret hx hb hr hlocks rfl (u := (va_up bx 0 (Int32.toInt64 (nI rt)))) (Or.inl ⟨hc3_e, rfl, rfl⟩) hP hD hK hS dL_rounds_15)
    · skip
      have hP : va_P (gD G) vC [(qc, .inr (5, [.ref q, .ref qn, .ref qk, .ref qa, .ref qd, .int (zB true)])), (qa, .inr (0, [.ref r1, .int (nI ns), .long re, .int sp, .ref r2, .int (nI lr), .int (nI rt), .long vi])), (qb, aJ G 1 bx)] H := hP
      have hD : va_D A [(qc, .inr (5, [.ref q, .ref qn, .ref qk, .ref qa, .ref qd, .int (zB true)])), (qa, .inr (0, [.ref r1, .int (nI ns), .long re, .int sp, .ref r2, .int (nI lr), .int (nI rt), .long vi])), (qb, aJ G 1 bx)] := hD
      refine lv_i2l (v := Int32.toInt64 (-1)) hx hb dL_rounds_6 rfl ?_
      refine k_last hx hb hK hP hD hS 2 rfl (k := 0) (v := Int32.toInt64 (-1)) (by omega) (by decide) dL_rounds_7 (fun H locs hP hD hS => ?_)
      have hP : va_P (gD G) vC [(qc, .inr (5, [.ref q, .ref qn, .ref qk, .ref qa, .ref qd, .int (zB true)])), (qa, .inr (0, [.ref r1, .int (nI ns), .long re, .int sp, .ref r2, .int (nI lr), .int (nI rt), .long vi])), (qb, aJ G 1 (va_up bx 0 (Int32.toInt64 (-1))))] H := hP
      have hD : va_D A [(qc, .inr (5, [.ref q, .ref qn, .ref qk, .ref qa, .ref qd, .int (zB true)])), (qa, .inr (0, [.ref r1, .int (nI ns), .long re, .int sp, .ref r2, .int (nI lr), .int (nI rt), .long vi])), (qb, aJ G 1 (va_up bx 0 (Int32.toInt64 (-1))))] := hD
      refine lv_goto (tgt := 14) hx hb dL_rounds_8 rfl ?_
      refine lv_iconst (v := nI 0) hx hb dL_rounds_14 (by decide) ?_
      -- end 1
      rw [← hQ]
      exact vx_ret (k_iret hx hb hr hlocks rfl (u := (va_up bx 0 (Int32.toInt64 (-1)))) (Or.inr ⟨hc3_e, rfl, rfl⟩) hP hD hK hS dL_rounds_15)
  rw [hH, hlc] at hgo
  exact hgo
set_option maxRecDepth 100000 in
set_option maxHeartbeats 4000000 in
theorem k_L_safe_ok (l : Launch) (htr : l.stackTraces = false) (G : GG) (sz : Nat) (qc : Nat) (q : Nat) (qn : Nat) (qk : Nat) (qa : Nat) (qd : Nat) (r1 : Nat) (r2 : Nat) (ns : Nat) (re : Int64) (sp : Int32) (lr : Nat) (rt : Nat) (vi : Int64) (qb : Nat) (bx : Nat → Int64) : vx_Met l yL_safe (Cond.codeWith yL_safe cL_safe 3 (some .int) [(0, 15, 18, 21)] :: TBX) { frames := 2, cells := 0, slots := 0, locals := 40 } (va_Pc [.ref qc, .ref qb] (befX G [(qc, .inr (5, [.ref q, .ref qn, .ref qk, .ref qa, .ref qd, .int (zB true)])), (qa, .inr (0, [.ref r1, .int (nI ns), .long re, .int sp, .ref r2, .int (nI lr), .int (nI rt), .long vi])), (qb, aJ G 1 bx)] sz)) (va_Qi (fun (r : Int32) (u : (Nat → Int64)) => (sp = (-1) ∧ nI 0 = r ∧ va_up bx 0 (1) = u) ∨ (¬ sp = (-1) ∧ nI 0 = r ∧ va_up bx 0 (0) = u)) (fun u => aft G (va_A [(qc, .inr (5, [.ref q, .ref qn, .ref qk, .ref qa, .ref qd, .int (zB true)])), (qa, .inr (0, [.ref r1, .int (nI ns), .long re, .int sp, .ref r2, .int (nI lr), .int (nI rt), .long vi])), (qb, aJ G 1 bx)] sz) ((fun (u : (Nat → Int64)) => [(qc, .inr (5, [.ref q, .ref qn, .ref qk, .ref qa, .ref qd, .int (zB true)])), (qa, .inr (0, [.ref r1, .int (nI ns), .long re, .int sp, .ref r2, .int (nI lr), .int (nI rt), .long vi])), (qb, aJ G 1 u)]) u)) (va_A [(qc, .inr (5, [.ref q, .ref qn, .ref qk, .ref qa, .ref qd, .int (zB true)])), (qa, .inr (0, [.ref r1, .int (nI ns), .long re, .int sp, .ref r2, .int (nI lr), .int (nI rt), .long vi])), (qb, aJ G 1 bx)] sz)) (fun _ _ _ => False) 0 0 (va_A [(qc, .inr (5, [.ref q, .ref qn, .ref qk, .ref qa, .ref qd, .int (zB true)])), (qa, .inr (0, [.ref r1, .int (nI ns), .long re, .int sp, .ref r2, .int (nI lr), .int (nI rt), .long vi])), (qb, aJ G 1 bx)] sz) := by
  refine vx_ofWH (cc := cL_safe) (maxL := 3) (ret := (some .int)) (by decide) rfl ?_
  intro p e s m args below meth c s₁ B hml hv
  obtain ⟨hav, ⟨hsz, hP, hK, hD0, hE⟩, hDX⟩ := hv
  have hx := B.exec
  have hb := B.bytes
  have hr := B.returns
  have hTX : ∀ w ∈ TBX, w.before args s = true := fun w h => atoms_spec (ws := Cond.codeWith yL_safe cL_safe 3 (some .int) [(0, 15, 18, 21)] :: TBX) B.pre w (List.mem_cons_of_mem _ h)
  have htb : ∀ w ∈ TB, w.before args s = true := fun w h => hTX w (List.mem_append_left _ h)
  have hown : s.vm.findClass "CircuitProverLaw" = some m.cls := findClass_of_methodNamed B.named
  have hlocks := B.notSynchronized
  subst hsz
  have hD := hD0.self (sz := s.heap.size)
  clear hD0
  generalize hRm : (headSpec (Cond.codeWith yL_safe cL_safe 3 (some .int) [(0, 15, 18, 21)] :: TBX) { frames := 2, cells := 0, slots := 0, locals := 40 }).room = R
  have hRf : R.frames = 2 := by rw [← hRm]; rfl
  have hRl : R.locals = 40 := by rw [← hRm]; rfl
  have hRc : R.cells = 0 := by rw [← hRm]; rfl
  have hRs : R.slots = 0 := by rw [← hRm]; rfl
  clear hRm
  generalize hAe : va_A [(qc, .inr (5, [.ref q, .ref qn, .ref qk, .ref qa, .ref qd, .int (zB true)])), (qa, .inr (0, [.ref r1, .int (nI ns), .long re, .int sp, .ref r2, .int (nI lr), .int (nI rt), .long vi])), (qb, aJ G 1 bx)] s.heap.size = A at hD hE ⊢
  have hA : ∀ q : Nat, s.heap.size ≤ q → A q := fun q h => by rw [← hAe]; exact Or.inr h
  clear hAe
  have hS : va_S A s.heap s.heap [] := va_S.rf
  have hl := lv_entry ([.ref qc, .ref qb]) (n := 3) (Nat.le_of_ble_eq_true rfl)
  have hent := lg_entry_eq m ([.ref qc, .ref qb]) 3
  rw [← hav] at hent
  rw [hent]
  clear hent hav
  generalize (lg_sl ([.ref qc, .ref qb]) ++ List.replicate (3 - (lg_sl ([.ref qc, .ref qb])).length) Slot.unset).toArray = ls at hl ⊢
  have hl : lv_has ls 3 [(0, .ref qc), (1, .ref qb)] := hl
  generalize hQ : vx_MQ below _ _ args s 0 0 _ = Q
  have hP : va_P (gD G) vC [(qc, .inr (5, [.ref q, .ref qn, .ref qk, .ref qa, .ref qd, .int (zB true)])), (qa, .inr (0, [.ref r1, .int (nI ns), .long re, .int sp, .ref r2, .int (nI lr), .int (nI rt), .long vi])), (qb, aJ G 1 bx)] s.heap := hP
  obtain ⟨H, hH⟩ : ∃ H : Heap, H = s.heap := ⟨_, rfl⟩
  obtain ⟨locs, hlc⟩ : ∃ L : List Loc, L = [] := ⟨_, rfl⟩
  have hS : va_S A s.heap H locs := by rw [hH, hlc]; exact hS
  have hP : va_P (gD G) vC [(qc, .inr (5, [.ref q, .ref qn, .ref qk, .ref qa, .ref qd, .int (zB true)])), (qa, .inr (0, [.ref r1, .int (nI ns), .long re, .int sp, .ref r2, .int (nI lr), .int (nI rt), .long vi])), (qb, aJ G 1 bx)] H := by rw [hH]; exact hP
  have hgo : W p l e R s m args below meth c H locs 0 0 Q (F0 m 0 ls []) := by
    clear hH hlc
    refine lv_aload_n hx hb dL_safe_0 rfl (lv_at hl 1 rfl) ?_
    refine lv_iconst (v := nI 0) hx hb dL_safe_1 (by decide) ?_
    refine lv_aload_n hx hb dL_safe_2 rfl (lv_at hl 0 rfl) ?_
    refine k_i (ws2 := fun u => [(qc, .inr (5, [.ref q, .ref qn, .ref qk, .ref qa, .ref qd, .int (zB true)])), (qa, .inr (0, [.ref r1, .int (nI ns), .long re, .int sp, .ref r2, .int (nI lr), .int (nI rt), .long vi])), (qb, aJ G 1 bx)]) (wr := [(qb, aJ G 1 bx)]) (k_runV (n := 0) (As := []) (rest := [.int (nI 0), .ref qb]) hx hb hml hown htb hP hD hK hS hA hE (k_C_safe_ok l G H.size qc q qn qk qa qd r1 r2 ns re sp lr rt vi ) b575 b576 b577 b1 b578 (by decide +kernel) rfl rfl ⟨by rw [hRf]; exact Nat.le_of_ble_eq_true rfl, by rw [hRl]; exact Nat.le_of_ble_eq_true rfl⟩ [0, 1] rfl (by decide) 0 rfl rfl rfl rfl hl.1 rfl (Nat.le_of_ble_eq_true rfl) dL_safe_3 ⟨Nat.zero_le _, Nat.zero_le _⟩) hP hD hS hA [0, 1] [2] [1, 2, 0] rfl rfl (by decide) (by decide) (fun u => rfl) (by decide) (fun r u H locs hw hP hD hS => ?_)
    rcases hw with ⟨hc3_e, rfl, rfl⟩ | ⟨hc3_e, rfl, rfl⟩
    · skip
      have hP : va_P (gD G) vC [(qc, .inr (5, [.ref q, .ref qn, .ref qk, .ref qa, .ref qd, .int (zB true)])), (qa, .inr (0, [.ref r1, .int (nI ns), .long re, .int sp, .ref r2, .int (nI lr), .int (nI rt), .long vi])), (qb, aJ G 1 bx)] H := hP
      have hD : va_D A [(qc, .inr (5, [.ref q, .ref qn, .ref qk, .ref qa, .ref qd, .int (zB true)])), (qa, .inr (0, [.ref r1, .int (nI ns), .long re, .int sp, .ref r2, .int (nI lr), .int (nI rt), .long vi])), (qb, aJ G 1 bx)] := hD
      refine lv_if_eq (tgt := 13) hx hb dL_safe_6 rfl (fun h6 => (by revert h6; first | decide | exact fun z => absurd z (by decide) | exact fun z => z.elim (by decide))) (fun _ => ?_)
      refine lv_lconst (v := 1) hx hb dL_safe_9 (by decide) ?_
      refine lv_goto (tgt := 14) hx hb dL_safe_10 rfl ?_
      refine k_last hx hb hK hP hD hS 2 rfl (k := 0) (v := 1) (by omega) (by decide) dL_safe_14 (fun H locs hP hD hS => ?_)
      have hP : va_P (gD G) vC [(qc, .inr (5, [.ref q, .ref qn, .ref qk, .ref qa, .ref qd, .int (zB true)])), (qa, .inr (0, [.ref r1, .int (nI ns), .long re, .int sp, .ref r2, .int (nI lr), .int (nI rt), .long vi])), (qb, aJ G 1 (va_up bx 0 1))] H := hP
      have hD : va_D A [(qc, .inr (5, [.ref q, .ref qn, .ref qk, .ref qa, .ref qd, .int (zB true)])), (qa, .inr (0, [.ref r1, .int (nI ns), .long re, .int sp, .ref r2, .int (nI lr), .int (nI rt), .long vi])), (qb, aJ G 1 (va_up bx 0 1))] := hD
      refine lv_goto (tgt := 21) hx hb dL_safe_15 rfl ?_
      refine lv_iconst (v := nI 0) hx hb dL_safe_21 (by decide) ?_
      -- end 0
      rw [← hQ]
      exact vx_ret (k_iret hx hb hr hlocks rfl (u := (va_up bx 0 1)) (Or.inl ⟨hc3_e, rfl, rfl⟩) hP hD hK hS dL_safe_22)
    · skip
      have hP : va_P (gD G) vC [(qc, .inr (5, [.ref q, .ref qn, .ref qk, .ref qa, .ref qd, .int (zB true)])), (qa, .inr (0, [.ref r1, .int (nI ns), .long re, .int sp, .ref r2, .int (nI lr), .int (nI rt), .long vi])), (qb, aJ G 1 bx)] H := hP
      have hD : va_D A [(qc, .inr (5, [.ref q, .ref qn, .ref qk, .ref qa, .ref qd, .int (zB true)])), (qa, .inr (0, [.ref r1, .int (nI ns), .long re, .int sp, .ref r2, .int (nI lr), .int (nI rt), .long vi])), (qb, aJ G 1 bx)] := hD
      refine lv_if_eq (tgt := 13) hx hb dL_safe_6 rfl (fun _ => ?_) (fun h6 => (by revert h6; first | decide | exact fun z => absurd z (by decide) | exact fun z => z.elim (by decide)))
      refine lv_lconst (v := 0) hx hb dL_safe_13 (by decide) ?_
      refine k_last hx hb hK hP hD hS 2 rfl (k := 0) (v := 0) (by omega) (by decide) dL_safe_14 (fun H locs hP hD hS => ?_)
      have hP : va_P (gD G) vC [(qc, .inr (5, [.ref q, .ref qn, .ref qk, .ref qa, .ref qd, .int (zB true)])), (qa, .inr (0, [.ref r1, .int (nI ns), .long re, .int sp, .ref r2, .int (nI lr), .int (nI rt), .long vi])), (qb, aJ G 1 (va_up bx 0 0))] H := hP
      have hD : va_D A [(qc, .inr (5, [.ref q, .ref qn, .ref qk, .ref qa, .ref qd, .int (zB true)])), (qa, .inr (0, [.ref r1, .int (nI ns), .long re, .int sp, .ref r2, .int (nI lr), .int (nI rt), .long vi])), (qb, aJ G 1 (va_up bx 0 0))] := hD
      refine lv_goto (tgt := 21) hx hb dL_safe_15 rfl ?_
      refine lv_iconst (v := nI 0) hx hb dL_safe_21 (by decide) ?_
      -- end 1
      rw [← hQ]
      exact vx_ret (k_iret hx hb hr hlocks rfl (u := (va_up bx 0 0)) (Or.inr ⟨hc3_e, rfl, rfl⟩) hP hD hK hS dL_safe_22)
  rw [hH, hlc] at hgo
  exact hgo
set_option maxRecDepth 100000 in
set_option maxHeartbeats 4000000 in
theorem k_L_go_ok (l : Launch) (htr : l.stackTraces = false) (G : GG) (sz : Nat) (qc : Nat) (q : Nat) (qn : Nat) (qk : Nat) (qa : Nat) (qd : Nat) (k1 : Nat) (k2 : Nat) (k3 : Nat) (k4 : Nat) (la : Nat) (ss : Nat) (ii : Nat) (ks : Nat) (kb : Int64) (kn : Nat → Int64) (sx : Nat) (i : Nat) (qb : Nat) (bx : Nat → Int64) (hz : ss ≤ 64) (hii : ii ≤ 8) (hsx : sx < ss) (hi : i < ii) (hla : la ≤ 6) : vx_Met l yL_go (Cond.codeWith yL_go cL_go 5 (some .int) [(0, 10, 13, 21), (0, 10, 17, 27)] :: TBX) { frames := 3, cells := 0, slots := 0, locals := 68 } (va_Pc [.ref qc, .int (nI sx), .int (nI i), .ref qb] (befX G [(qc, .inr (5, [.ref q, .ref qn, .ref qk, .ref qa, .ref qd, .int (zB true)])), (qk, .inr (2, [.ref k1, .int (nI la), .int (nI ss), .int (nI ii), .int (nI ks), .ref k2, .ref k3, .ref k4, .long kb])), (k2, aJ G 48 kn), (qb, aJ G 1 bx)] sz)) (va_Qi (fun (r : Int32) (u : (Nat → Int64)) => (nI 0 = r ∧ va_up bx 0 (Int32.toInt64 (nI (nxC kn la sx i))) = u)) (fun u => aft G (va_A [(qc, .inr (5, [.ref q, .ref qn, .ref qk, .ref qa, .ref qd, .int (zB true)])), (qk, .inr (2, [.ref k1, .int (nI la), .int (nI ss), .int (nI ii), .int (nI ks), .ref k2, .ref k3, .ref k4, .long kb])), (k2, aJ G 48 kn), (qb, aJ G 1 bx)] sz) ((fun (u : (Nat → Int64)) => [(qc, .inr (5, [.ref q, .ref qn, .ref qk, .ref qa, .ref qd, .int (zB true)])), (qk, .inr (2, [.ref k1, .int (nI la), .int (nI ss), .int (nI ii), .int (nI ks), .ref k2, .ref k3, .ref k4, .long kb])), (k2, aJ G 48 kn), (qb, aJ G 1 u)]) u)) (va_A [(qc, .inr (5, [.ref q, .ref qn, .ref qk, .ref qa, .ref qd, .int (zB true)])), (qk, .inr (2, [.ref k1, .int (nI la), .int (nI ss), .int (nI ii), .int (nI ks), .ref k2, .ref k3, .ref k4, .long kb])), (k2, aJ G 48 kn), (qb, aJ G 1 bx)] sz)) (fun _ _ _ => False) 0 0 (va_A [(qc, .inr (5, [.ref q, .ref qn, .ref qk, .ref qa, .ref qd, .int (zB true)])), (qk, .inr (2, [.ref k1, .int (nI la), .int (nI ss), .int (nI ii), .int (nI ks), .ref k2, .ref k3, .ref k4, .long kb])), (k2, aJ G 48 kn), (qb, aJ G 1 bx)] sz) := by
  refine vx_ofWH (cc := cL_go) (maxL := 5) (ret := (some .int)) (by decide) rfl ?_
  intro p e s m args below meth c s₁ B hml hv
  obtain ⟨hav, ⟨hsz, hP, hK, hD0, hE⟩, hDX⟩ := hv
  have hx := B.exec
  have hb := B.bytes
  have hr := B.returns
  have hTX : ∀ w ∈ TBX, w.before args s = true := fun w h => atoms_spec (ws := Cond.codeWith yL_go cL_go 5 (some .int) [(0, 10, 13, 21), (0, 10, 17, 27)] :: TBX) B.pre w (List.mem_cons_of_mem _ h)
  have htb : ∀ w ∈ TB, w.before args s = true := fun w h => hTX w (List.mem_append_left _ h)
  have hown : s.vm.findClass "CircuitProverLaw" = some m.cls := findClass_of_methodNamed B.named
  have hlocks := B.notSynchronized
  subst hsz
  have hD := hD0.self (sz := s.heap.size)
  clear hD0
  generalize hRm : (headSpec (Cond.codeWith yL_go cL_go 5 (some .int) [(0, 10, 13, 21), (0, 10, 17, 27)] :: TBX) { frames := 3, cells := 0, slots := 0, locals := 68 }).room = R
  have hRf : R.frames = 3 := by rw [← hRm]; rfl
  have hRl : R.locals = 68 := by rw [← hRm]; rfl
  have hRc : R.cells = 0 := by rw [← hRm]; rfl
  have hRs : R.slots = 0 := by rw [← hRm]; rfl
  clear hRm
  generalize hAe : va_A [(qc, .inr (5, [.ref q, .ref qn, .ref qk, .ref qa, .ref qd, .int (zB true)])), (qk, .inr (2, [.ref k1, .int (nI la), .int (nI ss), .int (nI ii), .int (nI ks), .ref k2, .ref k3, .ref k4, .long kb])), (k2, aJ G 48 kn), (qb, aJ G 1 bx)] s.heap.size = A at hD hE ⊢
  have hA : ∀ q : Nat, s.heap.size ≤ q → A q := fun q h => by rw [← hAe]; exact Or.inr h
  clear hAe
  have hS : va_S A s.heap s.heap [] := va_S.rf
  have hl := lv_entry ([.ref qc, .int (nI sx), .int (nI i), .ref qb]) (n := 5) (Nat.le_of_ble_eq_true rfl)
  have hent := lg_entry_eq m ([.ref qc, .int (nI sx), .int (nI i), .ref qb]) 5
  rw [← hav] at hent
  rw [hent]
  clear hent hav
  generalize (lg_sl ([.ref qc, .int (nI sx), .int (nI i), .ref qb]) ++ List.replicate (5 - (lg_sl ([.ref qc, .int (nI sx), .int (nI i), .ref qb])).length) Slot.unset).toArray = ls at hl ⊢
  have hl : lv_has ls 5 [(0, .ref qc), (1, .int (nI sx)), (2, .int (nI i)), (3, .ref qb)] := hl
  generalize hQ : vx_MQ below _ _ args s 0 0 _ = Q
  have hP : va_P (gD G) vC [(qc, .inr (5, [.ref q, .ref qn, .ref qk, .ref qa, .ref qd, .int (zB true)])), (qk, .inr (2, [.ref k1, .int (nI la), .int (nI ss), .int (nI ii), .int (nI ks), .ref k2, .ref k3, .ref k4, .long kb])), (k2, aJ G 48 kn), (qb, aJ G 1 bx)] s.heap := hP
  obtain ⟨H, hH⟩ : ∃ H : Heap, H = s.heap := ⟨_, rfl⟩
  obtain ⟨locs, hlc⟩ : ∃ L : List Loc, L = [] := ⟨_, rfl⟩
  have hS : va_S A s.heap H locs := by rw [hH, hlc]; exact hS
  have hP : va_P (gD G) vC [(qc, .inr (5, [.ref q, .ref qn, .ref qk, .ref qa, .ref qd, .int (zB true)])), (qk, .inr (2, [.ref k1, .int (nI la), .int (nI ss), .int (nI ii), .int (nI ks), .ref k2, .ref k3, .ref k4, .long kb])), (k2, aJ G 48 kn), (qb, aJ G 1 bx)] H := by rw [hH]; exact hP
  have hgo : W p l e R s m args below meth c H locs 0 0 Q (F0 m 0 ls []) := by
    clear hH hlc
    refine lv_aload_n hx hb dL_go_0 rfl (lv_at hl 3 rfl) ?_
    refine lv_iconst (v := nI 0) hx hb dL_go_1 (by decide) ?_
    refine lv_aload_n hx hb dL_go_2 rfl (lv_at hl 0 rfl) ?_
    refine lv_iload_n hx hb dL_go_3 rfl (lv_at hl 1 rfl) ?_
    refine lv_iload_n hx hb dL_go_4 rfl (lv_at hl 2 rfl) ?_
    refine k_i (ws2 := fun u => [(qc, .inr (5, [.ref q, .ref qn, .ref qk, .ref qa, .ref qd, .int (zB true)])), (qk, .inr (2, [.ref k1, .int (nI la), .int (nI ss), .int (nI ii), .int (nI ks), .ref k2, .ref k3, .ref k4, .long kb])), (k2, aJ G 48 kn), (qb, aJ G 1 bx)]) (wr := [(qb, aJ G 1 bx)]) (k_runV (n := 2) (As := [.int (nI sx), .int (nI i)]) (rest := [.int (nI 0), .ref qb]) hx hb hml hown htb hP hD hK hS hA hE (k_C_go_ok l G H.size qc q qn qk qa qd k1 k2 k3 k4 la ss ii ks kb kn sx i (show ss ≤ 64 from by omega) (show ii ≤ 8 from by omega) (show sx < ss from by omega) (show i < ii from by omega) (show la ≤ 6 from by omega)) b531 b532 b533 b1 b534 (by decide +kernel) rfl rfl ⟨by rw [hRf]; exact Nat.le_of_ble_eq_true rfl, by rw [hRl]; exact Nat.le_of_ble_eq_true rfl⟩ [0, 1, 2] rfl (by decide) 0 rfl rfl rfl rfl hl.1 rfl (Nat.le_of_ble_eq_true rfl) dL_go_5 ⟨Nat.zero_le _, Nat.zero_le _⟩) hP hD hS hA [0, 1, 2] [3] [1, 2, 3, 0] rfl rfl (by decide) (by decide) (fun u => rfl) (by decide) (fun r u H locs hw hP hD hS => ?_)
    obtain ⟨rfl, rfl⟩ := hw
    have hP : va_P (gD G) vC [(qc, .inr (5, [.ref q, .ref qn, .ref qk, .ref qa, .ref qd, .int (zB true)])), (qk, .inr (2, [.ref k1, .int (nI la), .int (nI ss), .int (nI ii), .int (nI ks), .ref k2, .ref k3, .ref k4, .long kb])), (k2, aJ G 48 kn), (qb, aJ G 1 bx)] H := hP
    have hD : va_D A [(qc, .inr (5, [.ref q, .ref qn, .ref qk, .ref qa, .ref qd, .int (zB true)])), (qk, .inr (2, [.ref k1, .int (nI la), .int (nI ss), .int (nI ii), .int (nI ks), .ref k2, .ref k3, .ref k4, .long kb])), (k2, aJ G 48 kn), (qb, aJ G 1 bx)] := hD
    refine lv_i2l (v := Int32.toInt64 (nI (nxC kn la sx i))) hx hb dL_go_8 rfl ?_
    refine k_last hx hb hK hP hD hS 3 rfl (k := 0) (v := Int32.toInt64 (nI (nxC kn la sx i))) (by omega) (by decide) dL_go_9 (fun H locs hP hD hS => ?_)
    have hP : va_P (gD G) vC [(qc, .inr (5, [.ref q, .ref qn, .ref qk, .ref qa, .ref qd, .int (zB true)])), (qk, .inr (2, [.ref k1, .int (nI la), .int (nI ss), .int (nI ii), .int (nI ks), .ref k2, .ref k3, .ref k4, .long kb])), (k2, aJ G 48 kn), (qb, aJ G 1 (va_up bx 0 (Int32.toInt64 (nI (nxC kn la sx i)))))] H := hP
    have hD : va_D A [(qc, .inr (5, [.ref q, .ref qn, .ref qk, .ref qa, .ref qd, .int (zB true)])), (qk, .inr (2, [.ref k1, .int (nI la), .int (nI ss), .int (nI ii), .int (nI ks), .ref k2, .ref k3, .ref k4, .long kb])), (k2, aJ G 48 kn), (qb, aJ G 1 (va_up bx 0 (Int32.toInt64 (nI (nxC kn la sx i)))))] := hD
    refine lv_goto (tgt := 21) hx hb dL_go_10 rfl ?_
    refine lv_iconst (v := nI 0) hx hb dL_go_21 (by decide) ?_
    -- end 0
    rw [← hQ]
    exact vx_ret (k_iret hx hb hr hlocks rfl (u := (va_up bx 0 (Int32.toInt64 (nI (nxC kn la sx i))))) (⟨rfl, rfl⟩) hP hD hK hS dL_go_22)
  rw [hH, hlc] at hgo
  exact hgo
set_option maxRecDepth 100000 in
set_option maxHeartbeats 4000000 in
theorem k_L_output_ok (l : Launch) (htr : l.stackTraces = false) (G : GG) (sz : Nat) (qc : Nat) (q : Nat) (qn : Nat) (qk : Nat) (qa : Nat) (qd : Nat) (k1 : Nat) (k2 : Nat) (k3 : Nat) (k4 : Nat) (la : Nat) (ss : Nat) (ii : Nat) (ks : Nat) (kb : Int64) (ko : Nat → Int64) (sx : Nat) (i : Nat) (qb : Nat) (bx : Nat → Int64) (hz : ss ≤ 64) (hii : ii ≤ 8) (hsx : sx < ss) (hi : i < ii) : vx_Met l yL_output (Cond.codeWith yL_output cL_output 5 (some .int) [(0, 17, 20, 21), (0, 17, 24, 27)] :: TBX) { frames := 3, cells := 0, slots := 0, locals := 66 } (va_Pc [.ref qc, .int (nI sx), .int (nI i), .ref qb] (befX G [(qc, .inr (5, [.ref q, .ref qn, .ref qk, .ref qa, .ref qd, .int (zB true)])), (qk, .inr (2, [.ref k1, .int (nI la), .int (nI ss), .int (nI ii), .int (nI ks), .ref k2, .ref k3, .ref k4, .long kb])), (k3, aJ G 8 ko), (qb, aJ G 1 bx)] sz)) (va_Qi (fun (r : Int32) (u : (Nat → Int64)) => (lb (ko i) sx = true ∧ nI 0 = r ∧ va_up bx 0 (1) = u) ∨ (lb (ko i) sx = false ∧ nI 0 = r ∧ va_up bx 0 (0) = u)) (fun u => aft G (va_A [(qc, .inr (5, [.ref q, .ref qn, .ref qk, .ref qa, .ref qd, .int (zB true)])), (qk, .inr (2, [.ref k1, .int (nI la), .int (nI ss), .int (nI ii), .int (nI ks), .ref k2, .ref k3, .ref k4, .long kb])), (k3, aJ G 8 ko), (qb, aJ G 1 bx)] sz) ((fun (u : (Nat → Int64)) => [(qc, .inr (5, [.ref q, .ref qn, .ref qk, .ref qa, .ref qd, .int (zB true)])), (qk, .inr (2, [.ref k1, .int (nI la), .int (nI ss), .int (nI ii), .int (nI ks), .ref k2, .ref k3, .ref k4, .long kb])), (k3, aJ G 8 ko), (qb, aJ G 1 u)]) u)) (va_A [(qc, .inr (5, [.ref q, .ref qn, .ref qk, .ref qa, .ref qd, .int (zB true)])), (qk, .inr (2, [.ref k1, .int (nI la), .int (nI ss), .int (nI ii), .int (nI ks), .ref k2, .ref k3, .ref k4, .long kb])), (k3, aJ G 8 ko), (qb, aJ G 1 bx)] sz)) (fun _ _ _ => False) 0 0 (va_A [(qc, .inr (5, [.ref q, .ref qn, .ref qk, .ref qa, .ref qd, .int (zB true)])), (qk, .inr (2, [.ref k1, .int (nI la), .int (nI ss), .int (nI ii), .int (nI ks), .ref k2, .ref k3, .ref k4, .long kb])), (k3, aJ G 8 ko), (qb, aJ G 1 bx)] sz) := by
  refine vx_ofWH (cc := cL_output) (maxL := 5) (ret := (some .int)) (by decide) rfl ?_
  intro p e s m args below meth c s₁ B hml hv
  obtain ⟨hav, ⟨hsz, hP, hK, hD0, hE⟩, hDX⟩ := hv
  have hx := B.exec
  have hb := B.bytes
  have hr := B.returns
  have hTX : ∀ w ∈ TBX, w.before args s = true := fun w h => atoms_spec (ws := Cond.codeWith yL_output cL_output 5 (some .int) [(0, 17, 20, 21), (0, 17, 24, 27)] :: TBX) B.pre w (List.mem_cons_of_mem _ h)
  have htb : ∀ w ∈ TB, w.before args s = true := fun w h => hTX w (List.mem_append_left _ h)
  have hown : s.vm.findClass "CircuitProverLaw" = some m.cls := findClass_of_methodNamed B.named
  have hlocks := B.notSynchronized
  subst hsz
  have hD := hD0.self (sz := s.heap.size)
  clear hD0
  generalize hRm : (headSpec (Cond.codeWith yL_output cL_output 5 (some .int) [(0, 17, 20, 21), (0, 17, 24, 27)] :: TBX) { frames := 3, cells := 0, slots := 0, locals := 66 }).room = R
  have hRf : R.frames = 3 := by rw [← hRm]; rfl
  have hRl : R.locals = 66 := by rw [← hRm]; rfl
  have hRc : R.cells = 0 := by rw [← hRm]; rfl
  have hRs : R.slots = 0 := by rw [← hRm]; rfl
  clear hRm
  generalize hAe : va_A [(qc, .inr (5, [.ref q, .ref qn, .ref qk, .ref qa, .ref qd, .int (zB true)])), (qk, .inr (2, [.ref k1, .int (nI la), .int (nI ss), .int (nI ii), .int (nI ks), .ref k2, .ref k3, .ref k4, .long kb])), (k3, aJ G 8 ko), (qb, aJ G 1 bx)] s.heap.size = A at hD hE ⊢
  have hA : ∀ q : Nat, s.heap.size ≤ q → A q := fun q h => by rw [← hAe]; exact Or.inr h
  clear hAe
  have hS : va_S A s.heap s.heap [] := va_S.rf
  have hl := lv_entry ([.ref qc, .int (nI sx), .int (nI i), .ref qb]) (n := 5) (Nat.le_of_ble_eq_true rfl)
  have hent := lg_entry_eq m ([.ref qc, .int (nI sx), .int (nI i), .ref qb]) 5
  rw [← hav] at hent
  rw [hent]
  clear hent hav
  generalize (lg_sl ([.ref qc, .int (nI sx), .int (nI i), .ref qb]) ++ List.replicate (5 - (lg_sl ([.ref qc, .int (nI sx), .int (nI i), .ref qb])).length) Slot.unset).toArray = ls at hl ⊢
  have hl : lv_has ls 5 [(0, .ref qc), (1, .int (nI sx)), (2, .int (nI i)), (3, .ref qb)] := hl
  generalize hQ : vx_MQ below _ _ args s 0 0 _ = Q
  have hP : va_P (gD G) vC [(qc, .inr (5, [.ref q, .ref qn, .ref qk, .ref qa, .ref qd, .int (zB true)])), (qk, .inr (2, [.ref k1, .int (nI la), .int (nI ss), .int (nI ii), .int (nI ks), .ref k2, .ref k3, .ref k4, .long kb])), (k3, aJ G 8 ko), (qb, aJ G 1 bx)] s.heap := hP
  obtain ⟨H, hH⟩ : ∃ H : Heap, H = s.heap := ⟨_, rfl⟩
  obtain ⟨locs, hlc⟩ : ∃ L : List Loc, L = [] := ⟨_, rfl⟩
  have hS : va_S A s.heap H locs := by rw [hH, hlc]; exact hS
  have hP : va_P (gD G) vC [(qc, .inr (5, [.ref q, .ref qn, .ref qk, .ref qa, .ref qd, .int (zB true)])), (qk, .inr (2, [.ref k1, .int (nI la), .int (nI ss), .int (nI ii), .int (nI ks), .ref k2, .ref k3, .ref k4, .long kb])), (k3, aJ G 8 ko), (qb, aJ G 1 bx)] H := by rw [hH]; exact hP
  have hgo : W p l e R s m args below meth c H locs 0 0 Q (F0 m 0 ls []) := by
    clear hH hlc
    refine lv_aload_n hx hb dL_output_0 rfl (lv_at hl 3 rfl) ?_
    refine lv_iconst (v := nI 0) hx hb dL_output_1 (by decide) ?_
    refine lv_aload_n hx hb dL_output_2 rfl (lv_at hl 0 rfl) ?_
    refine lv_iload_n hx hb dL_output_3 rfl (lv_at hl 1 rfl) ?_
    refine lv_iload_n hx hb dL_output_4 rfl (lv_at hl 2 rfl) ?_
    refine k_i (ws2 := fun u => [(qc, .inr (5, [.ref q, .ref qn, .ref qk, .ref qa, .ref qd, .int (zB true)])), (qk, .inr (2, [.ref k1, .int (nI la), .int (nI ss), .int (nI ii), .int (nI ks), .ref k2, .ref k3, .ref k4, .long kb])), (k3, aJ G 8 ko), (qb, aJ G 1 bx)]) (wr := [(qb, aJ G 1 bx)]) (k_runV (n := 2) (As := [.int (nI sx), .int (nI i)]) (rest := [.int (nI 0), .ref qb]) hx hb hml hown htb hP hD hK hS hA hE (k_C_output_ok l G H.size qc q qn qk qa qd k1 k2 k3 k4 la ss ii ks kb ko sx i (show ss ≤ 64 from by omega) (show ii ≤ 8 from by omega) (show sx < ss from by omega) (show i < ii from by omega)) b567 b568 b569 b1 b570 (by decide +kernel) rfl rfl ⟨by rw [hRf]; exact Nat.le_of_ble_eq_true rfl, by rw [hRl]; exact Nat.le_of_ble_eq_true rfl⟩ [0, 1, 2] rfl (by decide) 0 rfl rfl rfl rfl hl.1 rfl (Nat.le_of_ble_eq_true rfl) dL_output_5 ⟨Nat.zero_le _, Nat.zero_le _⟩) hP hD hS hA [0, 1, 2] [3] [1, 2, 3, 0] rfl rfl (by decide) (by decide) (fun u => rfl) (by decide) (fun r u H locs hw hP hD hS => ?_)
    rcases hw with ⟨hc5_e, rfl, rfl⟩ | ⟨hc5_e, rfl, rfl⟩
    · skip
      have hP : va_P (gD G) vC [(qc, .inr (5, [.ref q, .ref qn, .ref qk, .ref qa, .ref qd, .int (zB true)])), (qk, .inr (2, [.ref k1, .int (nI la), .int (nI ss), .int (nI ii), .int (nI ks), .ref k2, .ref k3, .ref k4, .long kb])), (k3, aJ G 8 ko), (qb, aJ G 1 bx)] H := hP
      have hD : va_D A [(qc, .inr (5, [.ref q, .ref qn, .ref qk, .ref qa, .ref qd, .int (zB true)])), (qk, .inr (2, [.ref k1, .int (nI la), .int (nI ss), .int (nI ii), .int (nI ks), .ref k2, .ref k3, .ref k4, .long kb])), (k3, aJ G 8 ko), (qb, aJ G 1 bx)] := hD
      refine lv_if_eq (tgt := 15) hx hb dL_output_8 rfl (fun h8 => (by revert h8; first | decide | exact fun z => absurd z (by decide) | exact fun z => z.elim (by decide))) (fun _ => ?_)
      refine lv_lconst (v := 1) hx hb dL_output_11 (by decide) ?_
      refine lv_goto (tgt := 16) hx hb dL_output_12 rfl ?_
      refine k_last hx hb hK hP hD hS 3 rfl (k := 0) (v := 1) (by omega) (by decide) dL_output_16 (fun H locs hP hD hS => ?_)
      have hP : va_P (gD G) vC [(qc, .inr (5, [.ref q, .ref qn, .ref qk, .ref qa, .ref qd, .int (zB true)])), (qk, .inr (2, [.ref k1, .int (nI la), .int (nI ss), .int (nI ii), .int (nI ks), .ref k2, .ref k3, .ref k4, .long kb])), (k3, aJ G 8 ko), (qb, aJ G 1 (va_up bx 0 1))] H := hP
      have hD : va_D A [(qc, .inr (5, [.ref q, .ref qn, .ref qk, .ref qa, .ref qd, .int (zB true)])), (qk, .inr (2, [.ref k1, .int (nI la), .int (nI ss), .int (nI ii), .int (nI ks), .ref k2, .ref k3, .ref k4, .long kb])), (k3, aJ G 8 ko), (qb, aJ G 1 (va_up bx 0 1))] := hD
      refine lv_goto (tgt := 28) hx hb dL_output_17 rfl ?_
      refine lv_iconst (v := nI 0) hx hb dL_output_28 (by decide) ?_
      -- end 0
      rw [← hQ]
      exact vx_ret (k_iret hx hb hr hlocks rfl (u := (va_up bx 0 1)) (Or.inl ⟨hc5_e, rfl, rfl⟩) hP hD hK hS dL_output_29)
    · skip
      have hP : va_P (gD G) vC [(qc, .inr (5, [.ref q, .ref qn, .ref qk, .ref qa, .ref qd, .int (zB true)])), (qk, .inr (2, [.ref k1, .int (nI la), .int (nI ss), .int (nI ii), .int (nI ks), .ref k2, .ref k3, .ref k4, .long kb])), (k3, aJ G 8 ko), (qb, aJ G 1 bx)] H := hP
      have hD : va_D A [(qc, .inr (5, [.ref q, .ref qn, .ref qk, .ref qa, .ref qd, .int (zB true)])), (qk, .inr (2, [.ref k1, .int (nI la), .int (nI ss), .int (nI ii), .int (nI ks), .ref k2, .ref k3, .ref k4, .long kb])), (k3, aJ G 8 ko), (qb, aJ G 1 bx)] := hD
      refine lv_if_eq (tgt := 15) hx hb dL_output_8 rfl (fun _ => ?_) (fun h8 => (by revert h8; first | decide | exact fun z => absurd z (by decide) | exact fun z => z.elim (by decide)))
      refine lv_lconst (v := 0) hx hb dL_output_15 (by decide) ?_
      refine k_last hx hb hK hP hD hS 3 rfl (k := 0) (v := 0) (by omega) (by decide) dL_output_16 (fun H locs hP hD hS => ?_)
      have hP : va_P (gD G) vC [(qc, .inr (5, [.ref q, .ref qn, .ref qk, .ref qa, .ref qd, .int (zB true)])), (qk, .inr (2, [.ref k1, .int (nI la), .int (nI ss), .int (nI ii), .int (nI ks), .ref k2, .ref k3, .ref k4, .long kb])), (k3, aJ G 8 ko), (qb, aJ G 1 (va_up bx 0 0))] H := hP
      have hD : va_D A [(qc, .inr (5, [.ref q, .ref qn, .ref qk, .ref qa, .ref qd, .int (zB true)])), (qk, .inr (2, [.ref k1, .int (nI la), .int (nI ss), .int (nI ii), .int (nI ks), .ref k2, .ref k3, .ref k4, .long kb])), (k3, aJ G 8 ko), (qb, aJ G 1 (va_up bx 0 0))] := hD
      refine lv_goto (tgt := 28) hx hb dL_output_17 rfl ?_
      refine lv_iconst (v := nI 0) hx hb dL_output_28 (by decide) ?_
      -- end 1
      rw [← hQ]
      exact vx_ret (k_iret hx hb hr hlocks rfl (u := (va_up bx 0 0)) (Or.inr ⟨hc5_e, rfl, rfl⟩) hP hD hK hS dL_output_29)
  rw [hH, hlc] at hgo
  exact hgo
set_option maxRecDepth 100000 in
set_option maxHeartbeats 4000000 in
theorem k_L_circuit_ok (l : Launch) (htr : l.stackTraces = false) (G : GG) (sz : Nat) (qc : Nat) (q : Nat) (qn : Nat) (qk : Nat) (qa : Nat) (qd : Nat) (k1 : Nat) (k2 : Nat) (k3 : Nat) (k4 : Nat) (la : Nat) (ss : Nat) (ii : Nat) (ks : Nat) (kb : Int64) (kh : Nat → Nat) (x : Int32) (qb : Nat) (bx : Nat → Int64) : vx_Met l yL_circuit (Cond.codeWith yL_circuit cL_circuit 4 (some .int) [(0, 9, 12, 21)] :: TBX) { frames := 2, cells := 0, slots := 0, locals := 41 } (va_Pc [.ref qc, .int x, .ref qb] (befX G [(qc, .inr (5, [.ref q, .ref qn, .ref qk, .ref qa, .ref qd, .int (zB true)])), (qk, .inr (2, [.ref k1, .int (nI la), .int (nI ss), .int (nI ii), .int (nI ks), .ref k2, .ref k3, .ref k4, .long kb])), (k1, aI G 5 kh), (qb, aJ G 1 bx)] sz)) (va_Qi (fun (r : Int32) (u : (Nat → Int64)) => (∃ (n : Nat), (n < 5 ∧ x = nI n) ∧ nI 0 = r ∧ va_up bx 0 (Int32.toInt64 (nI (kh n))) = u) ∨ (x = nI 5 ∧ nI 0 = r ∧ va_up bx 0 (Int32.toInt64 (nI ks)) = u) ∨ ((∀ n, n < 6 → ¬ x = nI n) ∧ nI 0 = r ∧ va_up bx 0 (Int32.toInt64 (-1)) = u)) (fun u => aft G (va_A [(qc, .inr (5, [.ref q, .ref qn, .ref qk, .ref qa, .ref qd, .int (zB true)])), (qk, .inr (2, [.ref k1, .int (nI la), .int (nI ss), .int (nI ii), .int (nI ks), .ref k2, .ref k3, .ref k4, .long kb])), (k1, aI G 5 kh), (qb, aJ G 1 bx)] sz) ((fun (u : (Nat → Int64)) => [(qc, .inr (5, [.ref q, .ref qn, .ref qk, .ref qa, .ref qd, .int (zB true)])), (qk, .inr (2, [.ref k1, .int (nI la), .int (nI ss), .int (nI ii), .int (nI ks), .ref k2, .ref k3, .ref k4, .long kb])), (k1, aI G 5 kh), (qb, aJ G 1 u)]) u)) (va_A [(qc, .inr (5, [.ref q, .ref qn, .ref qk, .ref qa, .ref qd, .int (zB true)])), (qk, .inr (2, [.ref k1, .int (nI la), .int (nI ss), .int (nI ii), .int (nI ks), .ref k2, .ref k3, .ref k4, .long kb])), (k1, aI G 5 kh), (qb, aJ G 1 bx)] sz)) (fun _ _ _ => False) 0 0 (va_A [(qc, .inr (5, [.ref q, .ref qn, .ref qk, .ref qa, .ref qd, .int (zB true)])), (qk, .inr (2, [.ref k1, .int (nI la), .int (nI ss), .int (nI ii), .int (nI ks), .ref k2, .ref k3, .ref k4, .long kb])), (k1, aI G 5 kh), (qb, aJ G 1 bx)] sz) := by
  refine vx_ofWH (cc := cL_circuit) (maxL := 4) (ret := (some .int)) (by decide) rfl ?_
  intro p e s m args below meth c s₁ B hml hv
  obtain ⟨hav, ⟨hsz, hP, hK, hD0, hE⟩, hDX⟩ := hv
  have hx := B.exec
  have hb := B.bytes
  have hr := B.returns
  have hTX : ∀ w ∈ TBX, w.before args s = true := fun w h => atoms_spec (ws := Cond.codeWith yL_circuit cL_circuit 4 (some .int) [(0, 9, 12, 21)] :: TBX) B.pre w (List.mem_cons_of_mem _ h)
  have htb : ∀ w ∈ TB, w.before args s = true := fun w h => hTX w (List.mem_append_left _ h)
  have hown : s.vm.findClass "CircuitProverLaw" = some m.cls := findClass_of_methodNamed B.named
  have hlocks := B.notSynchronized
  subst hsz
  have hD := hD0.self (sz := s.heap.size)
  clear hD0
  generalize hRm : (headSpec (Cond.codeWith yL_circuit cL_circuit 4 (some .int) [(0, 9, 12, 21)] :: TBX) { frames := 2, cells := 0, slots := 0, locals := 41 }).room = R
  have hRf : R.frames = 2 := by rw [← hRm]; rfl
  have hRl : R.locals = 41 := by rw [← hRm]; rfl
  have hRc : R.cells = 0 := by rw [← hRm]; rfl
  have hRs : R.slots = 0 := by rw [← hRm]; rfl
  clear hRm
  generalize hAe : va_A [(qc, .inr (5, [.ref q, .ref qn, .ref qk, .ref qa, .ref qd, .int (zB true)])), (qk, .inr (2, [.ref k1, .int (nI la), .int (nI ss), .int (nI ii), .int (nI ks), .ref k2, .ref k3, .ref k4, .long kb])), (k1, aI G 5 kh), (qb, aJ G 1 bx)] s.heap.size = A at hD hE ⊢
  have hA : ∀ q : Nat, s.heap.size ≤ q → A q := fun q h => by rw [← hAe]; exact Or.inr h
  clear hAe
  have hS : va_S A s.heap s.heap [] := va_S.rf
  have hl := lv_entry ([.ref qc, .int x, .ref qb]) (n := 4) (Nat.le_of_ble_eq_true rfl)
  have hent := lg_entry_eq m ([.ref qc, .int x, .ref qb]) 4
  rw [← hav] at hent
  rw [hent]
  clear hent hav
  generalize (lg_sl ([.ref qc, .int x, .ref qb]) ++ List.replicate (4 - (lg_sl ([.ref qc, .int x, .ref qb])).length) Slot.unset).toArray = ls at hl ⊢
  have hl : lv_has ls 4 [(0, .ref qc), (1, .int x), (2, .ref qb)] := hl
  generalize hQ : vx_MQ below _ _ args s 0 0 _ = Q
  have hP : va_P (gD G) vC [(qc, .inr (5, [.ref q, .ref qn, .ref qk, .ref qa, .ref qd, .int (zB true)])), (qk, .inr (2, [.ref k1, .int (nI la), .int (nI ss), .int (nI ii), .int (nI ks), .ref k2, .ref k3, .ref k4, .long kb])), (k1, aI G 5 kh), (qb, aJ G 1 bx)] s.heap := hP
  obtain ⟨H, hH⟩ : ∃ H : Heap, H = s.heap := ⟨_, rfl⟩
  obtain ⟨locs, hlc⟩ : ∃ L : List Loc, L = [] := ⟨_, rfl⟩
  have hS : va_S A s.heap H locs := by rw [hH, hlc]; exact hS
  have hP : va_P (gD G) vC [(qc, .inr (5, [.ref q, .ref qn, .ref qk, .ref qa, .ref qd, .int (zB true)])), (qk, .inr (2, [.ref k1, .int (nI la), .int (nI ss), .int (nI ii), .int (nI ks), .ref k2, .ref k3, .ref k4, .long kb])), (k1, aI G 5 kh), (qb, aJ G 1 bx)] H := by rw [hH]; exact hP
  have hgo : W p l e R s m args below meth c H locs 0 0 Q (F0 m 0 ls []) := by
    clear hH hlc
    refine lv_aload_n hx hb dL_circuit_0 rfl (lv_at hl 2 rfl) ?_
    refine lv_iconst (v := nI 0) hx hb dL_circuit_1 (by decide) ?_
    refine lv_aload_n hx hb dL_circuit_2 rfl (lv_at hl 0 rfl) ?_
    refine lv_iload_n hx hb dL_circuit_3 rfl (lv_at hl 1 rfl) ?_
    refine k_i (ws2 := fun u => [(qc, .inr (5, [.ref q, .ref qn, .ref qk, .ref qa, .ref qd, .int (zB true)])), (qk, .inr (2, [.ref k1, .int (nI la), .int (nI ss), .int (nI ii), .int (nI ks), .ref k2, .ref k3, .ref k4, .long kb])), (k1, aI G 5 kh), (qb, aJ G 1 bx)]) (wr := [(qb, aJ G 1 bx)]) (k_runV (n := 1) (As := [.int x]) (rest := [.int (nI 0), .ref qb]) hx hb hml hown htb hP hD hK hS hA hE (k_C_circuit_ok l G H.size qc q qn qk qa qd k1 k2 k3 k4 la ss ii ks kb kh x ) b503 b504 b505 b1 b506 (by decide +kernel) rfl rfl ⟨by rw [hRf]; exact Nat.le_of_ble_eq_true rfl, by rw [hRl]; exact Nat.le_of_ble_eq_true rfl⟩ [0, 1, 2] rfl (by decide) 0 rfl rfl rfl rfl hl.1 rfl (Nat.le_of_ble_eq_true rfl) dL_circuit_4 ⟨Nat.zero_le _, Nat.zero_le _⟩) hP hD hS hA [0, 1, 2] [3] [1, 2, 3, 0] rfl rfl (by decide) (by decide) (fun u => rfl) (by decide) (fun r u H locs hw hP hD hS => ?_)
    rcases hw with ⟨n4, hc4_e, rfl, rfl⟩ | ⟨hc4_e, rfl, rfl⟩ | ⟨hc4_e, rfl, rfl⟩
    · skip
      have hP : va_P (gD G) vC [(qc, .inr (5, [.ref q, .ref qn, .ref qk, .ref qa, .ref qd, .int (zB true)])), (qk, .inr (2, [.ref k1, .int (nI la), .int (nI ss), .int (nI ii), .int (nI ks), .ref k2, .ref k3, .ref k4, .long kb])), (k1, aI G 5 kh), (qb, aJ G 1 bx)] H := hP
      have hD : va_D A [(qc, .inr (5, [.ref q, .ref qn, .ref qk, .ref qa, .ref qd, .int (zB true)])), (qk, .inr (2, [.ref k1, .int (nI la), .int (nI ss), .int (nI ii), .int (nI ks), .ref k2, .ref k3, .ref k4, .long kb])), (k1, aI G 5 kh), (qb, aJ G 1 bx)] := hD
      refine lv_i2l (v := Int32.toInt64 (nI (kh n4))) hx hb dL_circuit_7 rfl ?_
      refine k_last hx hb hK hP hD hS 3 rfl (k := 0) (v := Int32.toInt64 (nI (kh n4))) (by omega) (by decide) dL_circuit_8 (fun H locs hP hD hS => ?_)
      have hP : va_P (gD G) vC [(qc, .inr (5, [.ref q, .ref qn, .ref qk, .ref qa, .ref qd, .int (zB true)])), (qk, .inr (2, [.ref k1, .int (nI la), .int (nI ss), .int (nI ii), .int (nI ks), .ref k2, .ref k3, .ref k4, .long kb])), (k1, aI G 5 kh), (qb, aJ G 1 (va_up bx 0 (Int32.toInt64 (nI (kh n4)))))] H := hP
      have hD : va_D A [(qc, .inr (5, [.ref q, .ref qn, .ref qk, .ref qa, .ref qd, .int (zB true)])), (qk, .inr (2, [.ref k1, .int (nI la), .int (nI ss), .int (nI ii), .int (nI ks), .ref k2, .ref k3, .ref k4, .long kb])), (k1, aI G 5 kh), (qb, aJ G 1 (va_up bx 0 (Int32.toInt64 (nI (kh n4)))))] := hD
      refine lv_goto (tgt := 15) hx hb dL_circuit_9 rfl ?_
      refine lv_iconst (v := nI 0) hx hb dL_circuit_15 (by decide) ?_
      -- end 0
      rw [← hQ]
      exact vx_ret (k_iret hx hb hr hlocks rfl (u := (va_up bx 0 (Int32.toInt64 (nI (kh n4))))) (Or.inl ⟨_, hc4_e, rfl, rfl⟩) hP hD hK hS dL_circuit_16)
    · skip
      have hP : va_P (gD G) vC [(qc, .inr (5, [.ref q, .ref qn, .ref qk, .ref qa, .ref qd, .int (zB true)])), (qk, .inr (2, [.ref k1, .int (nI la), .int (nI ss), .int (nI ii), .int (nI ks), .ref k2, .ref k3, .ref k4, .long kb])), (k1, aI G 5 kh), (qb, aJ G 1 bx)] H := hP
      have hD : va_D A [(qc, .inr (5, [.ref q, .ref qn, .ref qk, .ref qa, .ref qd, .int (zB true)])), (qk, .inr (2, [.ref k1, .int (nI la), .int (nI ss), .int (nI ii), .int (nI ks), .ref k2, .ref k3, .ref k4, .long kb])), (k1, aI G 5 kh), (qb, aJ G 1 bx)] := hD
      refine lv_i2l (v := Int32.toInt64 (nI ks)) hx hb dL_circuit_7 rfl ?_
      refine k_last hx hb hK hP hD hS 3 rfl (k := 0) (v := Int32.toInt64 (nI ks)) (by omega) (by decide) dL_circuit_8 (fun H locs hP hD hS => ?_)
      have hP : va_P (gD G) vC [(qc, .inr (5, [.ref q, .ref qn, .ref qk, .ref qa, .ref qd, .int (zB true)])), (qk, .inr (2, [.ref k1, .int (nI la), .int (nI ss), .int (nI ii), .int (nI ks), .ref k2, .ref k3, .ref k4, .long kb])), (k1, aI G 5 kh), (qb, aJ G 1 (va_up bx 0 (Int32.toInt64 (nI ks))))] H := hP
      have hD : va_D A [(qc, .inr (5, [.ref q, .ref qn, .ref qk, .ref qa, .ref qd, .int (zB true)])), (qk, .inr (2, [.ref k1, .int (nI la), .int (nI ss), .int (nI ii), .int (nI ks), .ref k2, .ref k3, .ref k4, .long kb])), (k1, aI G 5 kh), (qb, aJ G 1 (va_up bx 0 (Int32.toInt64 (nI ks))))] := hD
      refine lv_goto (tgt := 15) hx hb dL_circuit_9 rfl ?_
      refine lv_iconst (v := nI 0) hx hb dL_circuit_15 (by decide) ?_
      -- end 1
      rw [← hQ]
      exact vx_ret (k_iret hx hb hr hlocks rfl (u := (va_up bx 0 (Int32.toInt64 (nI ks)))) (Or.inr (Or.inl ⟨hc4_e, rfl, rfl⟩)) hP hD hK hS dL_circuit_16)
    · skip
      have hP : va_P (gD G) vC [(qc, .inr (5, [.ref q, .ref qn, .ref qk, .ref qa, .ref qd, .int (zB true)])), (qk, .inr (2, [.ref k1, .int (nI la), .int (nI ss), .int (nI ii), .int (nI ks), .ref k2, .ref k3, .ref k4, .long kb])), (k1, aI G 5 kh), (qb, aJ G 1 bx)] H := hP
      have hD : va_D A [(qc, .inr (5, [.ref q, .ref qn, .ref qk, .ref qa, .ref qd, .int (zB true)])), (qk, .inr (2, [.ref k1, .int (nI la), .int (nI ss), .int (nI ii), .int (nI ks), .ref k2, .ref k3, .ref k4, .long kb])), (k1, aI G 5 kh), (qb, aJ G 1 bx)] := hD
      refine lv_i2l (v := Int32.toInt64 (-1)) hx hb dL_circuit_7 rfl ?_
      refine k_last hx hb hK hP hD hS 3 rfl (k := 0) (v := Int32.toInt64 (-1)) (by omega) (by decide) dL_circuit_8 (fun H locs hP hD hS => ?_)
      have hP : va_P (gD G) vC [(qc, .inr (5, [.ref q, .ref qn, .ref qk, .ref qa, .ref qd, .int (zB true)])), (qk, .inr (2, [.ref k1, .int (nI la), .int (nI ss), .int (nI ii), .int (nI ks), .ref k2, .ref k3, .ref k4, .long kb])), (k1, aI G 5 kh), (qb, aJ G 1 (va_up bx 0 (Int32.toInt64 (-1))))] H := hP
      have hD : va_D A [(qc, .inr (5, [.ref q, .ref qn, .ref qk, .ref qa, .ref qd, .int (zB true)])), (qk, .inr (2, [.ref k1, .int (nI la), .int (nI ss), .int (nI ii), .int (nI ks), .ref k2, .ref k3, .ref k4, .long kb])), (k1, aI G 5 kh), (qb, aJ G 1 (va_up bx 0 (Int32.toInt64 (-1))))] := hD
      refine lv_goto (tgt := 15) hx hb dL_circuit_9 rfl ?_
      refine lv_iconst (v := nI 0) hx hb dL_circuit_15 (by decide) ?_
      -- end 2
      rw [← hQ]
      exact vx_ret (k_iret hx hb hr hlocks rfl (u := (va_up bx 0 (Int32.toInt64 (-1)))) (Or.inr (Or.inr ⟨hc4_e, rfl, rfl⟩)) hP hD hK hS dL_circuit_16)
  rw [hH, hlc] at hgo
  exact hgo
set_option maxRecDepth 100000 in
set_option maxHeartbeats 4000000 in
theorem k_L_witness_s (l : Launch) (htr : l.stackTraces = false) (G : GG) (sz : Nat) (qc : Nat) (q : Nat) (qn : Nat) (qk : Nat) (qa : Nat) (qd : Nat) (r1 : Nat) (r2 : Nat) (ns : Nat) (re : Int64) (lr : Nat) (rt : Nat) (vi : Int64) (wy : Nat → Nat) (x : Int32) (qb : Nat) (bx : Nat → Int64) : vx_Met l yL_witness (Cond.codeWith yL_witness cL_witness 4 (some .int) [(0, 9, 12, 21)] :: TBX) { frames := 2, cells := 0, slots := 0, locals := 41 } (va_Pc [.ref qc, .int x, .ref qb] (befX G [(qc, .inr (5, [.ref q, .ref qn, .ref qk, .ref qa, .ref qd, .int (zB true)])), (qa, .inr (0, [.ref r1, .int (nI ns), .long re, .int (-1), .ref r2, .int (nI lr), .int (nI rt), .long vi])), (r2, aI G 64 wy), (qb, aJ G 1 bx)] sz)) (va_Qi (fun (r : Int32) (u : (Nat → Int64)) => (nI 0 = r ∧ va_up bx 0 (Int32.toInt64 (-1)) = u)) (fun u => aft G (va_A [(qc, .inr (5, [.ref q, .ref qn, .ref qk, .ref qa, .ref qd, .int (zB true)])), (qa, .inr (0, [.ref r1, .int (nI ns), .long re, .int (-1), .ref r2, .int (nI lr), .int (nI rt), .long vi])), (r2, aI G 64 wy), (qb, aJ G 1 bx)] sz) ((fun (u : (Nat → Int64)) => [(qc, .inr (5, [.ref q, .ref qn, .ref qk, .ref qa, .ref qd, .int (zB true)])), (qa, .inr (0, [.ref r1, .int (nI ns), .long re, .int (-1), .ref r2, .int (nI lr), .int (nI rt), .long vi])), (r2, aI G 64 wy), (qb, aJ G 1 u)]) u)) (va_A [(qc, .inr (5, [.ref q, .ref qn, .ref qk, .ref qa, .ref qd, .int (zB true)])), (qa, .inr (0, [.ref r1, .int (nI ns), .long re, .int (-1), .ref r2, .int (nI lr), .int (nI rt), .long vi])), (r2, aI G 64 wy), (qb, aJ G 1 bx)] sz)) (fun _ _ _ => False) 0 0 (va_A [(qc, .inr (5, [.ref q, .ref qn, .ref qk, .ref qa, .ref qd, .int (zB true)])), (qa, .inr (0, [.ref r1, .int (nI ns), .long re, .int (-1), .ref r2, .int (nI lr), .int (nI rt), .long vi])), (r2, aI G 64 wy), (qb, aJ G 1 bx)] sz) := by
  refine vx_ofWH (cc := cL_witness) (maxL := 4) (ret := (some .int)) (by decide) rfl ?_
  intro p e s m args below meth c s₁ B hml hv
  obtain ⟨hav, ⟨hsz, hP, hK, hD0, hE⟩, hDX⟩ := hv
  have hx := B.exec
  have hb := B.bytes
  have hr := B.returns
  have hTX : ∀ w ∈ TBX, w.before args s = true := fun w h => atoms_spec (ws := Cond.codeWith yL_witness cL_witness 4 (some .int) [(0, 9, 12, 21)] :: TBX) B.pre w (List.mem_cons_of_mem _ h)
  have htb : ∀ w ∈ TB, w.before args s = true := fun w h => hTX w (List.mem_append_left _ h)
  have hown : s.vm.findClass "CircuitProverLaw" = some m.cls := findClass_of_methodNamed B.named
  have hlocks := B.notSynchronized
  subst hsz
  have hD := hD0.self (sz := s.heap.size)
  clear hD0
  generalize hRm : (headSpec (Cond.codeWith yL_witness cL_witness 4 (some .int) [(0, 9, 12, 21)] :: TBX) { frames := 2, cells := 0, slots := 0, locals := 41 }).room = R
  have hRf : R.frames = 2 := by rw [← hRm]; rfl
  have hRl : R.locals = 41 := by rw [← hRm]; rfl
  have hRc : R.cells = 0 := by rw [← hRm]; rfl
  have hRs : R.slots = 0 := by rw [← hRm]; rfl
  clear hRm
  generalize hAe : va_A [(qc, .inr (5, [.ref q, .ref qn, .ref qk, .ref qa, .ref qd, .int (zB true)])), (qa, .inr (0, [.ref r1, .int (nI ns), .long re, .int (-1), .ref r2, .int (nI lr), .int (nI rt), .long vi])), (r2, aI G 64 wy), (qb, aJ G 1 bx)] s.heap.size = A at hD hE ⊢
  have hA : ∀ q : Nat, s.heap.size ≤ q → A q := fun q h => by rw [← hAe]; exact Or.inr h
  clear hAe
  have hS : va_S A s.heap s.heap [] := va_S.rf
  have hl := lv_entry ([.ref qc, .int x, .ref qb]) (n := 4) (Nat.le_of_ble_eq_true rfl)
  have hent := lg_entry_eq m ([.ref qc, .int x, .ref qb]) 4
  rw [← hav] at hent
  rw [hent]
  clear hent hav
  generalize (lg_sl ([.ref qc, .int x, .ref qb]) ++ List.replicate (4 - (lg_sl ([.ref qc, .int x, .ref qb])).length) Slot.unset).toArray = ls at hl ⊢
  have hl : lv_has ls 4 [(0, .ref qc), (1, .int x), (2, .ref qb)] := hl
  generalize hQ : vx_MQ below _ _ args s 0 0 _ = Q
  have hP : va_P (gD G) vC [(qc, .inr (5, [.ref q, .ref qn, .ref qk, .ref qa, .ref qd, .int (zB true)])), (qa, .inr (0, [.ref r1, .int (nI ns), .long re, .int (-1), .ref r2, .int (nI lr), .int (nI rt), .long vi])), (r2, aI G 64 wy), (qb, aJ G 1 bx)] s.heap := hP
  obtain ⟨H, hH⟩ : ∃ H : Heap, H = s.heap := ⟨_, rfl⟩
  obtain ⟨locs, hlc⟩ : ∃ L : List Loc, L = [] := ⟨_, rfl⟩
  have hS : va_S A s.heap H locs := by rw [hH, hlc]; exact hS
  have hP : va_P (gD G) vC [(qc, .inr (5, [.ref q, .ref qn, .ref qk, .ref qa, .ref qd, .int (zB true)])), (qa, .inr (0, [.ref r1, .int (nI ns), .long re, .int (-1), .ref r2, .int (nI lr), .int (nI rt), .long vi])), (r2, aI G 64 wy), (qb, aJ G 1 bx)] H := by rw [hH]; exact hP
  have hgo : W p l e R s m args below meth c H locs 0 0 Q (F0 m 0 ls []) := by
    clear hH hlc
    refine lv_aload_n hx hb dL_witness_0 rfl (lv_at hl 2 rfl) ?_
    refine lv_iconst (v := nI 0) hx hb dL_witness_1 (by decide) ?_
    refine lv_aload_n hx hb dL_witness_2 rfl (lv_at hl 0 rfl) ?_
    refine lv_iload_n hx hb dL_witness_3 rfl (lv_at hl 1 rfl) ?_
    refine k_i (ws2 := fun u => [(qc, .inr (5, [.ref q, .ref qn, .ref qk, .ref qa, .ref qd, .int (zB true)])), (qa, .inr (0, [.ref r1, .int (nI ns), .long re, .int (-1), .ref r2, .int (nI lr), .int (nI rt), .long vi])), (r2, aI G 64 wy), (qb, aJ G 1 bx)]) (wr := [(qb, aJ G 1 bx)]) (k_runV (n := 1) (As := [.int x]) (rest := [.int (nI 0), .ref qb]) hx hb hml hown htb hP hD hK hS hA hE (k_C_witness_s l G H.size qc q qn qk qa qd r1 r2 ns re lr rt vi wy x ) b590 b591 b592 b1 b593 (by decide +kernel) rfl rfl ⟨by rw [hRf]; exact Nat.le_of_ble_eq_true rfl, by rw [hRl]; exact Nat.le_of_ble_eq_true rfl⟩ [0, 1, 2] rfl (by decide) 0 rfl rfl rfl rfl hl.1 rfl (Nat.le_of_ble_eq_true rfl) dL_witness_4 ⟨Nat.zero_le _, Nat.zero_le _⟩) hP hD hS hA [0, 1, 2] [3] [1, 2, 3, 0] rfl rfl (by decide) (by decide) (fun u => rfl) (by decide) (fun r u H locs hw hP hD hS => ?_)
    obtain ⟨rfl, rfl⟩ := hw
    have hP : va_P (gD G) vC [(qc, .inr (5, [.ref q, .ref qn, .ref qk, .ref qa, .ref qd, .int (zB true)])), (qa, .inr (0, [.ref r1, .int (nI ns), .long re, .int (-1), .ref r2, .int (nI lr), .int (nI rt), .long vi])), (r2, aI G 64 wy), (qb, aJ G 1 bx)] H := hP
    have hD : va_D A [(qc, .inr (5, [.ref q, .ref qn, .ref qk, .ref qa, .ref qd, .int (zB true)])), (qa, .inr (0, [.ref r1, .int (nI ns), .long re, .int (-1), .ref r2, .int (nI lr), .int (nI rt), .long vi])), (r2, aI G 64 wy), (qb, aJ G 1 bx)] := hD
    refine lv_i2l (v := Int32.toInt64 (-1)) hx hb dL_witness_7 rfl ?_
    refine k_last hx hb hK hP hD hS 3 rfl (k := 0) (v := Int32.toInt64 (-1)) (by omega) (by decide) dL_witness_8 (fun H locs hP hD hS => ?_)
    have hP : va_P (gD G) vC [(qc, .inr (5, [.ref q, .ref qn, .ref qk, .ref qa, .ref qd, .int (zB true)])), (qa, .inr (0, [.ref r1, .int (nI ns), .long re, .int (-1), .ref r2, .int (nI lr), .int (nI rt), .long vi])), (r2, aI G 64 wy), (qb, aJ G 1 (va_up bx 0 (Int32.toInt64 (-1))))] H := hP
    have hD : va_D A [(qc, .inr (5, [.ref q, .ref qn, .ref qk, .ref qa, .ref qd, .int (zB true)])), (qa, .inr (0, [.ref r1, .int (nI ns), .long re, .int (-1), .ref r2, .int (nI lr), .int (nI rt), .long vi])), (r2, aI G 64 wy), (qb, aJ G 1 (va_up bx 0 (Int32.toInt64 (-1))))] := hD
    refine lv_goto (tgt := 15) hx hb dL_witness_9 rfl ?_
    refine lv_iconst (v := nI 0) hx hb dL_witness_15 (by decide) ?_
    -- end 0
    rw [← hQ]
    exact vx_ret (k_iret hx hb hr hlocks rfl (u := (va_up bx 0 (Int32.toInt64 (-1)))) (⟨rfl, rfl⟩) hP hD hK hS dL_witness_16)
  rw [hH, hlc] at hgo
  exact hgo
set_option maxRecDepth 100000 in
set_option maxHeartbeats 4000000 in
theorem k_L_witness_u (l : Launch) (htr : l.stackTraces = false) (G : GG) (sz : Nat) (qc : Nat) (q : Nat) (qn : Nat) (qk : Nat) (qa : Nat) (qd : Nat) (r1 : Nat) (r2 : Nat) (ns : Nat) (re : Int64) (lr : Nat) (rt : Nat) (vi : Int64) (wy : Nat → Nat) (d : Nat) (x : Int32) (qb : Nat) (bx : Nat → Int64) (hd : d < 64) : vx_Met l yL_witness (Cond.codeWith yL_witness cL_witness 4 (some .int) [(0, 9, 12, 21)] :: TBX) { frames := 2, cells := 0, slots := 0, locals := 41 } (va_Pc [.ref qc, .int x, .ref qb] (befX G [(qc, .inr (5, [.ref q, .ref qn, .ref qk, .ref qa, .ref qd, .int (zB true)])), (qa, .inr (0, [.ref r1, .int (nI ns), .long re, .int (nI d), .ref r2, .int (nI lr), .int (nI rt), .long vi])), (r2, aI G 64 wy), (qb, aJ G 1 bx)] sz)) (va_Qi (fun (r : Int32) (u : (Nat → Int64)) => (∃ (nq : Nat), (nq ≤ d ∧ x = nI nq) ∧ nI 0 = r ∧ va_up bx 0 (Int32.toInt64 (nI (wy nq))) = u) ∨ ((∀ n, n < 64 → x = nI n → d < n) ∧ nI 0 = r ∧ va_up bx 0 (Int32.toInt64 (-1)) = u)) (fun u => aft G (va_A [(qc, .inr (5, [.ref q, .ref qn, .ref qk, .ref qa, .ref qd, .int (zB true)])), (qa, .inr (0, [.ref r1, .int (nI ns), .long re, .int (nI d), .ref r2, .int (nI lr), .int (nI rt), .long vi])), (r2, aI G 64 wy), (qb, aJ G 1 bx)] sz) ((fun (u : (Nat → Int64)) => [(qc, .inr (5, [.ref q, .ref qn, .ref qk, .ref qa, .ref qd, .int (zB true)])), (qa, .inr (0, [.ref r1, .int (nI ns), .long re, .int (nI d), .ref r2, .int (nI lr), .int (nI rt), .long vi])), (r2, aI G 64 wy), (qb, aJ G 1 u)]) u)) (va_A [(qc, .inr (5, [.ref q, .ref qn, .ref qk, .ref qa, .ref qd, .int (zB true)])), (qa, .inr (0, [.ref r1, .int (nI ns), .long re, .int (nI d), .ref r2, .int (nI lr), .int (nI rt), .long vi])), (r2, aI G 64 wy), (qb, aJ G 1 bx)] sz)) (fun _ _ _ => False) 0 0 (va_A [(qc, .inr (5, [.ref q, .ref qn, .ref qk, .ref qa, .ref qd, .int (zB true)])), (qa, .inr (0, [.ref r1, .int (nI ns), .long re, .int (nI d), .ref r2, .int (nI lr), .int (nI rt), .long vi])), (r2, aI G 64 wy), (qb, aJ G 1 bx)] sz) := by
  refine vx_ofWH (cc := cL_witness) (maxL := 4) (ret := (some .int)) (by decide) rfl ?_
  intro p e s m args below meth c s₁ B hml hv
  obtain ⟨hav, ⟨hsz, hP, hK, hD0, hE⟩, hDX⟩ := hv
  have hx := B.exec
  have hb := B.bytes
  have hr := B.returns
  have hTX : ∀ w ∈ TBX, w.before args s = true := fun w h => atoms_spec (ws := Cond.codeWith yL_witness cL_witness 4 (some .int) [(0, 9, 12, 21)] :: TBX) B.pre w (List.mem_cons_of_mem _ h)
  have htb : ∀ w ∈ TB, w.before args s = true := fun w h => hTX w (List.mem_append_left _ h)
  have hown : s.vm.findClass "CircuitProverLaw" = some m.cls := findClass_of_methodNamed B.named
  have hlocks := B.notSynchronized
  subst hsz
  have hD := hD0.self (sz := s.heap.size)
  clear hD0
  generalize hRm : (headSpec (Cond.codeWith yL_witness cL_witness 4 (some .int) [(0, 9, 12, 21)] :: TBX) { frames := 2, cells := 0, slots := 0, locals := 41 }).room = R
  have hRf : R.frames = 2 := by rw [← hRm]; rfl
  have hRl : R.locals = 41 := by rw [← hRm]; rfl
  have hRc : R.cells = 0 := by rw [← hRm]; rfl
  have hRs : R.slots = 0 := by rw [← hRm]; rfl
  clear hRm
  generalize hAe : va_A [(qc, .inr (5, [.ref q, .ref qn, .ref qk, .ref qa, .ref qd, .int (zB true)])), (qa, .inr (0, [.ref r1, .int (nI ns), .long re, .int (nI d), .ref r2, .int (nI lr), .int (nI rt), .long vi])), (r2, aI G 64 wy), (qb, aJ G 1 bx)] s.heap.size = A at hD hE ⊢
  have hA : ∀ q : Nat, s.heap.size ≤ q → A q := fun q h => by rw [← hAe]; exact Or.inr h
  clear hAe
  have hS : va_S A s.heap s.heap [] := va_S.rf
  have hl := lv_entry ([.ref qc, .int x, .ref qb]) (n := 4) (Nat.le_of_ble_eq_true rfl)
  have hent := lg_entry_eq m ([.ref qc, .int x, .ref qb]) 4
  rw [← hav] at hent
  rw [hent]
  clear hent hav
  generalize (lg_sl ([.ref qc, .int x, .ref qb]) ++ List.replicate (4 - (lg_sl ([.ref qc, .int x, .ref qb])).length) Slot.unset).toArray = ls at hl ⊢
  have hl : lv_has ls 4 [(0, .ref qc), (1, .int x), (2, .ref qb)] := hl
  generalize hQ : vx_MQ below _ _ args s 0 0 _ = Q
  have hP : va_P (gD G) vC [(qc, .inr (5, [.ref q, .ref qn, .ref qk, .ref qa, .ref qd, .int (zB true)])), (qa, .inr (0, [.ref r1, .int (nI ns), .long re, .int (nI d), .ref r2, .int (nI lr), .int (nI rt), .long vi])), (r2, aI G 64 wy), (qb, aJ G 1 bx)] s.heap := hP
  obtain ⟨H, hH⟩ : ∃ H : Heap, H = s.heap := ⟨_, rfl⟩
  obtain ⟨locs, hlc⟩ : ∃ L : List Loc, L = [] := ⟨_, rfl⟩
  have hS : va_S A s.heap H locs := by rw [hH, hlc]; exact hS
  have hP : va_P (gD G) vC [(qc, .inr (5, [.ref q, .ref qn, .ref qk, .ref qa, .ref qd, .int (zB true)])), (qa, .inr (0, [.ref r1, .int (nI ns), .long re, .int (nI d), .ref r2, .int (nI lr), .int (nI rt), .long vi])), (r2, aI G 64 wy), (qb, aJ G 1 bx)] H := by rw [hH]; exact hP
  have hgo : W p l e R s m args below meth c H locs 0 0 Q (F0 m 0 ls []) := by
    clear hH hlc
    refine lv_aload_n hx hb dL_witness_0 rfl (lv_at hl 2 rfl) ?_
    refine lv_iconst (v := nI 0) hx hb dL_witness_1 (by decide) ?_
    refine lv_aload_n hx hb dL_witness_2 rfl (lv_at hl 0 rfl) ?_
    refine lv_iload_n hx hb dL_witness_3 rfl (lv_at hl 1 rfl) ?_
    refine k_i (ws2 := fun u => [(qc, .inr (5, [.ref q, .ref qn, .ref qk, .ref qa, .ref qd, .int (zB true)])), (qa, .inr (0, [.ref r1, .int (nI ns), .long re, .int (nI d), .ref r2, .int (nI lr), .int (nI rt), .long vi])), (r2, aI G 64 wy), (qb, aJ G 1 bx)]) (wr := [(qb, aJ G 1 bx)]) (k_runV (n := 1) (As := [.int x]) (rest := [.int (nI 0), .ref qb]) hx hb hml hown htb hP hD hK hS hA hE (k_C_witness_u l G H.size qc q qn qk qa qd r1 r2 ns re lr rt vi wy d x (show d < 64 from by omega)) b590 b591 b592 b1 b593 (by decide +kernel) rfl rfl ⟨by rw [hRf]; exact Nat.le_of_ble_eq_true rfl, by rw [hRl]; exact Nat.le_of_ble_eq_true rfl⟩ [0, 1, 2] rfl (by decide) 0 rfl rfl rfl rfl hl.1 rfl (Nat.le_of_ble_eq_true rfl) dL_witness_4 ⟨Nat.zero_le _, Nat.zero_le _⟩) hP hD hS hA [0, 1, 2] [3] [1, 2, 3, 0] rfl rfl (by decide) (by decide) (fun u => rfl) (by decide) (fun r u H locs hw hP hD hS => ?_)
    rcases hw with ⟨nq4, hc4_e, rfl, rfl⟩ | ⟨hc4_e, rfl, rfl⟩
    · skip
      have hP : va_P (gD G) vC [(qc, .inr (5, [.ref q, .ref qn, .ref qk, .ref qa, .ref qd, .int (zB true)])), (qa, .inr (0, [.ref r1, .int (nI ns), .long re, .int (nI d), .ref r2, .int (nI lr), .int (nI rt), .long vi])), (r2, aI G 64 wy), (qb, aJ G 1 bx)] H := hP
      have hD : va_D A [(qc, .inr (5, [.ref q, .ref qn, .ref qk, .ref qa, .ref qd, .int (zB true)])), (qa, .inr (0, [.ref r1, .int (nI ns), .long re, .int (nI d), .ref r2, .int (nI lr), .int (nI rt), .long vi])), (r2, aI G 64 wy), (qb, aJ G 1 bx)] := hD
      refine lv_i2l (v := Int32.toInt64 (nI (wy nq4))) hx hb dL_witness_7 rfl ?_
      refine k_last hx hb hK hP hD hS 3 rfl (k := 0) (v := Int32.toInt64 (nI (wy nq4))) (by omega) (by decide) dL_witness_8 (fun H locs hP hD hS => ?_)
      have hP : va_P (gD G) vC [(qc, .inr (5, [.ref q, .ref qn, .ref qk, .ref qa, .ref qd, .int (zB true)])), (qa, .inr (0, [.ref r1, .int (nI ns), .long re, .int (nI d), .ref r2, .int (nI lr), .int (nI rt), .long vi])), (r2, aI G 64 wy), (qb, aJ G 1 (va_up bx 0 (Int32.toInt64 (nI (wy nq4)))))] H := hP
      have hD : va_D A [(qc, .inr (5, [.ref q, .ref qn, .ref qk, .ref qa, .ref qd, .int (zB true)])), (qa, .inr (0, [.ref r1, .int (nI ns), .long re, .int (nI d), .ref r2, .int (nI lr), .int (nI rt), .long vi])), (r2, aI G 64 wy), (qb, aJ G 1 (va_up bx 0 (Int32.toInt64 (nI (wy nq4)))))] := hD
      refine lv_goto (tgt := 15) hx hb dL_witness_9 rfl ?_
      refine lv_iconst (v := nI 0) hx hb dL_witness_15 (by decide) ?_
      -- end 0
      rw [← hQ]
      exact vx_ret (k_iret hx hb hr hlocks rfl (u := (va_up bx 0 (Int32.toInt64 (nI (wy nq4))))) (Or.inl ⟨_, hc4_e, rfl, rfl⟩) hP hD hK hS dL_witness_16)
    · skip
      have hP : va_P (gD G) vC [(qc, .inr (5, [.ref q, .ref qn, .ref qk, .ref qa, .ref qd, .int (zB true)])), (qa, .inr (0, [.ref r1, .int (nI ns), .long re, .int (nI d), .ref r2, .int (nI lr), .int (nI rt), .long vi])), (r2, aI G 64 wy), (qb, aJ G 1 bx)] H := hP
      have hD : va_D A [(qc, .inr (5, [.ref q, .ref qn, .ref qk, .ref qa, .ref qd, .int (zB true)])), (qa, .inr (0, [.ref r1, .int (nI ns), .long re, .int (nI d), .ref r2, .int (nI lr), .int (nI rt), .long vi])), (r2, aI G 64 wy), (qb, aJ G 1 bx)] := hD
      refine lv_i2l (v := Int32.toInt64 (-1)) hx hb dL_witness_7 rfl ?_
      refine k_last hx hb hK hP hD hS 3 rfl (k := 0) (v := Int32.toInt64 (-1)) (by omega) (by decide) dL_witness_8 (fun H locs hP hD hS => ?_)
      have hP : va_P (gD G) vC [(qc, .inr (5, [.ref q, .ref qn, .ref qk, .ref qa, .ref qd, .int (zB true)])), (qa, .inr (0, [.ref r1, .int (nI ns), .long re, .int (nI d), .ref r2, .int (nI lr), .int (nI rt), .long vi])), (r2, aI G 64 wy), (qb, aJ G 1 (va_up bx 0 (Int32.toInt64 (-1))))] H := hP
      have hD : va_D A [(qc, .inr (5, [.ref q, .ref qn, .ref qk, .ref qa, .ref qd, .int (zB true)])), (qa, .inr (0, [.ref r1, .int (nI ns), .long re, .int (nI d), .ref r2, .int (nI lr), .int (nI rt), .long vi])), (r2, aI G 64 wy), (qb, aJ G 1 (va_up bx 0 (Int32.toInt64 (-1))))] := hD
      refine lv_goto (tgt := 15) hx hb dL_witness_9 rfl ?_
      refine lv_iconst (v := nI 0) hx hb dL_witness_15 (by decide) ?_
      -- end 1
      rw [← hQ]
      exact vx_ret (k_iret hx hb hr hlocks rfl (u := (va_up bx 0 (Int32.toInt64 (-1)))) (Or.inr ⟨hc4_e, rfl, rfl⟩) hP hD hK hS dL_witness_16)
  rw [hH, hlc] at hgo
  exact hgo
set_option maxRecDepth 100000 in
set_option maxHeartbeats 4000000 in
theorem k_L_count_ok (l : Launch) (htr : l.stackTraces = false) (G : GG) (sz : Nat) (qc : Nat) (q : Nat) (qn : Nat) (qk : Nat) (qa : Nat) (qd : Nat) (r1 : Nat) (r2 : Nat) (ns : Nat) (re : Int64) (sp : Int32) (lr : Nat) (rt : Nat) (vi : Int64) (na : Nat → Int64) (k1 : Nat) (k2 : Nat) (k3 : Nat) (k4 : Nat) (la : Nat) (ss : Nat) (ii : Nat) (ks : Nat) (kb : Int64) (Nf : Nat → Int64) (x : Int32) (qb : Nat) (bx : Nat → Int64) (hns : 1 ≤ ns ∧ ns ≤ 64) (hna : ∀ j, j < ns → na j = Nf j) (hst : ∀ j, ns - 1 ≤ j → Nf j = Nf (ns - 1)) : vx_Met l yL_count (Cond.codeWith yL_count cL_count 4 (some .int) [(0, 9, 12, 21)] :: TBX) { frames := 5, cells := 0, slots := 0, locals := 97 } (va_Pc [.ref qc, .int x, .ref qb] (befX G [(qc, .inr (5, [.ref q, .ref qn, .ref qk, .ref qa, .ref qd, .int (zB true)])), (qa, .inr (0, [.ref r1, .int (nI ns), .long re, .int sp, .ref r2, .int (nI lr), .int (nI rt), .long vi])), (r1, aJ G 64 na), (qk, .inr (2, [.ref k1, .int (nI la), .int (nI ss), .int (nI ii), .int (nI ks), .ref k2, .ref k3, .ref k4, .long kb])), (qb, aJ G 1 bx)] sz)) (va_Qi (fun (r : Int32) (u : (Nat → Int64)) => (∃ (j : Nat), (j < 4 ∧ x = nI j) ∧ (j = 0 → sp = (-1)) ∧ nI 0 = r ∧ va_up bx 0 (Int32.toInt64 (nI (cn (sel4 j vi re kb (Nf (ns - 1))) 64))) = u) ∨ ((∀ j, j < 4 → x = nI j → (j = 0 ∧ ¬ sp = (-1))) ∧ nI 0 = r ∧ va_up bx 0 (Int32.toInt64 (-1)) = u)) (fun u => aft G (va_A [(qc, .inr (5, [.ref q, .ref qn, .ref qk, .ref qa, .ref qd, .int (zB true)])), (qa, .inr (0, [.ref r1, .int (nI ns), .long re, .int sp, .ref r2, .int (nI lr), .int (nI rt), .long vi])), (r1, aJ G 64 na), (qk, .inr (2, [.ref k1, .int (nI la), .int (nI ss), .int (nI ii), .int (nI ks), .ref k2, .ref k3, .ref k4, .long kb])), (qb, aJ G 1 bx)] sz) ((fun (u : (Nat → Int64)) => [(qc, .inr (5, [.ref q, .ref qn, .ref qk, .ref qa, .ref qd, .int (zB true)])), (qa, .inr (0, [.ref r1, .int (nI ns), .long re, .int sp, .ref r2, .int (nI lr), .int (nI rt), .long vi])), (r1, aJ G 64 na), (qk, .inr (2, [.ref k1, .int (nI la), .int (nI ss), .int (nI ii), .int (nI ks), .ref k2, .ref k3, .ref k4, .long kb])), (qb, aJ G 1 u)]) u)) (va_A [(qc, .inr (5, [.ref q, .ref qn, .ref qk, .ref qa, .ref qd, .int (zB true)])), (qa, .inr (0, [.ref r1, .int (nI ns), .long re, .int sp, .ref r2, .int (nI lr), .int (nI rt), .long vi])), (r1, aJ G 64 na), (qk, .inr (2, [.ref k1, .int (nI la), .int (nI ss), .int (nI ii), .int (nI ks), .ref k2, .ref k3, .ref k4, .long kb])), (qb, aJ G 1 bx)] sz)) (fun _ _ _ => False) 0 0 (va_A [(qc, .inr (5, [.ref q, .ref qn, .ref qk, .ref qa, .ref qd, .int (zB true)])), (qa, .inr (0, [.ref r1, .int (nI ns), .long re, .int sp, .ref r2, .int (nI lr), .int (nI rt), .long vi])), (r1, aJ G 64 na), (qk, .inr (2, [.ref k1, .int (nI la), .int (nI ss), .int (nI ii), .int (nI ks), .ref k2, .ref k3, .ref k4, .long kb])), (qb, aJ G 1 bx)] sz) := by
  refine vx_ofWH (cc := cL_count) (maxL := 4) (ret := (some .int)) (by decide) rfl ?_
  intro p e s m args below meth c s₁ B hml hv
  obtain ⟨hav, ⟨hsz, hP, hK, hD0, hE⟩, hDX⟩ := hv
  have hx := B.exec
  have hb := B.bytes
  have hr := B.returns
  have hTX : ∀ w ∈ TBX, w.before args s = true := fun w h => atoms_spec (ws := Cond.codeWith yL_count cL_count 4 (some .int) [(0, 9, 12, 21)] :: TBX) B.pre w (List.mem_cons_of_mem _ h)
  have htb : ∀ w ∈ TB, w.before args s = true := fun w h => hTX w (List.mem_append_left _ h)
  have hown : s.vm.findClass "CircuitProverLaw" = some m.cls := findClass_of_methodNamed B.named
  have hlocks := B.notSynchronized
  subst hsz
  have hD := hD0.self (sz := s.heap.size)
  clear hD0
  generalize hRm : (headSpec (Cond.codeWith yL_count cL_count 4 (some .int) [(0, 9, 12, 21)] :: TBX) { frames := 5, cells := 0, slots := 0, locals := 97 }).room = R
  have hRf : R.frames = 5 := by rw [← hRm]; rfl
  have hRl : R.locals = 97 := by rw [← hRm]; rfl
  have hRc : R.cells = 0 := by rw [← hRm]; rfl
  have hRs : R.slots = 0 := by rw [← hRm]; rfl
  clear hRm
  generalize hAe : va_A [(qc, .inr (5, [.ref q, .ref qn, .ref qk, .ref qa, .ref qd, .int (zB true)])), (qa, .inr (0, [.ref r1, .int (nI ns), .long re, .int sp, .ref r2, .int (nI lr), .int (nI rt), .long vi])), (r1, aJ G 64 na), (qk, .inr (2, [.ref k1, .int (nI la), .int (nI ss), .int (nI ii), .int (nI ks), .ref k2, .ref k3, .ref k4, .long kb])), (qb, aJ G 1 bx)] s.heap.size = A at hD hE ⊢
  have hA : ∀ q : Nat, s.heap.size ≤ q → A q := fun q h => by rw [← hAe]; exact Or.inr h
  clear hAe
  have hS : va_S A s.heap s.heap [] := va_S.rf
  have hl := lv_entry ([.ref qc, .int x, .ref qb]) (n := 4) (Nat.le_of_ble_eq_true rfl)
  have hent := lg_entry_eq m ([.ref qc, .int x, .ref qb]) 4
  rw [← hav] at hent
  rw [hent]
  clear hent hav
  generalize (lg_sl ([.ref qc, .int x, .ref qb]) ++ List.replicate (4 - (lg_sl ([.ref qc, .int x, .ref qb])).length) Slot.unset).toArray = ls at hl ⊢
  have hl : lv_has ls 4 [(0, .ref qc), (1, .int x), (2, .ref qb)] := hl
  generalize hQ : vx_MQ below _ _ args s 0 0 _ = Q
  have hP : va_P (gD G) vC [(qc, .inr (5, [.ref q, .ref qn, .ref qk, .ref qa, .ref qd, .int (zB true)])), (qa, .inr (0, [.ref r1, .int (nI ns), .long re, .int sp, .ref r2, .int (nI lr), .int (nI rt), .long vi])), (r1, aJ G 64 na), (qk, .inr (2, [.ref k1, .int (nI la), .int (nI ss), .int (nI ii), .int (nI ks), .ref k2, .ref k3, .ref k4, .long kb])), (qb, aJ G 1 bx)] s.heap := hP
  obtain ⟨H, hH⟩ : ∃ H : Heap, H = s.heap := ⟨_, rfl⟩
  obtain ⟨locs, hlc⟩ : ∃ L : List Loc, L = [] := ⟨_, rfl⟩
  have hS : va_S A s.heap H locs := by rw [hH, hlc]; exact hS
  have hP : va_P (gD G) vC [(qc, .inr (5, [.ref q, .ref qn, .ref qk, .ref qa, .ref qd, .int (zB true)])), (qa, .inr (0, [.ref r1, .int (nI ns), .long re, .int sp, .ref r2, .int (nI lr), .int (nI rt), .long vi])), (r1, aJ G 64 na), (qk, .inr (2, [.ref k1, .int (nI la), .int (nI ss), .int (nI ii), .int (nI ks), .ref k2, .ref k3, .ref k4, .long kb])), (qb, aJ G 1 bx)] H := by rw [hH]; exact hP
  have hgo : W p l e R s m args below meth c H locs 0 0 Q (F0 m 0 ls []) := by
    clear hH hlc
    refine lv_aload_n hx hb dL_count_0 rfl (lv_at hl 2 rfl) ?_
    refine lv_iconst (v := nI 0) hx hb dL_count_1 (by decide) ?_
    refine lv_aload_n hx hb dL_count_2 rfl (lv_at hl 0 rfl) ?_
    refine lv_iload_n hx hb dL_count_3 rfl (lv_at hl 1 rfl) ?_
    refine k_i (ws2 := fun u => [(qc, .inr (5, [.ref q, .ref qn, .ref qk, .ref qa, .ref qd, .int (zB true)])), (qa, .inr (0, [.ref r1, .int (nI ns), .long re, .int sp, .ref r2, .int (nI lr), .int (nI rt), .long vi])), (r1, aJ G 64 na), (qk, .inr (2, [.ref k1, .int (nI la), .int (nI ss), .int (nI ii), .int (nI ks), .ref k2, .ref k3, .ref k4, .long kb])), (qb, aJ G 1 bx)]) (wr := [(qb, aJ G 1 bx)]) (k_runV (n := 1) (As := [.int x]) (rest := [.int (nI 0), .ref qb]) hx hb hml hown htb hP hD hK hS hA hE (k_C_count_ok l G H.size qc q qn qk qa qd r1 r2 ns re sp lr rt vi na k1 k2 k3 k4 la ss ii ks kb Nf x (show 1 ≤ ns ∧ ns ≤ 64 from by omega) (show ∀ j, j < ns → na j = Nf j from hna) (show ∀ j, ns - 1 ≤ j → Nf j = Nf (ns - 1) from hst)) b619 b620 b621 b1 b622 (by decide +kernel) rfl rfl ⟨by rw [hRf]; exact Nat.le_of_ble_eq_true rfl, by rw [hRl]; exact Nat.le_of_ble_eq_true rfl⟩ [0, 1, 2, 3] rfl (by decide) 0 rfl rfl rfl rfl hl.1 rfl (Nat.le_of_ble_eq_true rfl) dL_count_4 ⟨Nat.zero_le _, Nat.zero_le _⟩) hP hD hS hA [0, 1, 2, 3] [4] [1, 2, 3, 4, 0] rfl rfl (by decide) (by decide) (fun u => rfl) (by decide) (fun r u H locs hw hP hD hS => ?_)
    rcases hw with ⟨j4, hc4_e, hc4_s, rfl, rfl⟩ | ⟨hc4_e, rfl, rfl⟩
    · skip
      have hP : va_P (gD G) vC [(qc, .inr (5, [.ref q, .ref qn, .ref qk, .ref qa, .ref qd, .int (zB true)])), (qa, .inr (0, [.ref r1, .int (nI ns), .long re, .int sp, .ref r2, .int (nI lr), .int (nI rt), .long vi])), (r1, aJ G 64 na), (qk, .inr (2, [.ref k1, .int (nI la), .int (nI ss), .int (nI ii), .int (nI ks), .ref k2, .ref k3, .ref k4, .long kb])), (qb, aJ G 1 bx)] H := hP
      have hD : va_D A [(qc, .inr (5, [.ref q, .ref qn, .ref qk, .ref qa, .ref qd, .int (zB true)])), (qa, .inr (0, [.ref r1, .int (nI ns), .long re, .int sp, .ref r2, .int (nI lr), .int (nI rt), .long vi])), (r1, aJ G 64 na), (qk, .inr (2, [.ref k1, .int (nI la), .int (nI ss), .int (nI ii), .int (nI ks), .ref k2, .ref k3, .ref k4, .long kb])), (qb, aJ G 1 bx)] := hD
      refine lv_i2l (v := Int32.toInt64 (nI (cn (sel4 j4 vi re kb (Nf (ns - 1))) 64))) hx hb dL_count_7 rfl ?_
      refine k_last hx hb hK hP hD hS 4 rfl (k := 0) (v := Int32.toInt64 (nI (cn (sel4 j4 vi re kb (Nf (ns - 1))) 64))) (by omega) (by decide) dL_count_8 (fun H locs hP hD hS => ?_)
      have hP : va_P (gD G) vC [(qc, .inr (5, [.ref q, .ref qn, .ref qk, .ref qa, .ref qd, .int (zB true)])), (qa, .inr (0, [.ref r1, .int (nI ns), .long re, .int sp, .ref r2, .int (nI lr), .int (nI rt), .long vi])), (r1, aJ G 64 na), (qk, .inr (2, [.ref k1, .int (nI la), .int (nI ss), .int (nI ii), .int (nI ks), .ref k2, .ref k3, .ref k4, .long kb])), (qb, aJ G 1 (va_up bx 0 (Int32.toInt64 (nI (cn (sel4 j4 vi re kb (Nf (ns - 1))) 64)))))] H := hP
      have hD : va_D A [(qc, .inr (5, [.ref q, .ref qn, .ref qk, .ref qa, .ref qd, .int (zB true)])), (qa, .inr (0, [.ref r1, .int (nI ns), .long re, .int sp, .ref r2, .int (nI lr), .int (nI rt), .long vi])), (r1, aJ G 64 na), (qk, .inr (2, [.ref k1, .int (nI la), .int (nI ss), .int (nI ii), .int (nI ks), .ref k2, .ref k3, .ref k4, .long kb])), (qb, aJ G 1 (va_up bx 0 (Int32.toInt64 (nI (cn (sel4 j4 vi re kb (Nf (ns - 1))) 64)))))] := hD
      refine lv_goto (tgt := 15) hx hb dL_count_9 rfl ?_
      refine lv_iconst (v := nI 0) hx hb dL_count_15 (by decide) ?_
      -- end 0
      rw [← hQ]
      exact vx_ret (k_iret hx hb hr hlocks rfl (u := (va_up bx 0 (Int32.toInt64 (nI (cn (sel4 j4 vi re kb (Nf (ns - 1))) 64))))) (Or.inl ⟨_, hc4_e, hc4_s, rfl, rfl⟩) hP hD hK hS dL_count_16)
    · skip
      have hP : va_P (gD G) vC [(qc, .inr (5, [.ref q, .ref qn, .ref qk, .ref qa, .ref qd, .int (zB true)])), (qa, .inr (0, [.ref r1, .int (nI ns), .long re, .int sp, .ref r2, .int (nI lr), .int (nI rt), .long vi])), (r1, aJ G 64 na), (qk, .inr (2, [.ref k1, .int (nI la), .int (nI ss), .int (nI ii), .int (nI ks), .ref k2, .ref k3, .ref k4, .long kb])), (qb, aJ G 1 bx)] H := hP
      have hD : va_D A [(qc, .inr (5, [.ref q, .ref qn, .ref qk, .ref qa, .ref qd, .int (zB true)])), (qa, .inr (0, [.ref r1, .int (nI ns), .long re, .int sp, .ref r2, .int (nI lr), .int (nI rt), .long vi])), (r1, aJ G 64 na), (qk, .inr (2, [.ref k1, .int (nI la), .int (nI ss), .int (nI ii), .int (nI ks), .ref k2, .ref k3, .ref k4, .long kb])), (qb, aJ G 1 bx)] := hD
      refine lv_i2l (v := Int32.toInt64 (-1)) hx hb dL_count_7 rfl ?_
      refine k_last hx hb hK hP hD hS 4 rfl (k := 0) (v := Int32.toInt64 (-1)) (by omega) (by decide) dL_count_8 (fun H locs hP hD hS => ?_)
      have hP : va_P (gD G) vC [(qc, .inr (5, [.ref q, .ref qn, .ref qk, .ref qa, .ref qd, .int (zB true)])), (qa, .inr (0, [.ref r1, .int (nI ns), .long re, .int sp, .ref r2, .int (nI lr), .int (nI rt), .long vi])), (r1, aJ G 64 na), (qk, .inr (2, [.ref k1, .int (nI la), .int (nI ss), .int (nI ii), .int (nI ks), .ref k2, .ref k3, .ref k4, .long kb])), (qb, aJ G 1 (va_up bx 0 (Int32.toInt64 (-1))))] H := hP
      have hD : va_D A [(qc, .inr (5, [.ref q, .ref qn, .ref qk, .ref qa, .ref qd, .int (zB true)])), (qa, .inr (0, [.ref r1, .int (nI ns), .long re, .int sp, .ref r2, .int (nI lr), .int (nI rt), .long vi])), (r1, aJ G 64 na), (qk, .inr (2, [.ref k1, .int (nI la), .int (nI ss), .int (nI ii), .int (nI ks), .ref k2, .ref k3, .ref k4, .long kb])), (qb, aJ G 1 (va_up bx 0 (Int32.toInt64 (-1))))] := hD
      refine lv_goto (tgt := 15) hx hb dL_count_9 rfl ?_
      refine lv_iconst (v := nI 0) hx hb dL_count_15 (by decide) ?_
      -- end 1
      rw [← hQ]
      exact vx_ret (k_iret hx hb hr hlocks rfl (u := (va_up bx 0 (Int32.toInt64 (-1)))) (Or.inr ⟨hc4_e, rfl, rfl⟩) hP hD hK hS dL_count_16)
  rw [hH, hlc] at hgo
  exact hgo
set_option maxRecDepth 100000 in
set_option maxHeartbeats 4000000 in
theorem k_L_size_ok (l : Launch) (htr : l.stackTraces = false) (G : GG) (sz : Nat) (qc : Nat) (q : Nat) (qn : Nat) (qk : Nat) (qa : Nat) (qd : Nat) (r1 : Nat) (r2 : Nat) (ns : Nat) (re : Int64) (sp : Int32) (lr : Nat) (rt : Nat) (vi : Int64) (na : Nat → Int64) (k1 : Nat) (k2 : Nat) (k3 : Nat) (k4 : Nat) (la : Nat) (ss : Nat) (ii : Nat) (ks : Nat) (kb : Int64) (d1 : Nat) (se : Nat → Int64) (Nf : Nat → Int64) (x : Int32) (qb : Nat) (bx : Nat → Int64) (hns : 1 ≤ ns ∧ ns ≤ 64) (hna : ∀ j, j < ns → na j = Nf j) (hst : ∀ j, ns - 1 ≤ j → Nf j = Nf (ns - 1)) (hla : la ≤ 6) : vx_Met l yL_size (Cond.codeWith yL_size cL_size 4 (some .int) [(0, 9, 12, 21)] :: TBX) { frames := 5, cells := 0, slots := 0, locals := 101 } (va_Pc [.ref qc, .int x, .ref qb] (befX G [(qc, .inr (5, [.ref q, .ref qn, .ref qk, .ref qa, .ref qd, .int (zB true)])), (qa, .inr (0, [.ref r1, .int (nI ns), .long re, .int sp, .ref r2, .int (nI lr), .int (nI rt), .long vi])), (r1, aJ G 64 na), (qk, .inr (2, [.ref k1, .int (nI la), .int (nI ss), .int (nI ii), .int (nI ks), .ref k2, .ref k3, .ref k4, .long kb])), (qd, .inr (1, [.ref d1])), (d1, aJ G 32 se), (qb, aJ G 1 bx)] sz)) (va_Qi (fun (r : Int32) (u : (Nat → Int64) × (Nat → Int64)) => (∃ (j : Nat), ∃ (s9 : Nat → Int64), (j < 4 ∧ x = nI j) ∧ (j = 0 → sp = (-1)) ∧ nI 0 = r ∧ (va_up bx 0 (Int32.toInt64 (nI (it (fun jx ax => ax + cntP (frB (sel4 j vi re kb (Nf (ns - 1))) (lz (2 ^ la) jx) jx) (2 ^ jx)) la 0))), s9) = u) ∨ ((∀ j, j < 4 → x = nI j → (j = 0 ∧ ¬ sp = (-1))) ∧ nI 0 = r ∧ (va_up bx 0 (Int32.toInt64 (-1)), se) = u)) (fun u => aft G (va_A [(qc, .inr (5, [.ref q, .ref qn, .ref qk, .ref qa, .ref qd, .int (zB true)])), (qa, .inr (0, [.ref r1, .int (nI ns), .long re, .int sp, .ref r2, .int (nI lr), .int (nI rt), .long vi])), (r1, aJ G 64 na), (qk, .inr (2, [.ref k1, .int (nI la), .int (nI ss), .int (nI ii), .int (nI ks), .ref k2, .ref k3, .ref k4, .long kb])), (qd, .inr (1, [.ref d1])), (d1, aJ G 32 se), (qb, aJ G 1 bx)] sz) ((fun (u : (Nat → Int64) × (Nat → Int64)) => [(qc, .inr (5, [.ref q, .ref qn, .ref qk, .ref qa, .ref qd, .int (zB true)])), (qa, .inr (0, [.ref r1, .int (nI ns), .long re, .int sp, .ref r2, .int (nI lr), .int (nI rt), .long vi])), (r1, aJ G 64 na), (qk, .inr (2, [.ref k1, .int (nI la), .int (nI ss), .int (nI ii), .int (nI ks), .ref k2, .ref k3, .ref k4, .long kb])), (qd, .inr (1, [.ref d1])), (d1, aJ G 32 u.2), (qb, aJ G 1 u.1)]) u)) (va_A [(qc, .inr (5, [.ref q, .ref qn, .ref qk, .ref qa, .ref qd, .int (zB true)])), (qa, .inr (0, [.ref r1, .int (nI ns), .long re, .int sp, .ref r2, .int (nI lr), .int (nI rt), .long vi])), (r1, aJ G 64 na), (qk, .inr (2, [.ref k1, .int (nI la), .int (nI ss), .int (nI ii), .int (nI ks), .ref k2, .ref k3, .ref k4, .long kb])), (qd, .inr (1, [.ref d1])), (d1, aJ G 32 se), (qb, aJ G 1 bx)] sz)) (fun _ _ _ => False) 0 0 (va_A [(qc, .inr (5, [.ref q, .ref qn, .ref qk, .ref qa, .ref qd, .int (zB true)])), (qa, .inr (0, [.ref r1, .int (nI ns), .long re, .int sp, .ref r2, .int (nI lr), .int (nI rt), .long vi])), (r1, aJ G 64 na), (qk, .inr (2, [.ref k1, .int (nI la), .int (nI ss), .int (nI ii), .int (nI ks), .ref k2, .ref k3, .ref k4, .long kb])), (qd, .inr (1, [.ref d1])), (d1, aJ G 32 se), (qb, aJ G 1 bx)] sz) := by
  refine vx_ofWH (cc := cL_size) (maxL := 4) (ret := (some .int)) (by decide) rfl ?_
  intro p e s m args below meth c s₁ B hml hv
  obtain ⟨hav, ⟨hsz, hP, hK, hD0, hE⟩, hDX⟩ := hv
  have hx := B.exec
  have hb := B.bytes
  have hr := B.returns
  have hTX : ∀ w ∈ TBX, w.before args s = true := fun w h => atoms_spec (ws := Cond.codeWith yL_size cL_size 4 (some .int) [(0, 9, 12, 21)] :: TBX) B.pre w (List.mem_cons_of_mem _ h)
  have htb : ∀ w ∈ TB, w.before args s = true := fun w h => hTX w (List.mem_append_left _ h)
  have hown : s.vm.findClass "CircuitProverLaw" = some m.cls := findClass_of_methodNamed B.named
  have hlocks := B.notSynchronized
  subst hsz
  have hD := hD0.self (sz := s.heap.size)
  clear hD0
  generalize hRm : (headSpec (Cond.codeWith yL_size cL_size 4 (some .int) [(0, 9, 12, 21)] :: TBX) { frames := 5, cells := 0, slots := 0, locals := 101 }).room = R
  have hRf : R.frames = 5 := by rw [← hRm]; rfl
  have hRl : R.locals = 101 := by rw [← hRm]; rfl
  have hRc : R.cells = 0 := by rw [← hRm]; rfl
  have hRs : R.slots = 0 := by rw [← hRm]; rfl
  clear hRm
  generalize hAe : va_A [(qc, .inr (5, [.ref q, .ref qn, .ref qk, .ref qa, .ref qd, .int (zB true)])), (qa, .inr (0, [.ref r1, .int (nI ns), .long re, .int sp, .ref r2, .int (nI lr), .int (nI rt), .long vi])), (r1, aJ G 64 na), (qk, .inr (2, [.ref k1, .int (nI la), .int (nI ss), .int (nI ii), .int (nI ks), .ref k2, .ref k3, .ref k4, .long kb])), (qd, .inr (1, [.ref d1])), (d1, aJ G 32 se), (qb, aJ G 1 bx)] s.heap.size = A at hD hE ⊢
  have hA : ∀ q : Nat, s.heap.size ≤ q → A q := fun q h => by rw [← hAe]; exact Or.inr h
  clear hAe
  have hS : va_S A s.heap s.heap [] := va_S.rf
  have hl := lv_entry ([.ref qc, .int x, .ref qb]) (n := 4) (Nat.le_of_ble_eq_true rfl)
  have hent := lg_entry_eq m ([.ref qc, .int x, .ref qb]) 4
  rw [← hav] at hent
  rw [hent]
  clear hent hav
  generalize (lg_sl ([.ref qc, .int x, .ref qb]) ++ List.replicate (4 - (lg_sl ([.ref qc, .int x, .ref qb])).length) Slot.unset).toArray = ls at hl ⊢
  have hl : lv_has ls 4 [(0, .ref qc), (1, .int x), (2, .ref qb)] := hl
  generalize hQ : vx_MQ below _ _ args s 0 0 _ = Q
  have hP : va_P (gD G) vC [(qc, .inr (5, [.ref q, .ref qn, .ref qk, .ref qa, .ref qd, .int (zB true)])), (qa, .inr (0, [.ref r1, .int (nI ns), .long re, .int sp, .ref r2, .int (nI lr), .int (nI rt), .long vi])), (r1, aJ G 64 na), (qk, .inr (2, [.ref k1, .int (nI la), .int (nI ss), .int (nI ii), .int (nI ks), .ref k2, .ref k3, .ref k4, .long kb])), (qd, .inr (1, [.ref d1])), (d1, aJ G 32 se), (qb, aJ G 1 bx)] s.heap := hP
  obtain ⟨H, hH⟩ : ∃ H : Heap, H = s.heap := ⟨_, rfl⟩
  obtain ⟨locs, hlc⟩ : ∃ L : List Loc, L = [] := ⟨_, rfl⟩
  have hS : va_S A s.heap H locs := by rw [hH, hlc]; exact hS
  have hP : va_P (gD G) vC [(qc, .inr (5, [.ref q, .ref qn, .ref qk, .ref qa, .ref qd, .int (zB true)])), (qa, .inr (0, [.ref r1, .int (nI ns), .long re, .int sp, .ref r2, .int (nI lr), .int (nI rt), .long vi])), (r1, aJ G 64 na), (qk, .inr (2, [.ref k1, .int (nI la), .int (nI ss), .int (nI ii), .int (nI ks), .ref k2, .ref k3, .ref k4, .long kb])), (qd, .inr (1, [.ref d1])), (d1, aJ G 32 se), (qb, aJ G 1 bx)] H := by rw [hH]; exact hP
  have hgo : W p l e R s m args below meth c H locs 0 0 Q (F0 m 0 ls []) := by
    clear hH hlc
    refine lv_aload_n hx hb dL_size_0 rfl (lv_at hl 2 rfl) ?_
    refine lv_iconst (v := nI 0) hx hb dL_size_1 (by decide) ?_
    refine lv_aload_n hx hb dL_size_2 rfl (lv_at hl 0 rfl) ?_
    refine lv_iload_n hx hb dL_size_3 rfl (lv_at hl 1 rfl) ?_
    refine k_i (ws2 := fun u => [(qc, .inr (5, [.ref q, .ref qn, .ref qk, .ref qa, .ref qd, .int (zB true)])), (qa, .inr (0, [.ref r1, .int (nI ns), .long re, .int sp, .ref r2, .int (nI lr), .int (nI rt), .long vi])), (r1, aJ G 64 na), (qk, .inr (2, [.ref k1, .int (nI la), .int (nI ss), .int (nI ii), .int (nI ks), .ref k2, .ref k3, .ref k4, .long kb])), (qd, .inr (1, [.ref d1])), (d1, aJ G 32 (u)), (qb, aJ G 1 bx)]) (wr := [(qb, aJ G 1 bx)]) (k_runV (n := 1) (As := [.int x]) (rest := [.int (nI 0), .ref qb]) hx hb hml hown htb hP hD hK hS hA hE (k_C_size_ok l G H.size qc q qn qk qa qd r1 r2 ns re sp lr rt vi na k1 k2 k3 k4 la ss ii ks kb d1 se Nf x (show 1 ≤ ns ∧ ns ≤ 64 from by omega) (show ∀ j, j < ns → na j = Nf j from hna) (show ∀ j, ns - 1 ≤ j → Nf j = Nf (ns - 1) from hst) (show la ≤ 6 from by omega)) b644 b645 b646 b1 b647 (by decide +kernel) rfl rfl ⟨by rw [hRf]; exact Nat.le_of_ble_eq_true rfl, by rw [hRl]; exact Nat.le_of_ble_eq_true rfl⟩ [0, 1, 2, 3, 4, 5] rfl (by decide) 0 rfl rfl rfl rfl hl.1 rfl (Nat.le_of_ble_eq_true rfl) dL_size_4 ⟨Nat.zero_le _, Nat.zero_le _⟩) hP hD hS hA [0, 1, 2, 3, 4, 5] [6] [1, 2, 3, 4, 5, 6, 0] rfl rfl (by decide) (by decide) (fun u => rfl) (by decide) (fun r u H locs hw hP hD hS => ?_)
    rcases hw with ⟨j4, s94, hc4_e, hc4_s, rfl, rfl⟩ | ⟨hc4_e, rfl, rfl⟩
    · skip
      have hP : va_P (gD G) vC [(qc, .inr (5, [.ref q, .ref qn, .ref qk, .ref qa, .ref qd, .int (zB true)])), (qa, .inr (0, [.ref r1, .int (nI ns), .long re, .int sp, .ref r2, .int (nI lr), .int (nI rt), .long vi])), (r1, aJ G 64 na), (qk, .inr (2, [.ref k1, .int (nI la), .int (nI ss), .int (nI ii), .int (nI ks), .ref k2, .ref k3, .ref k4, .long kb])), (qd, .inr (1, [.ref d1])), (d1, aJ G 32 s94), (qb, aJ G 1 bx)] H := hP
      have hD : va_D A [(qc, .inr (5, [.ref q, .ref qn, .ref qk, .ref qa, .ref qd, .int (zB true)])), (qa, .inr (0, [.ref r1, .int (nI ns), .long re, .int sp, .ref r2, .int (nI lr), .int (nI rt), .long vi])), (r1, aJ G 64 na), (qk, .inr (2, [.ref k1, .int (nI la), .int (nI ss), .int (nI ii), .int (nI ks), .ref k2, .ref k3, .ref k4, .long kb])), (qd, .inr (1, [.ref d1])), (d1, aJ G 32 s94), (qb, aJ G 1 bx)] := hD
      refine lv_i2l (v := Int32.toInt64 (nI (it (fun jx ax => ax + cntP (frB (sel4 j4 vi re kb (Nf (ns - 1))) (lz (2 ^ la) jx) jx) (2 ^ jx)) la 0))) hx hb dL_size_7 rfl ?_
      refine k_last hx hb hK hP hD hS 6 rfl (k := 0) (v := Int32.toInt64 (nI (it (fun jx ax => ax + cntP (frB (sel4 j4 vi re kb (Nf (ns - 1))) (lz (2 ^ la) jx) jx) (2 ^ jx)) la 0))) (by omega) (by decide) dL_size_8 (fun H locs hP hD hS => ?_)
      have hP : va_P (gD G) vC [(qc, .inr (5, [.ref q, .ref qn, .ref qk, .ref qa, .ref qd, .int (zB true)])), (qa, .inr (0, [.ref r1, .int (nI ns), .long re, .int sp, .ref r2, .int (nI lr), .int (nI rt), .long vi])), (r1, aJ G 64 na), (qk, .inr (2, [.ref k1, .int (nI la), .int (nI ss), .int (nI ii), .int (nI ks), .ref k2, .ref k3, .ref k4, .long kb])), (qd, .inr (1, [.ref d1])), (d1, aJ G 32 s94), (qb, aJ G 1 (va_up bx 0 (Int32.toInt64 (nI (it (fun jx ax => ax + cntP (frB (sel4 j4 vi re kb (Nf (ns - 1))) (lz (2 ^ la) jx) jx) (2 ^ jx)) la 0)))))] H := hP
      have hD : va_D A [(qc, .inr (5, [.ref q, .ref qn, .ref qk, .ref qa, .ref qd, .int (zB true)])), (qa, .inr (0, [.ref r1, .int (nI ns), .long re, .int sp, .ref r2, .int (nI lr), .int (nI rt), .long vi])), (r1, aJ G 64 na), (qk, .inr (2, [.ref k1, .int (nI la), .int (nI ss), .int (nI ii), .int (nI ks), .ref k2, .ref k3, .ref k4, .long kb])), (qd, .inr (1, [.ref d1])), (d1, aJ G 32 s94), (qb, aJ G 1 (va_up bx 0 (Int32.toInt64 (nI (it (fun jx ax => ax + cntP (frB (sel4 j4 vi re kb (Nf (ns - 1))) (lz (2 ^ la) jx) jx) (2 ^ jx)) la 0)))))] := hD
      refine lv_goto (tgt := 15) hx hb dL_size_9 rfl ?_
      refine lv_iconst (v := nI 0) hx hb dL_size_15 (by decide) ?_
      -- end 0
      rw [← hQ]
      exact vx_ret (k_iret hx hb hr hlocks rfl (u := (va_up bx 0 (Int32.toInt64 (nI (it (fun jx ax => ax + cntP (frB (sel4 j4 vi re kb (Nf (ns - 1))) (lz (2 ^ la) jx) jx) (2 ^ jx)) la 0))), s94)) (Or.inl ⟨_, _, hc4_e, hc4_s, rfl, rfl⟩) hP hD hK hS dL_size_16)
    · skip
      have hP : va_P (gD G) vC [(qc, .inr (5, [.ref q, .ref qn, .ref qk, .ref qa, .ref qd, .int (zB true)])), (qa, .inr (0, [.ref r1, .int (nI ns), .long re, .int sp, .ref r2, .int (nI lr), .int (nI rt), .long vi])), (r1, aJ G 64 na), (qk, .inr (2, [.ref k1, .int (nI la), .int (nI ss), .int (nI ii), .int (nI ks), .ref k2, .ref k3, .ref k4, .long kb])), (qd, .inr (1, [.ref d1])), (d1, aJ G 32 se), (qb, aJ G 1 bx)] H := hP
      have hD : va_D A [(qc, .inr (5, [.ref q, .ref qn, .ref qk, .ref qa, .ref qd, .int (zB true)])), (qa, .inr (0, [.ref r1, .int (nI ns), .long re, .int sp, .ref r2, .int (nI lr), .int (nI rt), .long vi])), (r1, aJ G 64 na), (qk, .inr (2, [.ref k1, .int (nI la), .int (nI ss), .int (nI ii), .int (nI ks), .ref k2, .ref k3, .ref k4, .long kb])), (qd, .inr (1, [.ref d1])), (d1, aJ G 32 se), (qb, aJ G 1 bx)] := hD
      refine lv_i2l (v := Int32.toInt64 (-1)) hx hb dL_size_7 rfl ?_
      refine k_last hx hb hK hP hD hS 6 rfl (k := 0) (v := Int32.toInt64 (-1)) (by omega) (by decide) dL_size_8 (fun H locs hP hD hS => ?_)
      have hP : va_P (gD G) vC [(qc, .inr (5, [.ref q, .ref qn, .ref qk, .ref qa, .ref qd, .int (zB true)])), (qa, .inr (0, [.ref r1, .int (nI ns), .long re, .int sp, .ref r2, .int (nI lr), .int (nI rt), .long vi])), (r1, aJ G 64 na), (qk, .inr (2, [.ref k1, .int (nI la), .int (nI ss), .int (nI ii), .int (nI ks), .ref k2, .ref k3, .ref k4, .long kb])), (qd, .inr (1, [.ref d1])), (d1, aJ G 32 se), (qb, aJ G 1 (va_up bx 0 (Int32.toInt64 (-1))))] H := hP
      have hD : va_D A [(qc, .inr (5, [.ref q, .ref qn, .ref qk, .ref qa, .ref qd, .int (zB true)])), (qa, .inr (0, [.ref r1, .int (nI ns), .long re, .int sp, .ref r2, .int (nI lr), .int (nI rt), .long vi])), (r1, aJ G 64 na), (qk, .inr (2, [.ref k1, .int (nI la), .int (nI ss), .int (nI ii), .int (nI ks), .ref k2, .ref k3, .ref k4, .long kb])), (qd, .inr (1, [.ref d1])), (d1, aJ G 32 se), (qb, aJ G 1 (va_up bx 0 (Int32.toInt64 (-1))))] := hD
      refine lv_goto (tgt := 15) hx hb dL_size_9 rfl ?_
      refine lv_iconst (v := nI 0) hx hb dL_size_15 (by decide) ?_
      -- end 1
      rw [← hQ]
      exact vx_ret (k_iret hx hb hr hlocks rfl (u := (va_up bx 0 (Int32.toInt64 (-1)), se)) (Or.inr ⟨hc4_e, rfl, rfl⟩) hP hD hK hS dL_size_16)
  rw [hH, hlc] at hgo
  exact hgo
set_option maxRecDepth 100000 in
set_option maxHeartbeats 4000000 in
theorem k_L_holds_ok (l : Launch) (htr : l.stackTraces = false) (G : GG) (sz : Nat) (qc : Nat) (q : Nat) (qn : Nat) (qk : Nat) (qa : Nat) (qd : Nat) (r1 : Nat) (r2 : Nat) (ns : Nat) (re : Int64) (sp : Int32) (lr : Nat) (rt : Nat) (vi : Int64) (k1 : Nat) (k2 : Nat) (k3 : Nat) (k4 : Nat) (la : Nat) (ss : Nat) (ii : Nat) (ks : Nat) (kb : Int64) (x : Int32) (qb : Nat) (bx : Nat → Int64) (hz : ss ≤ 64) : vx_Met l yL_holds (Cond.codeWith yL_holds cL_holds 4 (some .int) [(0, 16, 19, 21)] :: TBX) { frames := 2, cells := 0, slots := 0, locals := 43 } (va_Pc [.ref qc, .int x, .ref qb] (befX G [(qc, .inr (5, [.ref q, .ref qn, .ref qk, .ref qa, .ref qd, .int (zB true)])), (qa, .inr (0, [.ref r1, .int (nI ns), .long re, .int sp, .ref r2, .int (nI lr), .int (nI rt), .long vi])), (qk, .inr (2, [.ref k1, .int (nI la), .int (nI ss), .int (nI ii), .int (nI ks), .ref k2, .ref k3, .ref k4, .long kb])), (qb, aJ G 1 bx)] sz)) (va_Qi (fun (r : Int32) (u : (Nat → Int64)) => (∃ (j : Nat), sp = (-1) ∧ (j < ss ∧ x = nI j) ∧ lb vi j = true ∧ nI 0 = r ∧ va_up bx 0 (1) = u) ∨ (∃ (j : Nat), sp = (-1) ∧ (j < ss ∧ x = nI j) ∧ lb vi j = false ∧ nI 0 = r ∧ va_up bx 0 (0) = u) ∨ (¬ sp = (-1) ∧ nI 0 = r ∧ va_up bx 0 (0) = u) ∨ (sp = (-1) ∧ (∀ j, j < ss → ¬ x = nI j) ∧ nI 0 = r ∧ va_up bx 0 (0) = u)) (fun u => aft G (va_A [(qc, .inr (5, [.ref q, .ref qn, .ref qk, .ref qa, .ref qd, .int (zB true)])), (qa, .inr (0, [.ref r1, .int (nI ns), .long re, .int sp, .ref r2, .int (nI lr), .int (nI rt), .long vi])), (qk, .inr (2, [.ref k1, .int (nI la), .int (nI ss), .int (nI ii), .int (nI ks), .ref k2, .ref k3, .ref k4, .long kb])), (qb, aJ G 1 bx)] sz) ((fun (u : (Nat → Int64)) => [(qc, .inr (5, [.ref q, .ref qn, .ref qk, .ref qa, .ref qd, .int (zB true)])), (qa, .inr (0, [.ref r1, .int (nI ns), .long re, .int sp, .ref r2, .int (nI lr), .int (nI rt), .long vi])), (qk, .inr (2, [.ref k1, .int (nI la), .int (nI ss), .int (nI ii), .int (nI ks), .ref k2, .ref k3, .ref k4, .long kb])), (qb, aJ G 1 u)]) u)) (va_A [(qc, .inr (5, [.ref q, .ref qn, .ref qk, .ref qa, .ref qd, .int (zB true)])), (qa, .inr (0, [.ref r1, .int (nI ns), .long re, .int sp, .ref r2, .int (nI lr), .int (nI rt), .long vi])), (qk, .inr (2, [.ref k1, .int (nI la), .int (nI ss), .int (nI ii), .int (nI ks), .ref k2, .ref k3, .ref k4, .long kb])), (qb, aJ G 1 bx)] sz)) (fun _ _ _ => False) 0 0 (va_A [(qc, .inr (5, [.ref q, .ref qn, .ref qk, .ref qa, .ref qd, .int (zB true)])), (qa, .inr (0, [.ref r1, .int (nI ns), .long re, .int sp, .ref r2, .int (nI lr), .int (nI rt), .long vi])), (qk, .inr (2, [.ref k1, .int (nI la), .int (nI ss), .int (nI ii), .int (nI ks), .ref k2, .ref k3, .ref k4, .long kb])), (qb, aJ G 1 bx)] sz) := by
  refine vx_ofWH (cc := cL_holds) (maxL := 4) (ret := (some .int)) (by decide) rfl ?_
  intro p e s m args below meth c s₁ B hml hv
  obtain ⟨hav, ⟨hsz, hP, hK, hD0, hE⟩, hDX⟩ := hv
  have hx := B.exec
  have hb := B.bytes
  have hr := B.returns
  have hTX : ∀ w ∈ TBX, w.before args s = true := fun w h => atoms_spec (ws := Cond.codeWith yL_holds cL_holds 4 (some .int) [(0, 16, 19, 21)] :: TBX) B.pre w (List.mem_cons_of_mem _ h)
  have htb : ∀ w ∈ TB, w.before args s = true := fun w h => hTX w (List.mem_append_left _ h)
  have hown : s.vm.findClass "CircuitProverLaw" = some m.cls := findClass_of_methodNamed B.named
  have hlocks := B.notSynchronized
  subst hsz
  have hD := hD0.self (sz := s.heap.size)
  clear hD0
  generalize hRm : (headSpec (Cond.codeWith yL_holds cL_holds 4 (some .int) [(0, 16, 19, 21)] :: TBX) { frames := 2, cells := 0, slots := 0, locals := 43 }).room = R
  have hRf : R.frames = 2 := by rw [← hRm]; rfl
  have hRl : R.locals = 43 := by rw [← hRm]; rfl
  have hRc : R.cells = 0 := by rw [← hRm]; rfl
  have hRs : R.slots = 0 := by rw [← hRm]; rfl
  clear hRm
  generalize hAe : va_A [(qc, .inr (5, [.ref q, .ref qn, .ref qk, .ref qa, .ref qd, .int (zB true)])), (qa, .inr (0, [.ref r1, .int (nI ns), .long re, .int sp, .ref r2, .int (nI lr), .int (nI rt), .long vi])), (qk, .inr (2, [.ref k1, .int (nI la), .int (nI ss), .int (nI ii), .int (nI ks), .ref k2, .ref k3, .ref k4, .long kb])), (qb, aJ G 1 bx)] s.heap.size = A at hD hE ⊢
  have hA : ∀ q : Nat, s.heap.size ≤ q → A q := fun q h => by rw [← hAe]; exact Or.inr h
  clear hAe
  have hS : va_S A s.heap s.heap [] := va_S.rf
  have hl := lv_entry ([.ref qc, .int x, .ref qb]) (n := 4) (Nat.le_of_ble_eq_true rfl)
  have hent := lg_entry_eq m ([.ref qc, .int x, .ref qb]) 4
  rw [← hav] at hent
  rw [hent]
  clear hent hav
  generalize (lg_sl ([.ref qc, .int x, .ref qb]) ++ List.replicate (4 - (lg_sl ([.ref qc, .int x, .ref qb])).length) Slot.unset).toArray = ls at hl ⊢
  have hl : lv_has ls 4 [(0, .ref qc), (1, .int x), (2, .ref qb)] := hl
  generalize hQ : vx_MQ below _ _ args s 0 0 _ = Q
  have hP : va_P (gD G) vC [(qc, .inr (5, [.ref q, .ref qn, .ref qk, .ref qa, .ref qd, .int (zB true)])), (qa, .inr (0, [.ref r1, .int (nI ns), .long re, .int sp, .ref r2, .int (nI lr), .int (nI rt), .long vi])), (qk, .inr (2, [.ref k1, .int (nI la), .int (nI ss), .int (nI ii), .int (nI ks), .ref k2, .ref k3, .ref k4, .long kb])), (qb, aJ G 1 bx)] s.heap := hP
  obtain ⟨H, hH⟩ : ∃ H : Heap, H = s.heap := ⟨_, rfl⟩
  obtain ⟨locs, hlc⟩ : ∃ L : List Loc, L = [] := ⟨_, rfl⟩
  have hS : va_S A s.heap H locs := by rw [hH, hlc]; exact hS
  have hP : va_P (gD G) vC [(qc, .inr (5, [.ref q, .ref qn, .ref qk, .ref qa, .ref qd, .int (zB true)])), (qa, .inr (0, [.ref r1, .int (nI ns), .long re, .int sp, .ref r2, .int (nI lr), .int (nI rt), .long vi])), (qk, .inr (2, [.ref k1, .int (nI la), .int (nI ss), .int (nI ii), .int (nI ks), .ref k2, .ref k3, .ref k4, .long kb])), (qb, aJ G 1 bx)] H := by rw [hH]; exact hP
  have hgo : W p l e R s m args below meth c H locs 0 0 Q (F0 m 0 ls []) := by
    clear hH hlc
    refine lv_aload_n hx hb dL_holds_0 rfl (lv_at hl 2 rfl) ?_
    refine lv_iconst (v := nI 0) hx hb dL_holds_1 (by decide) ?_
    refine lv_aload_n hx hb dL_holds_2 rfl (lv_at hl 0 rfl) ?_
    refine lv_iload_n hx hb dL_holds_3 rfl (lv_at hl 1 rfl) ?_
    refine k_i (ws2 := fun u => [(qc, .inr (5, [.ref q, .ref qn, .ref qk, .ref qa, .ref qd, .int (zB true)])), (qa, .inr (0, [.ref r1, .int (nI ns), .long re, .int sp, .ref r2, .int (nI lr), .int (nI rt), .long vi])), (qk, .inr (2, [.ref k1, .int (nI la), .int (nI ss), .int (nI ii), .int (nI ks), .ref k2, .ref k3, .ref k4, .long kb])), (qb, aJ G 1 bx)]) (wr := [(qb, aJ G 1 bx)]) (k_runV (n := 1) (As := [.int x]) (rest := [.int (nI 0), .ref qb]) hx hb hml hown htb hP hD hK hS hA hE (k_C_holds_ok l G H.size qc q qn qk qa qd r1 r2 ns re sp lr rt vi k1 k2 k3 k4 la ss ii ks kb x (show ss ≤ 64 from by omega)) b611 b612 b613 b1 b614 (by decide +kernel) rfl rfl ⟨by rw [hRf]; exact Nat.le_of_ble_eq_true rfl, by rw [hRl]; exact Nat.le_of_ble_eq_true rfl⟩ [0, 1, 2] rfl (by decide) 0 rfl rfl rfl rfl hl.1 rfl (Nat.le_of_ble_eq_true rfl) dL_holds_4 ⟨Nat.zero_le _, Nat.zero_le _⟩) hP hD hS hA [0, 1, 2] [3] [1, 2, 3, 0] rfl rfl (by decide) (by decide) (fun u => rfl) (by decide) (fun r u H locs hw hP hD hS => ?_)
    rcases hw with ⟨j4, hc4_p, hc4_e, hc4_b, rfl, rfl⟩ | ⟨j4, hc4_p, hc4_e, hc4_b, rfl, rfl⟩ | ⟨hc4_p, rfl, rfl⟩ | ⟨hc4_p, hc4_e, rfl, rfl⟩
    · skip
      have hP : va_P (gD G) vC [(qc, .inr (5, [.ref q, .ref qn, .ref qk, .ref qa, .ref qd, .int (zB true)])), (qa, .inr (0, [.ref r1, .int (nI ns), .long re, .int sp, .ref r2, .int (nI lr), .int (nI rt), .long vi])), (qk, .inr (2, [.ref k1, .int (nI la), .int (nI ss), .int (nI ii), .int (nI ks), .ref k2, .ref k3, .ref k4, .long kb])), (qb, aJ G 1 bx)] H := hP
      have hD : va_D A [(qc, .inr (5, [.ref q, .ref qn, .ref qk, .ref qa, .ref qd, .int (zB true)])), (qa, .inr (0, [.ref r1, .int (nI ns), .long re, .int sp, .ref r2, .int (nI lr), .int (nI rt), .long vi])), (qk, .inr (2, [.ref k1, .int (nI la), .int (nI ss), .int (nI ii), .int (nI ks), .ref k2, .ref k3, .ref k4, .long kb])), (qb, aJ G 1 bx)] := hD
      refine lv_if_eq (tgt := 14) hx hb dL_holds_7 rfl (fun h7 => (by revert h7; first | decide | exact fun z => absurd z (by decide) | exact fun z => z.elim (by decide))) (fun _ => ?_)
      refine lv_lconst (v := 1) hx hb dL_holds_10 (by decide) ?_
      refine lv_goto (tgt := 15) hx hb dL_holds_11 rfl ?_
      refine k_last hx hb hK hP hD hS 3 rfl (k := 0) (v := 1) (by omega) (by decide) dL_holds_15 (fun H locs hP hD hS => ?_)
      have hP : va_P (gD G) vC [(qc, .inr (5, [.ref q, .ref qn, .ref qk, .ref qa, .ref qd, .int (zB true)])), (qa, .inr (0, [.ref r1, .int (nI ns), .long re, .int sp, .ref r2, .int (nI lr), .int (nI rt), .long vi])), (qk, .inr (2, [.ref k1, .int (nI la), .int (nI ss), .int (nI ii), .int (nI ks), .ref k2, .ref k3, .ref k4, .long kb])), (qb, aJ G 1 (va_up bx 0 1))] H := hP
      have hD : va_D A [(qc, .inr (5, [.ref q, .ref qn, .ref qk, .ref qa, .ref qd, .int (zB true)])), (qa, .inr (0, [.ref r1, .int (nI ns), .long re, .int sp, .ref r2, .int (nI lr), .int (nI rt), .long vi])), (qk, .inr (2, [.ref k1, .int (nI la), .int (nI ss), .int (nI ii), .int (nI ks), .ref k2, .ref k3, .ref k4, .long kb])), (qb, aJ G 1 (va_up bx 0 1))] := hD
      refine lv_goto (tgt := 22) hx hb dL_holds_16 rfl ?_
      refine lv_iconst (v := nI 0) hx hb dL_holds_22 (by decide) ?_
      -- end 0
      rw [← hQ]
      exact vx_ret (k_iret hx hb hr hlocks rfl (u := (va_up bx 0 1)) (Or.inl ⟨_, hc4_p, hc4_e, hc4_b, rfl, rfl⟩) hP hD hK hS dL_holds_23)
    · skip
      have hP : va_P (gD G) vC [(qc, .inr (5, [.ref q, .ref qn, .ref qk, .ref qa, .ref qd, .int (zB true)])), (qa, .inr (0, [.ref r1, .int (nI ns), .long re, .int sp, .ref r2, .int (nI lr), .int (nI rt), .long vi])), (qk, .inr (2, [.ref k1, .int (nI la), .int (nI ss), .int (nI ii), .int (nI ks), .ref k2, .ref k3, .ref k4, .long kb])), (qb, aJ G 1 bx)] H := hP
      have hD : va_D A [(qc, .inr (5, [.ref q, .ref qn, .ref qk, .ref qa, .ref qd, .int (zB true)])), (qa, .inr (0, [.ref r1, .int (nI ns), .long re, .int sp, .ref r2, .int (nI lr), .int (nI rt), .long vi])), (qk, .inr (2, [.ref k1, .int (nI la), .int (nI ss), .int (nI ii), .int (nI ks), .ref k2, .ref k3, .ref k4, .long kb])), (qb, aJ G 1 bx)] := hD
      refine lv_if_eq (tgt := 14) hx hb dL_holds_7 rfl (fun _ => ?_) (fun h7 => (by revert h7; first | decide | exact fun z => absurd z (by decide) | exact fun z => z.elim (by decide)))
      refine lv_lconst (v := 0) hx hb dL_holds_14 (by decide) ?_
      refine k_last hx hb hK hP hD hS 3 rfl (k := 0) (v := 0) (by omega) (by decide) dL_holds_15 (fun H locs hP hD hS => ?_)
      have hP : va_P (gD G) vC [(qc, .inr (5, [.ref q, .ref qn, .ref qk, .ref qa, .ref qd, .int (zB true)])), (qa, .inr (0, [.ref r1, .int (nI ns), .long re, .int sp, .ref r2, .int (nI lr), .int (nI rt), .long vi])), (qk, .inr (2, [.ref k1, .int (nI la), .int (nI ss), .int (nI ii), .int (nI ks), .ref k2, .ref k3, .ref k4, .long kb])), (qb, aJ G 1 (va_up bx 0 0))] H := hP
      have hD : va_D A [(qc, .inr (5, [.ref q, .ref qn, .ref qk, .ref qa, .ref qd, .int (zB true)])), (qa, .inr (0, [.ref r1, .int (nI ns), .long re, .int sp, .ref r2, .int (nI lr), .int (nI rt), .long vi])), (qk, .inr (2, [.ref k1, .int (nI la), .int (nI ss), .int (nI ii), .int (nI ks), .ref k2, .ref k3, .ref k4, .long kb])), (qb, aJ G 1 (va_up bx 0 0))] := hD
      refine lv_goto (tgt := 22) hx hb dL_holds_16 rfl ?_
      refine lv_iconst (v := nI 0) hx hb dL_holds_22 (by decide) ?_
      -- end 1
      rw [← hQ]
      exact vx_ret (k_iret hx hb hr hlocks rfl (u := (va_up bx 0 0)) (Or.inr (Or.inl ⟨_, hc4_p, hc4_e, hc4_b, rfl, rfl⟩)) hP hD hK hS dL_holds_23)
    · skip
      have hP : va_P (gD G) vC [(qc, .inr (5, [.ref q, .ref qn, .ref qk, .ref qa, .ref qd, .int (zB true)])), (qa, .inr (0, [.ref r1, .int (nI ns), .long re, .int sp, .ref r2, .int (nI lr), .int (nI rt), .long vi])), (qk, .inr (2, [.ref k1, .int (nI la), .int (nI ss), .int (nI ii), .int (nI ks), .ref k2, .ref k3, .ref k4, .long kb])), (qb, aJ G 1 bx)] H := hP
      have hD : va_D A [(qc, .inr (5, [.ref q, .ref qn, .ref qk, .ref qa, .ref qd, .int (zB true)])), (qa, .inr (0, [.ref r1, .int (nI ns), .long re, .int sp, .ref r2, .int (nI lr), .int (nI rt), .long vi])), (qk, .inr (2, [.ref k1, .int (nI la), .int (nI ss), .int (nI ii), .int (nI ks), .ref k2, .ref k3, .ref k4, .long kb])), (qb, aJ G 1 bx)] := hD
      refine lv_if_eq (tgt := 14) hx hb dL_holds_7 rfl (fun _ => ?_) (fun h7 => (by revert h7; first | decide | exact fun z => absurd z (by decide) | exact fun z => z.elim (by decide)))
      refine lv_lconst (v := 0) hx hb dL_holds_14 (by decide) ?_
      refine k_last hx hb hK hP hD hS 3 rfl (k := 0) (v := 0) (by omega) (by decide) dL_holds_15 (fun H locs hP hD hS => ?_)
      have hP : va_P (gD G) vC [(qc, .inr (5, [.ref q, .ref qn, .ref qk, .ref qa, .ref qd, .int (zB true)])), (qa, .inr (0, [.ref r1, .int (nI ns), .long re, .int sp, .ref r2, .int (nI lr), .int (nI rt), .long vi])), (qk, .inr (2, [.ref k1, .int (nI la), .int (nI ss), .int (nI ii), .int (nI ks), .ref k2, .ref k3, .ref k4, .long kb])), (qb, aJ G 1 (va_up bx 0 0))] H := hP
      have hD : va_D A [(qc, .inr (5, [.ref q, .ref qn, .ref qk, .ref qa, .ref qd, .int (zB true)])), (qa, .inr (0, [.ref r1, .int (nI ns), .long re, .int sp, .ref r2, .int (nI lr), .int (nI rt), .long vi])), (qk, .inr (2, [.ref k1, .int (nI la), .int (nI ss), .int (nI ii), .int (nI ks), .ref k2, .ref k3, .ref k4, .long kb])), (qb, aJ G 1 (va_up bx 0 0))] := hD
      refine lv_goto (tgt := 22) hx hb dL_holds_16 rfl ?_
      refine lv_iconst (v := nI 0) hx hb dL_holds_22 (by decide) ?_
      -- end 2
      rw [← hQ]
      exact vx_ret (k_iret hx hb hr hlocks rfl (u := (va_up bx 0 0)) (Or.inr (Or.inr (Or.inl ⟨hc4_p, rfl, rfl⟩))) hP hD hK hS dL_holds_23)
    · skip
      have hP : va_P (gD G) vC [(qc, .inr (5, [.ref q, .ref qn, .ref qk, .ref qa, .ref qd, .int (zB true)])), (qa, .inr (0, [.ref r1, .int (nI ns), .long re, .int sp, .ref r2, .int (nI lr), .int (nI rt), .long vi])), (qk, .inr (2, [.ref k1, .int (nI la), .int (nI ss), .int (nI ii), .int (nI ks), .ref k2, .ref k3, .ref k4, .long kb])), (qb, aJ G 1 bx)] H := hP
      have hD : va_D A [(qc, .inr (5, [.ref q, .ref qn, .ref qk, .ref qa, .ref qd, .int (zB true)])), (qa, .inr (0, [.ref r1, .int (nI ns), .long re, .int sp, .ref r2, .int (nI lr), .int (nI rt), .long vi])), (qk, .inr (2, [.ref k1, .int (nI la), .int (nI ss), .int (nI ii), .int (nI ks), .ref k2, .ref k3, .ref k4, .long kb])), (qb, aJ G 1 bx)] := hD
      refine lv_if_eq (tgt := 14) hx hb dL_holds_7 rfl (fun _ => ?_) (fun h7 => (by revert h7; first | decide | exact fun z => absurd z (by decide) | exact fun z => z.elim (by decide)))
      refine lv_lconst (v := 0) hx hb dL_holds_14 (by decide) ?_
      refine k_last hx hb hK hP hD hS 3 rfl (k := 0) (v := 0) (by omega) (by decide) dL_holds_15 (fun H locs hP hD hS => ?_)
      have hP : va_P (gD G) vC [(qc, .inr (5, [.ref q, .ref qn, .ref qk, .ref qa, .ref qd, .int (zB true)])), (qa, .inr (0, [.ref r1, .int (nI ns), .long re, .int sp, .ref r2, .int (nI lr), .int (nI rt), .long vi])), (qk, .inr (2, [.ref k1, .int (nI la), .int (nI ss), .int (nI ii), .int (nI ks), .ref k2, .ref k3, .ref k4, .long kb])), (qb, aJ G 1 (va_up bx 0 0))] H := hP
      have hD : va_D A [(qc, .inr (5, [.ref q, .ref qn, .ref qk, .ref qa, .ref qd, .int (zB true)])), (qa, .inr (0, [.ref r1, .int (nI ns), .long re, .int sp, .ref r2, .int (nI lr), .int (nI rt), .long vi])), (qk, .inr (2, [.ref k1, .int (nI la), .int (nI ss), .int (nI ii), .int (nI ks), .ref k2, .ref k3, .ref k4, .long kb])), (qb, aJ G 1 (va_up bx 0 0))] := hD
      refine lv_goto (tgt := 22) hx hb dL_holds_16 rfl ?_
      refine lv_iconst (v := nI 0) hx hb dL_holds_22 (by decide) ?_
      -- end 3
      rw [← hQ]
      exact vx_ret (k_iret hx hb hr hlocks rfl (u := (va_up bx 0 0)) (Or.inr (Or.inr (Or.inr ⟨hc4_p, hc4_e, rfl, rfl⟩))) hP hD hK hS dL_holds_23)
  rw [hH, hlc] at hgo
  exact hgo
