set_option maxRecDepth 100000 in
set_option maxHeartbeats 4000000 in
theorem k_C_requirePlace_x (l : Launch) (htr : l.stackTraces = false) (G : GG) (sz : Nat) (qc : Nat) (q : Nat) (qn : Nat) (qk : Nat) (qa : Nat) (qd : Nat) (k1 : Nat) (k2 : Nat) (k3 : Nat) (k4 : Nat) (la : Nat) (ss : Nat) (ii : Nat) (ks : Nat) (kb : Int64) (x : Int32) (y : Int32) (hz : ss ≤ 64) (hii : ii ≤ 8) (hnp : ∀ j i, j < ss → i < ii → x = nI j → ¬ y = nI i) : vx_Met l yC_requirePlace (Cond.code yC_requirePlace cC_requirePlace 3 none :: TBX) { frames := 6, cells := 1, slots := 6, locals := 90 } (va_Pc [.ref qc, .int x, .int y] (befX G [(qc, .inr (5, [.ref q, .ref qn, .ref qk, .ref qa, .ref qd, .int (zB true)])), (qk, .inr (2, [.ref k1, .int (nI la), .int (nI ss), .int (nI ii), .int (nI ks), .ref k2, .ref k3, .ref k4, .long kb]))] sz)) (va_Qv (fun (_ : Unit) => False) (fun _ _ => True) (va_A [(qc, .inr (5, [.ref q, .ref qn, .ref qk, .ref qa, .ref qd, .int (zB true)])), (qk, .inr (2, [.ref k1, .int (nI la), .int (nI ss), .int (nI ii), .int (nI ks), .ref k2, .ref k3, .ref k4, .long kb]))] sz)) (XT G "java/lang/IndexOutOfBoundsException" (fun (u : Unit) => (() = u)) (fun (u : Unit) => [(qc, .inr (5, [.ref q, .ref qn, .ref qk, .ref qa, .ref qd, .int (zB true)])), (qk, .inr (2, [.ref k1, .int (nI la), .int (nI ss), .int (nI ii), .int (nI ks), .ref k2, .ref k3, .ref k4, .long kb]))]) (va_A [(qc, .inr (5, [.ref q, .ref qn, .ref qk, .ref qa, .ref qd, .int (zB true)])), (qk, .inr (2, [.ref k1, .int (nI la), .int (nI ss), .int (nI ii), .int (nI ks), .ref k2, .ref k3, .ref k4, .long kb]))] sz)) 1 6 (va_A [(qc, .inr (5, [.ref q, .ref qn, .ref qk, .ref qa, .ref qd, .int (zB true)])), (qk, .inr (2, [.ref k1, .int (nI la), .int (nI ss), .int (nI ii), .int (nI ks), .ref k2, .ref k3, .ref k4, .long kb]))] sz) := by
  refine vx_ofW (cc := cC_requirePlace) (maxL := 3) (ret := none) (by decide) rfl ?_
  intro p e s m args below meth c s₁ B hml hno hv
  obtain ⟨hav, ⟨hsz, hP, hK, hD0, hE⟩, hDX⟩ := hv
  have hx := B.exec
  have hb := B.bytes
  have hr := B.returns
  have hTX : ∀ w ∈ TBX, w.before args s = true := fun w h => atoms_spec (ws := Cond.code yC_requirePlace cC_requirePlace 3 none :: TBX) B.pre w (List.mem_cons_of_mem _ h)
  have htb : ∀ w ∈ TB, w.before args s = true := fun w h => hTX w (List.mem_append_left _ h)
  have hown : s.vm.findClass "CircuitProver" = some m.cls := findClass_of_methodNamed B.named
  have hlocks := B.notSynchronized
  subst hsz
  have hD := hD0.self (sz := s.heap.size)
  clear hD0
  generalize hRm : (headSpec (Cond.code yC_requirePlace cC_requirePlace 3 none :: TBX) { frames := 6, cells := 1, slots := 6, locals := 90 }).room = R
  have hRf : R.frames = 6 := by rw [← hRm]; rfl
  have hRl : R.locals = 90 := by rw [← hRm]; rfl
  have hRc : R.cells = 1 := by rw [← hRm]; rfl
  have hRs : R.slots = 6 := by rw [← hRm]; rfl
  clear hRm
  generalize hAe : va_A [(qc, .inr (5, [.ref q, .ref qn, .ref qk, .ref qa, .ref qd, .int (zB true)])), (qk, .inr (2, [.ref k1, .int (nI la), .int (nI ss), .int (nI ii), .int (nI ks), .ref k2, .ref k3, .ref k4, .long kb]))] s.heap.size = A at hD hE ⊢
  have hA : ∀ q : Nat, s.heap.size ≤ q → A q := fun q h => by rw [← hAe]; exact Or.inr h
  clear hAe
  have hS : va_S A s.heap s.heap [] := va_S.rf
  have hl := lv_entry ([.ref qc, .int x, .int y]) (n := 3) (Nat.le_of_ble_eq_true rfl)
  have hent := lg_entry_eq m ([.ref qc, .int x, .int y]) 3
  rw [← hav] at hent
  rw [hent]
  clear hent hav
  generalize (lg_sl ([.ref qc, .int x, .int y]) ++ List.replicate (3 - (lg_sl ([.ref qc, .int x, .int y])).length) Slot.unset).toArray = ls at hl ⊢
  have hl : lv_has ls 3 [(0, .ref qc), (1, .int x), (2, .int y)] := hl
  generalize hQ : vx_MQ below _ _ args s 1 6 _ = Q
  have hP : va_P (gD G) vC [(qc, .inr (5, [.ref q, .ref qn, .ref qk, .ref qa, .ref qd, .int (zB true)])), (qk, .inr (2, [.ref k1, .int (nI la), .int (nI ss), .int (nI ii), .int (nI ks), .ref k2, .ref k3, .ref k4, .long kb]))] s.heap := hP
  obtain ⟨H, hH⟩ : ∃ H : Heap, H = s.heap := ⟨_, rfl⟩
  obtain ⟨locs, hlc⟩ : ∃ L : List Loc, L = [] := ⟨_, rfl⟩
  have hS : va_S A s.heap H locs := by rw [hH, hlc]; exact hS
  have hP : va_P (gD G) vC [(qc, .inr (5, [.ref q, .ref qn, .ref qk, .ref qa, .ref qd, .int (zB true)])), (qk, .inr (2, [.ref k1, .int (nI la), .int (nI ss), .int (nI ii), .int (nI ks), .ref k2, .ref k3, .ref k4, .long kb]))] H := by rw [hH]; exact hP
  have hgo : W p l e R s m args below meth c H locs 0 0 Q (F0 m 0 ls []) := by
    clear hH hlc
    refine lv_aload_n hx hb dC_requirePlace_0 rfl (lv_at hl 0 rfl) ?_
    refine va_get (D := gD G) (ci := 5) (v := .ref qk) (C := "CircuitProver") (T := TC) (N := 6) hx hb htb inC hown hK hP 0 rfl rfl 2 (by decide) (htb _ b189) (fun _ h9 => h9) rfl dC_requirePlace_1 ?_
    refine lv_iload_n hx hb dC_requirePlace_4 rfl (lv_at hl 1 rfl) ?_
    refine k_i (ws2 := fun u => [(qc, .inr (5, [.ref q, .ref qn, .ref qk, .ref qa, .ref qd, .int (zB true)])), (qk, .inr (2, [.ref k1, .int (nI la), .int (nI ss), .int (nI ii), .int (nI ks), .ref k2, .ref k3, .ref k4, .long kb]))]) (wr := [(qc, .inr (5, [.ref q, .ref qn, .ref qk, .ref qa, .ref qd, .int (zB true)]))]) (k_runV (n := 1) (As := [.int x]) (rest := []) hx hb hml hown htb hP hD hK hS hA hE (k_K_isState l G H.size qk k1 k2 k3 k4 la ss ii ks kb x (show ss ≤ 64 from by omega)) b539 b540 b541 b4 b542 (by decide +kernel) rfl rfl ⟨by rw [hRf]; exact Nat.le_of_ble_eq_true rfl, by rw [hRl]; exact Nat.le_of_ble_eq_true rfl⟩ [1] rfl (by decide) 1 rfl rfl rfl rfl hl.1 rfl (Nat.le_of_ble_eq_true rfl) dC_requirePlace_5 ⟨Nat.zero_le _, Nat.zero_le _⟩) hP hD hS hA [1] [0] [0, 1] rfl rfl (by decide) (by decide) (fun u => rfl) (by decide) (fun r u H locs hw hP hD hS => ?_)
    rcases hw with ⟨j5, hc5_e, rfl, rfl⟩ | ⟨hc5_e, rfl, rfl⟩
    · skip
      have hP : va_P (gD G) vC [(qc, .inr (5, [.ref q, .ref qn, .ref qk, .ref qa, .ref qd, .int (zB true)])), (qk, .inr (2, [.ref k1, .int (nI la), .int (nI ss), .int (nI ii), .int (nI ks), .ref k2, .ref k3, .ref k4, .long kb]))] H := hP
      have hD : va_D A [(qc, .inr (5, [.ref q, .ref qn, .ref qk, .ref qa, .ref qd, .int (zB true)])), (qk, .inr (2, [.ref k1, .int (nI la), .int (nI ss), .int (nI ii), .int (nI ks), .ref k2, .ref k3, .ref k4, .long kb]))] := hD
      refine lv_if_eq (tgt := 22) hx hb dC_requirePlace_8 rfl (fun h8 => (by revert h8; first | decide | exact fun z => absurd z (by decide) | exact fun z => z.elim (by decide))) (fun _ => ?_)
      refine lv_aload_n hx hb dC_requirePlace_11 rfl (lv_at hl 0 rfl) ?_
      refine va_get (D := gD G) (ci := 5) (v := .ref qk) (C := "CircuitProver") (T := TC) (N := 6) hx hb htb inC hown hK hP 0 rfl rfl 2 (by decide) (htb _ b189) (fun _ h9 => h9) rfl dC_requirePlace_12 ?_
      refine lv_iload_n hx hb dC_requirePlace_15 rfl (lv_at hl 2 rfl) ?_
      refine k_i (ws2 := fun u => [(qc, .inr (5, [.ref q, .ref qn, .ref qk, .ref qa, .ref qd, .int (zB true)])), (qk, .inr (2, [.ref k1, .int (nI la), .int (nI ss), .int (nI ii), .int (nI ks), .ref k2, .ref k3, .ref k4, .long kb]))]) (wr := [(qc, .inr (5, [.ref q, .ref qn, .ref qk, .ref qa, .ref qd, .int (zB true)]))]) (k_runV (n := 1) (As := [.int y]) (rest := []) hx hb hml hown htb hP hD hK hS hA hE (k_K_isInput l G H.size qk k1 k2 k3 k4 la ss ii ks kb y (show ii ≤ 64 from by omega)) b543 b544 b545 b4 b546 (by decide +kernel) rfl rfl ⟨by rw [hRf]; exact Nat.le_of_ble_eq_true rfl, by rw [hRl]; exact Nat.le_of_ble_eq_true rfl⟩ [1] rfl (by decide) 1 rfl rfl rfl rfl hl.1 rfl (Nat.le_of_ble_eq_true rfl) dC_requirePlace_16 ⟨Nat.zero_le _, Nat.zero_le _⟩) hP hD hS hA [1] [0] [0, 1] rfl rfl (by decide) (by decide) (fun u => rfl) (by decide) (fun r u H locs hw hP hD hS => ?_)
      rcases hw with ⟨j16, hc16_e, rfl, rfl⟩ | ⟨hc16_e, rfl, rfl⟩
      · skip
        exact absurd hc16_e.2 (hnp j5 j16 hc5_e.1 hc16_e.1 hc5_e.2)
      · skip
        have hP : va_P (gD G) vC [(qc, .inr (5, [.ref q, .ref qn, .ref qk, .ref qa, .ref qd, .int (zB true)])), (qk, .inr (2, [.ref k1, .int (nI la), .int (nI ss), .int (nI ii), .int (nI ks), .ref k2, .ref k3, .ref k4, .long kb]))] H := hP
        have hD : va_D A [(qc, .inr (5, [.ref q, .ref qn, .ref qk, .ref qa, .ref qd, .int (zB true)])), (qk, .inr (2, [.ref k1, .int (nI la), .int (nI ss), .int (nI ii), .int (nI ks), .ref k2, .ref k3, .ref k4, .long kb]))] := hD
        refine lv_if_ne (tgt := 32) hx hb dC_requirePlace_19 rfl (fun h19 => (by revert h19; first | decide | exact fun z => absurd z (by decide) | exact fun z => z.elim (by decide))) (fun _ => ?_)
        obtain ⟨sa9, hsa9⟩ := hE.2.2.2.2.2.2.2
        rw [← hQ]
        exact vx_throwS hx hb htr hown (names := exN) (by decide +kernel) (by decide +kernel) (htb _ b547) (htb _ b16) hsa9 (vx_hat (fun w hw => hTX w (List.mem_append_right _ (List.mem_append_right _ (List.mem_append_right _ (List.mem_append_right _ hw))))) x4_d (DX.use hDX)) (by decide +kernel) hE.2.2.1 hE.2.2.2.1 hS (hl.1.trans hml.symm) dC_requirePlace_22 dC_requirePlace_25 dC_requirePlace_26 dC_requirePlace_28 dC_requirePlace_31 (fun x hx => (hno x hx).elim) (by rw [hRf]; exact Nat.le_of_ble_eq_true rfl) (by rw [hRl]; exact Nat.le_of_ble_eq_true rfl) (by rw [hRc]; exact Nat.le_of_ble_eq_true rfl) (by rw [hRs]; exact Nat.le_of_ble_eq_true rfl) hlocks (k_thr () (rfl) hP hD hK hS) hS.2.2 (Nat.le_of_ble_eq_true rfl) (Nat.le_of_ble_eq_true rfl)
    · skip
      have hP : va_P (gD G) vC [(qc, .inr (5, [.ref q, .ref qn, .ref qk, .ref qa, .ref qd, .int (zB true)])), (qk, .inr (2, [.ref k1, .int (nI la), .int (nI ss), .int (nI ii), .int (nI ks), .ref k2, .ref k3, .ref k4, .long kb]))] H := hP
      have hD : va_D A [(qc, .inr (5, [.ref q, .ref qn, .ref qk, .ref qa, .ref qd, .int (zB true)])), (qk, .inr (2, [.ref k1, .int (nI la), .int (nI ss), .int (nI ii), .int (nI ks), .ref k2, .ref k3, .ref k4, .long kb]))] := hD
      refine lv_if_eq (tgt := 22) hx hb dC_requirePlace_8 rfl (fun _ => ?_) (fun h8 => (by revert h8; first | decide | exact fun z => absurd z (by decide) | exact fun z => z.elim (by decide)))
      obtain ⟨sa9, hsa9⟩ := hE.2.2.2.2.2.2.2
      rw [← hQ]
      exact vx_throwS hx hb htr hown (names := exN) (by decide +kernel) (by decide +kernel) (htb _ b547) (htb _ b16) hsa9 (vx_hat (fun w hw => hTX w (List.mem_append_right _ (List.mem_append_right _ (List.mem_append_right _ (List.mem_append_right _ hw))))) x4_d (DX.use hDX)) (by decide +kernel) hE.2.2.1 hE.2.2.2.1 hS (hl.1.trans hml.symm) dC_requirePlace_22 dC_requirePlace_25 dC_requirePlace_26 dC_requirePlace_28 dC_requirePlace_31 (fun x hx => (hno x hx).elim) (by rw [hRf]; exact Nat.le_of_ble_eq_true rfl) (by rw [hRl]; exact Nat.le_of_ble_eq_true rfl) (by rw [hRc]; exact Nat.le_of_ble_eq_true rfl) (by rw [hRs]; exact Nat.le_of_ble_eq_true rfl) hlocks (k_thr () (rfl) hP hD hK hS) hS.2.2 (Nat.le_of_ble_eq_true rfl) (Nat.le_of_ble_eq_true rfl)
  rw [hH, hlc] at hgo
  exact hgo
set_option maxRecDepth 100000 in
set_option maxHeartbeats 4000000 in
theorem k_C_load_x1 (l : Launch) (htr : l.stackTraces = false) (G : GG) (sz : Nat) (qc : Nat) (q : Nat) (qn : Nat) (qk : Nat) (qa : Nat) (qd : Nat) (n1 : Nat) (n2 : Nat) (n3 : Nat) (n4 : Nat) (n5 : Nat) (n6 : Nat) (n7 : Nat) (n8 : Nat) (n9 : Nat) (n10 : Nat) (sa : Nat) (ol : Nat) (hh : Nat → Nat) (df : Nat → Bool) (mt : Nat → Bool) (ig : Nat → Bool) (gl : Nat → Nat) (gr : Nat → Nat) (iv : Nat → Nat) (lv : Nat → Nat) (ln : Nat → Nat) (a1 : Nat) (a2 : Nat) (tx : Nat → Nat) (nm : Nat → Nat) (us : Nat) (pl : Nat) (cl : Bool) (hus : us ≤ 400) (htx : ∀ j, tx j < 128) (hnc : ¬ circOK (lk tx us) us) : vx_Met l yC_load (Cond.code yC_load cC_load 1 (some .int) :: TBX) { frames := 6, cells := 1, slots := 6, locals := 109 } (va_Pc [.ref qc] (befX G [(qc, .inr (5, [.ref q, .ref qn, .ref qk, .ref qa, .ref qd, .int (zB cl)])), (qn, .inr (3, [.ref n1, .ref n2, .ref n3, .ref n4, .ref n5, .ref n6, .ref n7, .ref n8, .ref n9, .int (nI sa), .int (nI ol), .ref n10])), (n1, aI G 5 hh), (n2, aZ G 50 df), (n3, aZ G 50 mt), (n4, aZ G 50 ig), (n5, aI G 50 gl), (n6, aI G 50 gr), (n7, aI G 3 iv), (n8, aI G 6 lv), (n9, aI G 6 ln), (q, .inr (4, [.ref a1, .ref a2, .int (nI us), .int (nI pl)])), (a1, aB G 400 tx), (a2, aI G 5 nm)] sz)) (va_Qi (fun (_ : Int32) (_ : Unit) => False) (fun _ _ => True) (va_A [(qc, .inr (5, [.ref q, .ref qn, .ref qk, .ref qa, .ref qd, .int (zB cl)])), (qn, .inr (3, [.ref n1, .ref n2, .ref n3, .ref n4, .ref n5, .ref n6, .ref n7, .ref n8, .ref n9, .int (nI sa), .int (nI ol), .ref n10])), (n1, aI G 5 hh), (n2, aZ G 50 df), (n3, aZ G 50 mt), (n4, aZ G 50 ig), (n5, aI G 50 gl), (n6, aI G 50 gr), (n7, aI G 3 iv), (n8, aI G 6 lv), (n9, aI G 6 ln), (q, .inr (4, [.ref a1, .ref a2, .int (nI us), .int (nI pl)])), (a1, aB G 400 tx), (a2, aI G 5 nm)] sz)) (XT G "java/lang/IllegalArgumentException" (fun (u : (Nat → Nat) × (Nat → Bool) × (Nat → Bool) × (Nat → Bool) × (Nat → Nat) × (Nat → Nat) × (Nat → Nat) × (Nat → Nat) × (Nat → Nat) × Nat × Nat × (Nat → Nat) × Nat) => (∃ (hh1 : Nat → Nat), ∃ (df1 : Nat → Bool), ∃ (mt1 : Nat → Bool), ∃ (ig1 : Nat → Bool), ∃ (gl1 : Nat → Nat), ∃ (gr1 : Nat → Nat), ∃ (iv1 : Nat → Nat), ∃ (lv1 : Nat → Nat), ∃ (ln1 : Nat → Nat), ∃ (sa1 : Nat), ∃ (ol1 : Nat), ∃ (nm1 : Nat → Nat), ∃ (pl1 : Nat), (hh1, df1, mt1, ig1, gl1, gr1, iv1, lv1, ln1, sa1, ol1, nm1, pl1) = u)) (fun (u : (Nat → Nat) × (Nat → Bool) × (Nat → Bool) × (Nat → Bool) × (Nat → Nat) × (Nat → Nat) × (Nat → Nat) × (Nat → Nat) × (Nat → Nat) × Nat × Nat × (Nat → Nat) × Nat) => [(qc, .inr (5, [.ref q, .ref qn, .ref qk, .ref qa, .ref qd, .int (zB cl)])), (qn, .inr (3, [.ref n1, .ref n2, .ref n3, .ref n4, .ref n5, .ref n6, .ref n7, .ref n8, .ref n9, .int (nI u.2.2.2.2.2.2.2.2.2.1), .int (nI u.2.2.2.2.2.2.2.2.2.2.1), .ref n10])), (n1, aI G 5 u.1), (n2, aZ G 50 u.2.1), (n3, aZ G 50 u.2.2.1), (n4, aZ G 50 u.2.2.2.1), (n5, aI G 50 u.2.2.2.2.1), (n6, aI G 50 u.2.2.2.2.2.1), (n7, aI G 3 u.2.2.2.2.2.2.1), (n8, aI G 6 u.2.2.2.2.2.2.2.1), (n9, aI G 6 u.2.2.2.2.2.2.2.2.1), (q, .inr (4, [.ref a1, .ref a2, .int (nI us), .int (nI u.2.2.2.2.2.2.2.2.2.2.2.2)])), (a1, aB G 400 tx), (a2, aI G 5 u.2.2.2.2.2.2.2.2.2.2.2.1)]) (va_A [(qc, .inr (5, [.ref q, .ref qn, .ref qk, .ref qa, .ref qd, .int (zB cl)])), (qn, .inr (3, [.ref n1, .ref n2, .ref n3, .ref n4, .ref n5, .ref n6, .ref n7, .ref n8, .ref n9, .int (nI sa), .int (nI ol), .ref n10])), (n1, aI G 5 hh), (n2, aZ G 50 df), (n3, aZ G 50 mt), (n4, aZ G 50 ig), (n5, aI G 50 gl), (n6, aI G 50 gr), (n7, aI G 3 iv), (n8, aI G 6 lv), (n9, aI G 6 ln), (q, .inr (4, [.ref a1, .ref a2, .int (nI us), .int (nI pl)])), (a1, aB G 400 tx), (a2, aI G 5 nm)] sz)) 1 6 (va_A [(qc, .inr (5, [.ref q, .ref qn, .ref qk, .ref qa, .ref qd, .int (zB cl)])), (qn, .inr (3, [.ref n1, .ref n2, .ref n3, .ref n4, .ref n5, .ref n6, .ref n7, .ref n8, .ref n9, .int (nI sa), .int (nI ol), .ref n10])), (n1, aI G 5 hh), (n2, aZ G 50 df), (n3, aZ G 50 mt), (n4, aZ G 50 ig), (n5, aI G 50 gl), (n6, aI G 50 gr), (n7, aI G 3 iv), (n8, aI G 6 lv), (n9, aI G 6 ln), (q, .inr (4, [.ref a1, .ref a2, .int (nI us), .int (nI pl)])), (a1, aB G 400 tx), (a2, aI G 5 nm)] sz) := by
  refine vx_ofW (cc := cC_load) (maxL := 1) (ret := (some .int)) (by decide) rfl ?_
  intro p e s m args below meth c s₁ B hml hno hv
  obtain ⟨hav, ⟨hsz, hP, hK, hD0, hE⟩, hDX⟩ := hv
  have hx := B.exec
  have hb := B.bytes
  have hr := B.returns
  have hTX : ∀ w ∈ TBX, w.before args s = true := fun w h => atoms_spec (ws := Cond.code yC_load cC_load 1 (some .int) :: TBX) B.pre w (List.mem_cons_of_mem _ h)
  have htb : ∀ w ∈ TB, w.before args s = true := fun w h => hTX w (List.mem_append_left _ h)
  have hown : s.vm.findClass "CircuitProver" = some m.cls := findClass_of_methodNamed B.named
  have hlocks := B.notSynchronized
  subst hsz
  have hD := hD0.self (sz := s.heap.size)
  clear hD0
  generalize hRm : (headSpec (Cond.code yC_load cC_load 1 (some .int) :: TBX) { frames := 6, cells := 1, slots := 6, locals := 109 }).room = R
  have hRf : R.frames = 6 := by rw [← hRm]; rfl
  have hRl : R.locals = 109 := by rw [← hRm]; rfl
  have hRc : R.cells = 1 := by rw [← hRm]; rfl
  have hRs : R.slots = 6 := by rw [← hRm]; rfl
  clear hRm
  generalize hAe : va_A [(qc, .inr (5, [.ref q, .ref qn, .ref qk, .ref qa, .ref qd, .int (zB cl)])), (qn, .inr (3, [.ref n1, .ref n2, .ref n3, .ref n4, .ref n5, .ref n6, .ref n7, .ref n8, .ref n9, .int (nI sa), .int (nI ol), .ref n10])), (n1, aI G 5 hh), (n2, aZ G 50 df), (n3, aZ G 50 mt), (n4, aZ G 50 ig), (n5, aI G 50 gl), (n6, aI G 50 gr), (n7, aI G 3 iv), (n8, aI G 6 lv), (n9, aI G 6 ln), (q, .inr (4, [.ref a1, .ref a2, .int (nI us), .int (nI pl)])), (a1, aB G 400 tx), (a2, aI G 5 nm)] s.heap.size = A at hD hE ⊢
  have hA : ∀ q : Nat, s.heap.size ≤ q → A q := fun q h => by rw [← hAe]; exact Or.inr h
  clear hAe
  have hS : va_S A s.heap s.heap [] := va_S.rf
  have hl := lv_entry ([.ref qc]) (n := 1) (Nat.le_of_ble_eq_true rfl)
  have hent := lg_entry_eq m ([.ref qc]) 1
  rw [← hav] at hent
  rw [hent]
  clear hent hav
  generalize (lg_sl ([.ref qc]) ++ List.replicate (1 - (lg_sl ([.ref qc])).length) Slot.unset).toArray = ls at hl ⊢
  have hl : lv_has ls 1 [(0, .ref qc)] := hl
  generalize hQ : vx_MQ below _ _ args s 1 6 _ = Q
  have hP : va_P (gD G) vC [(qc, .inr (5, [.ref q, .ref qn, .ref qk, .ref qa, .ref qd, .int (zB cl)])), (qn, .inr (3, [.ref n1, .ref n2, .ref n3, .ref n4, .ref n5, .ref n6, .ref n7, .ref n8, .ref n9, .int (nI sa), .int (nI ol), .ref n10])), (n1, aI G 5 hh), (n2, aZ G 50 df), (n3, aZ G 50 mt), (n4, aZ G 50 ig), (n5, aI G 50 gl), (n6, aI G 50 gr), (n7, aI G 3 iv), (n8, aI G 6 lv), (n9, aI G 6 ln), (q, .inr (4, [.ref a1, .ref a2, .int (nI us), .int (nI pl)])), (a1, aB G 400 tx), (a2, aI G 5 nm)] s.heap := hP
  obtain ⟨H, hH⟩ : ∃ H : Heap, H = s.heap := ⟨_, rfl⟩
  obtain ⟨locs, hlc⟩ : ∃ L : List Loc, L = [] := ⟨_, rfl⟩
  have hS : va_S A s.heap H locs := by rw [hH, hlc]; exact hS
  have hP : va_P (gD G) vC [(qc, .inr (5, [.ref q, .ref qn, .ref qk, .ref qa, .ref qd, .int (zB cl)])), (qn, .inr (3, [.ref n1, .ref n2, .ref n3, .ref n4, .ref n5, .ref n6, .ref n7, .ref n8, .ref n9, .int (nI sa), .int (nI ol), .ref n10])), (n1, aI G 5 hh), (n2, aZ G 50 df), (n3, aZ G 50 mt), (n4, aZ G 50 ig), (n5, aI G 50 gl), (n6, aI G 50 gr), (n7, aI G 3 iv), (n8, aI G 6 lv), (n9, aI G 6 ln), (q, .inr (4, [.ref a1, .ref a2, .int (nI us), .int (nI pl)])), (a1, aB G 400 tx), (a2, aI G 5 nm)] H := by rw [hH]; exact hP
  have hgo : W p l e R s m args below meth c H locs 0 0 Q (F0 m 0 ls []) := by
    clear hH hlc
    refine lv_aload_n hx hb dC_load_0 rfl (lv_at hl 0 rfl) ?_
    refine va_get (D := gD G) (ci := 5) (v := .ref qn) (C := "CircuitProver") (T := TC) (N := 6) hx hb htb inC hown hK hP 0 rfl rfl 1 (by decide) (htb _ b188) (fun _ h9 => h9) rfl dC_load_1 ?_
    refine lv_aload_n hx hb dC_load_4 rfl (lv_at hl 0 rfl) ?_
    refine va_get (D := gD G) (ci := 5) (v := .ref q) (C := "CircuitProver") (T := TC) (N := 6) hx hb htb inC hown hK hP 0 rfl rfl 0 (by decide) (htb _ b187) (fun _ h9 => h9) rfl dC_load_5 ?_
    refine k_i (ws2 := fun u => [(qc, .inr (5, [.ref q, .ref qn, .ref qk, .ref qa, .ref qd, .int (zB cl)])), (qn, .inr (3, [.ref n1, .ref n2, .ref n3, .ref n4, .ref n5, .ref n6, .ref n7, .ref n8, .ref n9, .int (nI (u.2.2.2.2.2.2.2.2.2.1)), .int (nI (u.2.2.2.2.2.2.2.2.2.2.1)), .ref n10])), (n1, aI G 5 (u.1)), (n2, aZ G 50 (u.2.1)), (n3, aZ G 50 (u.2.2.1)), (n4, aZ G 50 (u.2.2.2.1)), (n5, aI G 50 (u.2.2.2.2.1)), (n6, aI G 50 (u.2.2.2.2.2.1)), (n7, aI G 3 (u.2.2.2.2.2.2.1)), (n8, aI G 6 (u.2.2.2.2.2.2.2.1)), (n9, aI G 6 (u.2.2.2.2.2.2.2.2.1)), (q, .inr (4, [.ref a1, .ref a2, .int (nI us), .int (nI (u.2.2.2.2.2.2.2.2.2.2.2.2))])), (a1, aB G 400 tx), (a2, aI G 5 (u.2.2.2.2.2.2.2.2.2.2.2.1))]) (wr := [(qc, .inr (5, [.ref q, .ref qn, .ref qk, .ref qa, .ref qd, .int (zB cl)]))]) (k_runV (n := 1) (As := [.ref q]) (rest := []) hx hb hml hown htb hP hD hK hS hA hE (k_N_read l G H.size qn n1 n2 n3 n4 n5 n6 n7 n8 n9 n10 sa ol hh df mt ig gl gr iv lv ln q a1 a2 tx nm us pl (show us ≤ 400 from by omega) (show ∀ j, tx j < 128 from by omega)) b238 b239 b240 b3 b241 (by decide +kernel) rfl rfl ⟨by rw [hRf]; exact Nat.le_of_ble_eq_true rfl, by rw [hRl]; exact Nat.le_of_ble_eq_true rfl⟩ [1, 2, 3, 4, 5, 6, 7, 8, 9, 10, 11, 12, 13] rfl (by decide) 1 rfl rfl rfl rfl hl.1 rfl (Nat.le_of_ble_eq_true rfl) dC_load_8 ⟨Nat.zero_le _, Nat.zero_le _⟩) hP hD hS hA [1, 2, 3, 4, 5, 6, 7, 8, 9, 10, 11, 12, 13] [0] [0, 1, 2, 3, 4, 5, 6, 7, 8, 9, 10, 11, 12, 13] rfl rfl (by decide) (by decide) (fun u => rfl) (by decide) (fun r u H locs hw hP hD hS => ?_)
    rcases hw with ⟨hh18, df18, mt18, ig18, gl18, gr18, iv18, lv18, ln18, sa18, ol18, nm18, pl18, hc8_o, hc8_a, hc8_s, rfl, rfl⟩ | ⟨hh18, df18, mt18, ig18, gl18, gr18, iv18, lv18, ln18, sa18, ol18, nm18, pl18, hc8_o, rfl, rfl⟩
    · skip
      exact absurd hc8_o hnc
    · skip
      have hP : va_P (gD G) vC [(qc, .inr (5, [.ref q, .ref qn, .ref qk, .ref qa, .ref qd, .int (zB cl)])), (qn, .inr (3, [.ref n1, .ref n2, .ref n3, .ref n4, .ref n5, .ref n6, .ref n7, .ref n8, .ref n9, .int (nI sa18), .int (nI ol18), .ref n10])), (n1, aI G 5 hh18), (n2, aZ G 50 df18), (n3, aZ G 50 mt18), (n4, aZ G 50 ig18), (n5, aI G 50 gl18), (n6, aI G 50 gr18), (n7, aI G 3 iv18), (n8, aI G 6 lv18), (n9, aI G 6 ln18), (q, .inr (4, [.ref a1, .ref a2, .int (nI us), .int (nI pl18)])), (a1, aB G 400 tx), (a2, aI G 5 nm18)] H := hP
      have hD : va_D A [(qc, .inr (5, [.ref q, .ref qn, .ref qk, .ref qa, .ref qd, .int (zB cl)])), (qn, .inr (3, [.ref n1, .ref n2, .ref n3, .ref n4, .ref n5, .ref n6, .ref n7, .ref n8, .ref n9, .int (nI sa18), .int (nI ol18), .ref n10])), (n1, aI G 5 hh18), (n2, aZ G 50 df18), (n3, aZ G 50 mt18), (n4, aZ G 50 ig18), (n5, aI G 50 gl18), (n6, aI G 50 gr18), (n7, aI G 3 iv18), (n8, aI G 6 lv18), (n9, aI G 6 ln18), (q, .inr (4, [.ref a1, .ref a2, .int (nI us), .int (nI pl18)])), (a1, aB G 400 tx), (a2, aI G 5 nm18)] := hD
      refine lv_if_ne (tgt := 24) hx hb dC_load_11 rfl (fun h11 => (by revert h11; first | decide | exact fun z => absurd z (by decide) | exact fun z => z.elim (by decide))) (fun _ => ?_)
      obtain ⟨sa9, hsa9⟩ := hE.2.2.2.2.1
      rw [← hQ]
      exact vx_throwS hx hb htr hown (names := exN) (by decide +kernel) (by decide +kernel) (htb _ b314) (htb _ b12) hsa9 (vx_hat (fun w hw => hTX w (List.mem_append_right _ (List.mem_append_left _ hw))) x1_d (DX.use hDX)) (by decide +kernel) hE.2.2.1 hE.2.2.2.1 hS (hl.1.trans hml.symm) dC_load_14 dC_load_17 dC_load_18 dC_load_20 dC_load_23 (fun x hx => (hno x hx).elim) (by rw [hRf]; exact Nat.le_of_ble_eq_true rfl) (by rw [hRl]; exact Nat.le_of_ble_eq_true rfl) (by rw [hRc]; exact Nat.le_of_ble_eq_true rfl) (by rw [hRs]; exact Nat.le_of_ble_eq_true rfl) hlocks (k_thr (hh18, df18, mt18, ig18, gl18, gr18, iv18, lv18, ln18, sa18, ol18, nm18, pl18) (⟨_, _, _, _, _, _, _, _, _, _, _, _, _, rfl⟩) hP hD hK hS) hS.2.2 (Nat.le_of_ble_eq_true rfl) (Nat.le_of_ble_eq_true rfl)
  rw [hH, hlc] at hgo
  exact hgo
set_option maxRecDepth 100000 in
set_option maxHeartbeats 4000000 in
theorem k_C_load_x2 (l : Launch) (htr : l.stackTraces = false) (G : GG) (sz : Nat) (qc : Nat) (q : Nat) (qn : Nat) (qk : Nat) (qa : Nat) (qd : Nat) (n1 : Nat) (n2 : Nat) (n3 : Nat) (n4 : Nat) (n5 : Nat) (n6 : Nat) (n7 : Nat) (n8 : Nat) (n9 : Nat) (n10 : Nat) (sa : Nat) (ol : Nat) (hh : Nat → Nat) (df : Nat → Bool) (mt : Nat → Bool) (ig : Nat → Bool) (gl : Nat → Nat) (gr : Nat → Nat) (iv : Nat → Nat) (lv : Nat → Nat) (ln : Nat → Nat) (a1 : Nat) (a2 : Nat) (tx : Nat → Nat) (nm : Nat → Nat) (us : Nat) (pl : Nat) (cl : Bool) (hus : us ≤ 400) (htx : ∀ j, tx j < 128) (hcO : circOK (lk tx us) us) (hns : ¬ small (lk tx us)) : vx_Met l yC_load (Cond.code yC_load cC_load 1 (some .int) :: TBX) { frames := 6, cells := 1, slots := 6, locals := 109 } (va_Pc [.ref qc] (befX G [(qc, .inr (5, [.ref q, .ref qn, .ref qk, .ref qa, .ref qd, .int (zB cl)])), (qn, .inr (3, [.ref n1, .ref n2, .ref n3, .ref n4, .ref n5, .ref n6, .ref n7, .ref n8, .ref n9, .int (nI sa), .int (nI ol), .ref n10])), (n1, aI G 5 hh), (n2, aZ G 50 df), (n3, aZ G 50 mt), (n4, aZ G 50 ig), (n5, aI G 50 gl), (n6, aI G 50 gr), (n7, aI G 3 iv), (n8, aI G 6 lv), (n9, aI G 6 ln), (q, .inr (4, [.ref a1, .ref a2, .int (nI us), .int (nI pl)])), (a1, aB G 400 tx), (a2, aI G 5 nm)] sz)) (va_Qi (fun (_ : Int32) (_ : Unit) => False) (fun _ _ => True) (va_A [(qc, .inr (5, [.ref q, .ref qn, .ref qk, .ref qa, .ref qd, .int (zB cl)])), (qn, .inr (3, [.ref n1, .ref n2, .ref n3, .ref n4, .ref n5, .ref n6, .ref n7, .ref n8, .ref n9, .int (nI sa), .int (nI ol), .ref n10])), (n1, aI G 5 hh), (n2, aZ G 50 df), (n3, aZ G 50 mt), (n4, aZ G 50 ig), (n5, aI G 50 gl), (n6, aI G 50 gr), (n7, aI G 3 iv), (n8, aI G 6 lv), (n9, aI G 6 ln), (q, .inr (4, [.ref a1, .ref a2, .int (nI us), .int (nI pl)])), (a1, aB G 400 tx), (a2, aI G 5 nm)] sz)) (XT G "java/lang/UnsupportedOperationException" (fun (u : (Nat → Nat) × (Nat → Bool) × (Nat → Bool) × (Nat → Bool) × (Nat → Nat) × (Nat → Nat) × (Nat → Nat) × (Nat → Nat) × (Nat → Nat) × Nat × Nat × (Nat → Nat) × Nat) => (∃ (hh1 : Nat → Nat), ∃ (df1 : Nat → Bool), ∃ (mt1 : Nat → Bool), ∃ (ig1 : Nat → Bool), ∃ (gl1 : Nat → Nat), ∃ (gr1 : Nat → Nat), ∃ (iv1 : Nat → Nat), ∃ (lv1 : Nat → Nat), ∃ (ln1 : Nat → Nat), ∃ (sa1 : Nat), ∃ (ol1 : Nat), ∃ (nm1 : Nat → Nat), ∃ (pl1 : Nat), (hh1, df1, mt1, ig1, gl1, gr1, iv1, lv1, ln1, sa1, ol1, nm1, pl1) = u)) (fun (u : (Nat → Nat) × (Nat → Bool) × (Nat → Bool) × (Nat → Bool) × (Nat → Nat) × (Nat → Nat) × (Nat → Nat) × (Nat → Nat) × (Nat → Nat) × Nat × Nat × (Nat → Nat) × Nat) => [(qc, .inr (5, [.ref q, .ref qn, .ref qk, .ref qa, .ref qd, .int (zB cl)])), (qn, .inr (3, [.ref n1, .ref n2, .ref n3, .ref n4, .ref n5, .ref n6, .ref n7, .ref n8, .ref n9, .int (nI u.2.2.2.2.2.2.2.2.2.1), .int (nI u.2.2.2.2.2.2.2.2.2.2.1), .ref n10])), (n1, aI G 5 u.1), (n2, aZ G 50 u.2.1), (n3, aZ G 50 u.2.2.1), (n4, aZ G 50 u.2.2.2.1), (n5, aI G 50 u.2.2.2.2.1), (n6, aI G 50 u.2.2.2.2.2.1), (n7, aI G 3 u.2.2.2.2.2.2.1), (n8, aI G 6 u.2.2.2.2.2.2.2.1), (n9, aI G 6 u.2.2.2.2.2.2.2.2.1), (q, .inr (4, [.ref a1, .ref a2, .int (nI us), .int (nI u.2.2.2.2.2.2.2.2.2.2.2.2)])), (a1, aB G 400 tx), (a2, aI G 5 u.2.2.2.2.2.2.2.2.2.2.2.1)]) (va_A [(qc, .inr (5, [.ref q, .ref qn, .ref qk, .ref qa, .ref qd, .int (zB cl)])), (qn, .inr (3, [.ref n1, .ref n2, .ref n3, .ref n4, .ref n5, .ref n6, .ref n7, .ref n8, .ref n9, .int (nI sa), .int (nI ol), .ref n10])), (n1, aI G 5 hh), (n2, aZ G 50 df), (n3, aZ G 50 mt), (n4, aZ G 50 ig), (n5, aI G 50 gl), (n6, aI G 50 gr), (n7, aI G 3 iv), (n8, aI G 6 lv), (n9, aI G 6 ln), (q, .inr (4, [.ref a1, .ref a2, .int (nI us), .int (nI pl)])), (a1, aB G 400 tx), (a2, aI G 5 nm)] sz)) 1 6 (va_A [(qc, .inr (5, [.ref q, .ref qn, .ref qk, .ref qa, .ref qd, .int (zB cl)])), (qn, .inr (3, [.ref n1, .ref n2, .ref n3, .ref n4, .ref n5, .ref n6, .ref n7, .ref n8, .ref n9, .int (nI sa), .int (nI ol), .ref n10])), (n1, aI G 5 hh), (n2, aZ G 50 df), (n3, aZ G 50 mt), (n4, aZ G 50 ig), (n5, aI G 50 gl), (n6, aI G 50 gr), (n7, aI G 3 iv), (n8, aI G 6 lv), (n9, aI G 6 ln), (q, .inr (4, [.ref a1, .ref a2, .int (nI us), .int (nI pl)])), (a1, aB G 400 tx), (a2, aI G 5 nm)] sz) := by
  refine vx_ofW (cc := cC_load) (maxL := 1) (ret := (some .int)) (by decide) rfl ?_
  intro p e s m args below meth c s₁ B hml hno hv
  obtain ⟨hav, ⟨hsz, hP, hK, hD0, hE⟩, hDX⟩ := hv
  have hx := B.exec
  have hb := B.bytes
  have hr := B.returns
  have hTX : ∀ w ∈ TBX, w.before args s = true := fun w h => atoms_spec (ws := Cond.code yC_load cC_load 1 (some .int) :: TBX) B.pre w (List.mem_cons_of_mem _ h)
  have htb : ∀ w ∈ TB, w.before args s = true := fun w h => hTX w (List.mem_append_left _ h)
  have hown : s.vm.findClass "CircuitProver" = some m.cls := findClass_of_methodNamed B.named
  have hlocks := B.notSynchronized
  subst hsz
  have hD := hD0.self (sz := s.heap.size)
  clear hD0
  generalize hRm : (headSpec (Cond.code yC_load cC_load 1 (some .int) :: TBX) { frames := 6, cells := 1, slots := 6, locals := 109 }).room = R
  have hRf : R.frames = 6 := by rw [← hRm]; rfl
  have hRl : R.locals = 109 := by rw [← hRm]; rfl
  have hRc : R.cells = 1 := by rw [← hRm]; rfl
  have hRs : R.slots = 6 := by rw [← hRm]; rfl
  clear hRm
  generalize hAe : va_A [(qc, .inr (5, [.ref q, .ref qn, .ref qk, .ref qa, .ref qd, .int (zB cl)])), (qn, .inr (3, [.ref n1, .ref n2, .ref n3, .ref n4, .ref n5, .ref n6, .ref n7, .ref n8, .ref n9, .int (nI sa), .int (nI ol), .ref n10])), (n1, aI G 5 hh), (n2, aZ G 50 df), (n3, aZ G 50 mt), (n4, aZ G 50 ig), (n5, aI G 50 gl), (n6, aI G 50 gr), (n7, aI G 3 iv), (n8, aI G 6 lv), (n9, aI G 6 ln), (q, .inr (4, [.ref a1, .ref a2, .int (nI us), .int (nI pl)])), (a1, aB G 400 tx), (a2, aI G 5 nm)] s.heap.size = A at hD hE ⊢
  have hA : ∀ q : Nat, s.heap.size ≤ q → A q := fun q h => by rw [← hAe]; exact Or.inr h
  clear hAe
  have hS : va_S A s.heap s.heap [] := va_S.rf
  have hl := lv_entry ([.ref qc]) (n := 1) (Nat.le_of_ble_eq_true rfl)
  have hent := lg_entry_eq m ([.ref qc]) 1
  rw [← hav] at hent
  rw [hent]
  clear hent hav
  generalize (lg_sl ([.ref qc]) ++ List.replicate (1 - (lg_sl ([.ref qc])).length) Slot.unset).toArray = ls at hl ⊢
  have hl : lv_has ls 1 [(0, .ref qc)] := hl
  generalize hQ : vx_MQ below _ _ args s 1 6 _ = Q
  have hP : va_P (gD G) vC [(qc, .inr (5, [.ref q, .ref qn, .ref qk, .ref qa, .ref qd, .int (zB cl)])), (qn, .inr (3, [.ref n1, .ref n2, .ref n3, .ref n4, .ref n5, .ref n6, .ref n7, .ref n8, .ref n9, .int (nI sa), .int (nI ol), .ref n10])), (n1, aI G 5 hh), (n2, aZ G 50 df), (n3, aZ G 50 mt), (n4, aZ G 50 ig), (n5, aI G 50 gl), (n6, aI G 50 gr), (n7, aI G 3 iv), (n8, aI G 6 lv), (n9, aI G 6 ln), (q, .inr (4, [.ref a1, .ref a2, .int (nI us), .int (nI pl)])), (a1, aB G 400 tx), (a2, aI G 5 nm)] s.heap := hP
  obtain ⟨H, hH⟩ : ∃ H : Heap, H = s.heap := ⟨_, rfl⟩
  obtain ⟨locs, hlc⟩ : ∃ L : List Loc, L = [] := ⟨_, rfl⟩
  have hS : va_S A s.heap H locs := by rw [hH, hlc]; exact hS
  have hP : va_P (gD G) vC [(qc, .inr (5, [.ref q, .ref qn, .ref qk, .ref qa, .ref qd, .int (zB cl)])), (qn, .inr (3, [.ref n1, .ref n2, .ref n3, .ref n4, .ref n5, .ref n6, .ref n7, .ref n8, .ref n9, .int (nI sa), .int (nI ol), .ref n10])), (n1, aI G 5 hh), (n2, aZ G 50 df), (n3, aZ G 50 mt), (n4, aZ G 50 ig), (n5, aI G 50 gl), (n6, aI G 50 gr), (n7, aI G 3 iv), (n8, aI G 6 lv), (n9, aI G 6 ln), (q, .inr (4, [.ref a1, .ref a2, .int (nI us), .int (nI pl)])), (a1, aB G 400 tx), (a2, aI G 5 nm)] H := by rw [hH]; exact hP
  have hgo : W p l e R s m args below meth c H locs 0 0 Q (F0 m 0 ls []) := by
    clear hH hlc
    refine lv_aload_n hx hb dC_load_0 rfl (lv_at hl 0 rfl) ?_
    refine va_get (D := gD G) (ci := 5) (v := .ref qn) (C := "CircuitProver") (T := TC) (N := 6) hx hb htb inC hown hK hP 0 rfl rfl 1 (by decide) (htb _ b188) (fun _ h9 => h9) rfl dC_load_1 ?_
    refine lv_aload_n hx hb dC_load_4 rfl (lv_at hl 0 rfl) ?_
    refine va_get (D := gD G) (ci := 5) (v := .ref q) (C := "CircuitProver") (T := TC) (N := 6) hx hb htb inC hown hK hP 0 rfl rfl 0 (by decide) (htb _ b187) (fun _ h9 => h9) rfl dC_load_5 ?_
    refine k_i (ws2 := fun u => [(qc, .inr (5, [.ref q, .ref qn, .ref qk, .ref qa, .ref qd, .int (zB cl)])), (qn, .inr (3, [.ref n1, .ref n2, .ref n3, .ref n4, .ref n5, .ref n6, .ref n7, .ref n8, .ref n9, .int (nI (u.2.2.2.2.2.2.2.2.2.1)), .int (nI (u.2.2.2.2.2.2.2.2.2.2.1)), .ref n10])), (n1, aI G 5 (u.1)), (n2, aZ G 50 (u.2.1)), (n3, aZ G 50 (u.2.2.1)), (n4, aZ G 50 (u.2.2.2.1)), (n5, aI G 50 (u.2.2.2.2.1)), (n6, aI G 50 (u.2.2.2.2.2.1)), (n7, aI G 3 (u.2.2.2.2.2.2.1)), (n8, aI G 6 (u.2.2.2.2.2.2.2.1)), (n9, aI G 6 (u.2.2.2.2.2.2.2.2.1)), (q, .inr (4, [.ref a1, .ref a2, .int (nI us), .int (nI (u.2.2.2.2.2.2.2.2.2.2.2.2))])), (a1, aB G 400 tx), (a2, aI G 5 (u.2.2.2.2.2.2.2.2.2.2.2.1))]) (wr := [(qc, .inr (5, [.ref q, .ref qn, .ref qk, .ref qa, .ref qd, .int (zB cl)]))]) (k_runV (n := 1) (As := [.ref q]) (rest := []) hx hb hml hown htb hP hD hK hS hA hE (k_N_read l G H.size qn n1 n2 n3 n4 n5 n6 n7 n8 n9 n10 sa ol hh df mt ig gl gr iv lv ln q a1 a2 tx nm us pl (show us ≤ 400 from by omega) (show ∀ j, tx j < 128 from by omega)) b238 b239 b240 b3 b241 (by decide +kernel) rfl rfl ⟨by rw [hRf]; exact Nat.le_of_ble_eq_true rfl, by rw [hRl]; exact Nat.le_of_ble_eq_true rfl⟩ [1, 2, 3, 4, 5, 6, 7, 8, 9, 10, 11, 12, 13] rfl (by decide) 1 rfl rfl rfl rfl hl.1 rfl (Nat.le_of_ble_eq_true rfl) dC_load_8 ⟨Nat.zero_le _, Nat.zero_le _⟩) hP hD hS hA [1, 2, 3, 4, 5, 6, 7, 8, 9, 10, 11, 12, 13] [0] [0, 1, 2, 3, 4, 5, 6, 7, 8, 9, 10, 11, 12, 13] rfl rfl (by decide) (by decide) (fun u => rfl) (by decide) (fun r u H locs hw hP hD hS => ?_)
    rcases hw with ⟨hh18, df18, mt18, ig18, gl18, gr18, iv18, lv18, ln18, sa18, ol18, nm18, pl18, hc8_o, hc8_a, hc8_s, rfl, rfl⟩ | ⟨hh18, df18, mt18, ig18, gl18, gr18, iv18, lv18, ln18, sa18, ol18, nm18, pl18, hc8_o, rfl, rfl⟩
    · skip
      have hP : va_P (gD G) vC [(qc, .inr (5, [.ref q, .ref qn, .ref qk, .ref qa, .ref qd, .int (zB cl)])), (qn, .inr (3, [.ref n1, .ref n2, .ref n3, .ref n4, .ref n5, .ref n6, .ref n7, .ref n8, .ref n9, .int (nI sa18), .int (nI ol18), .ref n10])), (n1, aI G 5 hh18), (n2, aZ G 50 df18), (n3, aZ G 50 mt18), (n4, aZ G 50 ig18), (n5, aI G 50 gl18), (n6, aI G 50 gr18), (n7, aI G 3 iv18), (n8, aI G 6 lv18), (n9, aI G 6 ln18), (q, .inr (4, [.ref a1, .ref a2, .int (nI us), .int (nI pl18)])), (a1, aB G 400 tx), (a2, aI G 5 nm18)] H := hP
      have hD : va_D A [(qc, .inr (5, [.ref q, .ref qn, .ref qk, .ref qa, .ref qd, .int (zB cl)])), (qn, .inr (3, [.ref n1, .ref n2, .ref n3, .ref n4, .ref n5, .ref n6, .ref n7, .ref n8, .ref n9, .int (nI sa18), .int (nI ol18), .ref n10])), (n1, aI G 5 hh18), (n2, aZ G 50 df18), (n3, aZ G 50 mt18), (n4, aZ G 50 ig18), (n5, aI G 50 gl18), (n6, aI G 50 gr18), (n7, aI G 3 iv18), (n8, aI G 6 lv18), (n9, aI G 6 ln18), (q, .inr (4, [.ref a1, .ref a2, .int (nI us), .int (nI pl18)])), (a1, aB G 400 tx), (a2, aI G 5 nm18)] := hD
      refine lv_if_ne (tgt := 24) hx hb dC_load_11 rfl (fun _ => ?_) (fun h11 => (by revert h11; first | decide | exact fun z => absurd z (by decide) | exact fun z => z.elim (by decide)))
      refine lv_aload_n hx hb dC_load_24 rfl (lv_at hl 0 rfl) ?_
      refine va_get (D := gD G) (ci := 5) (v := .ref qn) (C := "CircuitProver") (T := TC) (N := 6) hx hb htb inC hown hK hP 0 rfl rfl 1 (by decide) (htb _ b188) (fun _ h9 => h9) rfl dC_load_25 ?_
      refine k_i (ws2 := fun u => [(qc, .inr (5, [.ref q, .ref qn, .ref qk, .ref qa, .ref qd, .int (zB cl)])), (qn, .inr (3, [.ref n1, .ref n2, .ref n3, .ref n4, .ref n5, .ref n6, .ref n7, .ref n8, .ref n9, .int (nI sa18), .int (nI ol18), .ref n10])), (n1, aI G 5 hh18), (n2, aZ G 50 df18), (n3, aZ G 50 mt18), (n4, aZ G 50 ig18), (n5, aI G 50 gl18), (n6, aI G 50 gr18), (n7, aI G 3 iv18), (n8, aI G 6 lv18), (n9, aI G 6 ln18), (q, .inr (4, [.ref a1, .ref a2, .int (nI us), .int (nI pl18)])), (a1, aB G 400 tx), (a2, aI G 5 nm18)]) (wr := [(qc, .inr (5, [.ref q, .ref qn, .ref qk, .ref qa, .ref qd, .int (zB cl)])), (n2, aZ G 50 df18), (n3, aZ G 50 mt18), (n4, aZ G 50 ig18), (n5, aI G 50 gl18), (n6, aI G 50 gr18), (n7, aI G 3 iv18), (n8, aI G 6 lv18), (n9, aI G 6 ln18), (q, .inr (4, [.ref a1, .ref a2, .int (nI us), .int (nI pl18)])), (a1, aB G 400 tx), (a2, aI G 5 nm18)]) (k_runV (n := 0) (As := []) (rest := []) hx hb hml hown htb hP hD hK hS hA hE (k_N_isSmall l G H.size qn n1 n2 n3 n4 n5 n6 n7 n8 n9 n10 sa18 ol18 hh18 (show ∀ c, c < 5 → hh18 c < 100 from fun c hc => by rw [hc8_a c hc]; exact hd_lt _ c)) b382 b383 b384 b3 b385 (by decide +kernel) rfl rfl ⟨by rw [hRf]; exact Nat.le_of_ble_eq_true rfl, by rw [hRl]; exact Nat.le_of_ble_eq_true rfl⟩ [1, 2] rfl (by decide) 1 rfl rfl rfl rfl hl.1 rfl (Nat.le_of_ble_eq_true rfl) dC_load_28 ⟨Nat.zero_le _, Nat.zero_le _⟩) hP hD hS hA [1, 2] [0, 3, 4, 5, 6, 7, 8, 9, 10, 11, 12, 13] [0, 12, 13, 1, 2, 3, 4, 5, 6, 7, 8, 9, 10, 11] rfl rfl (by decide) (by decide) (fun u => rfl) (by decide) (fun r u H locs hw hP hD hS => ?_)
      rcases hw with ⟨hc28_e, rfl, rfl⟩ | ⟨hc28_e, rfl, rfl⟩
      · skip
        exact absurd (by unfold small; rw [← hc8_a 1 (by decide), ← hc8_a 2 (by decide), ← hc8_a 3 (by decide), ← hc8_a 4 (by decide)]; exact hc28_e) hns
      · skip
        have hP : va_P (gD G) vC [(qc, .inr (5, [.ref q, .ref qn, .ref qk, .ref qa, .ref qd, .int (zB cl)])), (qn, .inr (3, [.ref n1, .ref n2, .ref n3, .ref n4, .ref n5, .ref n6, .ref n7, .ref n8, .ref n9, .int (nI sa18), .int (nI ol18), .ref n10])), (n1, aI G 5 hh18), (n2, aZ G 50 df18), (n3, aZ G 50 mt18), (n4, aZ G 50 ig18), (n5, aI G 50 gl18), (n6, aI G 50 gr18), (n7, aI G 3 iv18), (n8, aI G 6 lv18), (n9, aI G 6 ln18), (q, .inr (4, [.ref a1, .ref a2, .int (nI us), .int (nI pl18)])), (a1, aB G 400 tx), (a2, aI G 5 nm18)] H := hP
        have hD : va_D A [(qc, .inr (5, [.ref q, .ref qn, .ref qk, .ref qa, .ref qd, .int (zB cl)])), (qn, .inr (3, [.ref n1, .ref n2, .ref n3, .ref n4, .ref n5, .ref n6, .ref n7, .ref n8, .ref n9, .int (nI sa18), .int (nI ol18), .ref n10])), (n1, aI G 5 hh18), (n2, aZ G 50 df18), (n3, aZ G 50 mt18), (n4, aZ G 50 ig18), (n5, aI G 50 gl18), (n6, aI G 50 gr18), (n7, aI G 3 iv18), (n8, aI G 6 lv18), (n9, aI G 6 ln18), (q, .inr (4, [.ref a1, .ref a2, .int (nI us), .int (nI pl18)])), (a1, aB G 400 tx), (a2, aI G 5 nm18)] := hD
        refine lv_if_ne (tgt := 44) hx hb dC_load_31 rfl (fun h31 => (by revert h31; first | decide | exact fun z => absurd z (by decide) | exact fun z => z.elim (by decide))) (fun _ => ?_)
        obtain ⟨sa9, hsa9⟩ := hE.2.2.2.2.2.1
        rw [← hQ]
        exact vx_throwS hx hb htr hown (names := exN) (by decide +kernel) (by decide +kernel) (htb _ b386) (htb _ b13) hsa9 (vx_hat (fun w hw => hTX w (List.mem_append_right _ (List.mem_append_right _ (List.mem_append_left _ hw)))) x2_d (DX.use hDX)) (by decide +kernel) hE.2.2.1 hE.2.2.2.1 hS (hl.1.trans hml.symm) dC_load_34 dC_load_37 dC_load_38 dC_load_40 dC_load_43 (fun x hx => (hno x hx).elim) (by rw [hRf]; exact Nat.le_of_ble_eq_true rfl) (by rw [hRl]; exact Nat.le_of_ble_eq_true rfl) (by rw [hRc]; exact Nat.le_of_ble_eq_true rfl) (by rw [hRs]; exact Nat.le_of_ble_eq_true rfl) hlocks (k_thr (hh18, df18, mt18, ig18, gl18, gr18, iv18, lv18, ln18, sa18, ol18, nm18, pl18) (⟨_, _, _, _, _, _, _, _, _, _, _, _, _, rfl⟩) hP hD hK hS) hS.2.2 (Nat.le_of_ble_eq_true rfl) (Nat.le_of_ble_eq_true rfl)
    · skip
      exact absurd hcO hc8_o
  rw [hH, hlc] at hgo
  exact hgo
