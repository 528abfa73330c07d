theorem ix_13 {x : Int32} (h0 : ¬ x < nI 1) (h1 : ¬ nI 3 < x) : ∃ j, 1 ≤ j ∧ j < 4 ∧ x = nI j := by
  rw [Int32.lt_iff_toInt_lt, nI_toInt (by omega)] at h0
  rw [Int32.lt_iff_toInt_lt, nI_toInt (by omega)] at h1
  rcases pk_ix x (n := 4) (by omega) with h | h | ⟨j, hj, e⟩
  · rw [Int32.lt_iff_toInt_lt] at h
    have e0 : (0 : Int32).toInt = 0 := by decide
    omega
  · rw [Int32.le_iff_toInt_le, nI_toInt (by omega)] at h
    omega
  · subst e
    rw [nI_toInt (by omega)] at h0 h1
    exact ⟨j, by omega, hj, rfl⟩
set_option maxRecDepth 100000 in
set_option maxHeartbeats 4000000 in
theorem k_C_isSet (l : Launch) (G : GG) (sz : Nat) (qc : Nat) (q : Nat) (qn : Nat) (qk : Nat) (qa : Nat) (qd : Nat) (r1 : Nat) (r2 : Nat) (ns : Nat) (re : Int64) (sp : Int32) (lr : Nat) (rt : Nat) (vi : Int64) (x : Int32) : Ki l yC_isSet cC_isSet 2 .boolean 1 20 G [.ref qc, .int x] [(qc, .inr (5, [.ref q, .ref qn, .ref qk, .ref qa, .ref qd, .int (zB true)])), (qa, .inr (0, [.ref r1, .int (nI ns), .long re, .int sp, .ref r2, .int (nI lr), .int (nI rt), .long vi]))] sz (fun (r : Int32) (u : Unit) => (∃ (j : Nat), (j < 4 ∧ x = nI j) ∧ (j = 0 → sp = (-1)) ∧ nI 1 = r ∧ () = u) ∨ ((∀ j, j < 4 → x = nI j → (j = 0 ∧ ¬ sp = (-1))) ∧ nI 0 = r ∧ () = u)) (fun (u : Unit) => [(qc, .inr (5, [.ref q, .ref qn, .ref qk, .ref qa, .ref qd, .int (zB true)])), (qa, .inr (0, [.ref r1, .int (nI ns), .long re, .int sp, .ref r2, .int (nI lr), .int (nI rt), .long vi]))]) := by
  refine Met.ofW (cc := cC_isSet) (maxL := 2) (ret := (some .boolean)) (by decide) rfl ?_
  intro p e s m args below meth c s₁ B hml hv
  obtain ⟨hav, hsz, hP, hK, hD0, hE⟩ := hv
  have hx := B.exec
  have hb := B.bytes
  have hr := B.returns
  have htb : ∀ w ∈ TB, w.before args s = true := fun w h => atoms_spec (ws := Cond.code yC_isSet cC_isSet 2 (some .boolean) :: TB) B.pre w (List.mem_cons_of_mem _ h)
  have hown : s.vm.findClass "CircuitProver" = some m.cls := findClass_of_methodNamed B.named
  have hlocks := B.notSynchronized
  subst hsz
  have hD := hD0.self (sz := s.heap.size)
  clear hD0
  generalize hRm : (headSpec (Cond.code yC_isSet cC_isSet 2 (some .boolean) :: TB) { frames := 1, cells := 0, slots := 0, locals := 20 }).room = R
  have hRf : R.frames = 1 := by rw [← hRm]; rfl
  have hRl : R.locals = 20 := by rw [← hRm]; rfl
  have hRc : R.cells = 0 := by rw [← hRm]; rfl
  have hRs : R.slots = 0 := by rw [← hRm]; rfl
  clear hRm
  generalize hAe : va_A [(qc, .inr (5, [.ref q, .ref qn, .ref qk, .ref qa, .ref qd, .int (zB true)])), (qa, .inr (0, [.ref r1, .int (nI ns), .long re, .int sp, .ref r2, .int (nI lr), .int (nI rt), .long vi]))] s.heap.size = A at hD hE ⊢
  have hA : ∀ q : Nat, s.heap.size ≤ q → A q := fun q h => by rw [← hAe]; exact Or.inr h
  clear hAe
  have hS : va_S A s.heap s.heap [] := va_S.rf
  have hl := lv_entry ([.ref qc, .int x]) (n := 2) (Nat.le_of_ble_eq_true rfl)
  have hent := lg_entry_eq m ([.ref qc, .int x]) 2
  rw [← hav] at hent
  rw [hent]
  clear hent hav
  generalize (lg_sl ([.ref qc, .int x]) ++ List.replicate (2 - (lg_sl ([.ref qc, .int x])).length) Slot.unset).toArray = ls at hl ⊢
  have hl : lv_has ls 2 [(0, .ref qc), (1, .int x)] := hl
  generalize hQ : MQ below _ args s 0 0 _ = Q
  have hP : va_P (gD G) vC [(qc, .inr (5, [.ref q, .ref qn, .ref qk, .ref qa, .ref qd, .int (zB true)])), (qa, .inr (0, [.ref r1, .int (nI ns), .long re, .int sp, .ref r2, .int (nI lr), .int (nI rt), .long vi]))] s.heap := hP
  obtain ⟨H, hH⟩ : ∃ H : Heap, H = s.heap := ⟨_, rfl⟩
  obtain ⟨locs, hlc⟩ : ∃ L : List Loc, L = [] := ⟨_, rfl⟩
  have hS : va_S A s.heap H locs := by rw [hH, hlc]; exact hS
  have hP : va_P (gD G) vC [(qc, .inr (5, [.ref q, .ref qn, .ref qk, .ref qa, .ref qd, .int (zB true)])), (qa, .inr (0, [.ref r1, .int (nI ns), .long re, .int sp, .ref r2, .int (nI lr), .int (nI rt), .long vi]))] H := by rw [hH]; exact hP
  have hgo : W p l e R s m args below meth c H locs 0 0 Q (F0 m 0 ls []) := by
    clear hH hlc
    refine lv_iload_n hx hb dC_isSet_0 rfl (lv_at hl 1 rfl) ?_
    refine lv_if_ne (tgt := 14) hx hb dC_isSet_1 rfl (fun h1 => ?_) (fun h1 => ?_)
    · skip
      refine lv_iload_n hx hb dC_isSet_14 rfl (lv_at hl 1 rfl) ?_
      refine lv_iconst (v := nI 1) hx hb dC_isSet_15 (by decide) ?_
      refine lv_icmp_lt (tgt := 28) hx hb dC_isSet_16 rfl (fun h16 => ?_) (fun h16 => ?_)
      · skip
        refine lv_iconst (v := nI 0) hx hb dC_isSet_28 (by decide) ?_
        -- end 0
        rw [← hQ]
        exact k_iret hx hb hr hlocks (by decide) (u := ()) (Or.inr ⟨fun j hj e9 => (by rw [e9] at h16 h1; have h9 := (nI_ltI (by omega) (by omega)).mp h16; exact absurd (by rw [show j = 0 by omega]; rfl) h1), rfl, rfl⟩) hP hD hK hS dC_isSet_29
      · skip
        refine lv_iload_n hx hb dC_isSet_19 rfl (lv_at hl 1 rfl) ?_
        refine lv_iconst (v := nI 3) hx hb dC_isSet_20 (by decide) ?_
        refine lv_icmp_gt (tgt := 28) hx hb dC_isSet_21 rfl (fun h21 => ?_) (fun h21 => ?_)
        · skip
          refine lv_iconst (v := nI 0) hx hb dC_isSet_28 (by decide) ?_
          -- end 1
          rw [← hQ]
          exact k_iret hx hb hr hlocks (by decide) (u := ()) (Or.inr ⟨fun j hj e9 => (by rw [e9] at h21; have h9 := (nI_ltI (by omega) (by omega)).mp h21; omega), rfl, rfl⟩) hP hD hK hS dC_isSet_29
        · skip
          obtain ⟨j, hj1, hj4, rfl⟩ := ix_13 h16 h21
          refine lv_iconst (v := nI 1) hx hb dC_isSet_24 (by decide) ?_
          refine lv_goto (tgt := 29) hx hb dC_isSet_25 rfl ?_
          -- end 2
          rw [← hQ]
          exact k_iret hx hb hr hlocks (by decide) (u := ()) (Or.inl ⟨j, ⟨hj4, rfl⟩, fun h => by omega, rfl, rfl⟩) hP hD hK hS dC_isSet_29
    · skip
      refine lv_aload_n hx hb dC_isSet_4 rfl (lv_at hl 0 rfl) ?_
      refine va_get (D := gD G) (ci := 5) (v := .ref qa) (C := "CircuitProver") (T := TC) (N := 6) hx hb htb inC hown hK hP 0 rfl rfl 3 (by decide) (htb _ b190) (fun _ h9 => h9) rfl dC_isSet_5 ?_
      refine k_i (ws2 := fun u => [(qc, .inr (5, [.ref q, .ref qn, .ref qk, .ref qa, .ref qd, .int (zB true)])), (qa, .inr (0, [.ref r1, .int (nI ns), .long re, .int sp, .ref r2, .int (nI lr), .int (nI rt), .long vi]))]) (wr := [(qc, .inr (5, [.ref q, .ref qn, .ref qk, .ref qa, .ref qd, .int (zB true)]))]) (k_runV (n := 0) (As := []) (rest := []) hx hb hml hown htb hP hD hK hS hA hE (k_A_isSafe l G H.size qa r1 r2 ns re sp lr rt vi ) b579 b463 b464 b5 b465 (by decide +kernel) rfl rfl ⟨by rw [hRf]; exact Nat.le_of_ble_eq_true rfl, by rw [hRl]; exact Nat.le_of_ble_eq_true rfl⟩ [1] rfl (by decide) 1 rfl rfl rfl rfl hl.1 rfl (Nat.le_of_ble_eq_true rfl) dC_isSet_8 ⟨Nat.zero_le _, Nat.zero_le _⟩) hP hD hS hA [1] [0] [0, 1] rfl rfl (by decide) (by decide) (fun u => rfl) (by decide) (fun r u H locs hw hP hD hS => ?_)
      rcases hw with ⟨hc8_e, rfl, rfl⟩ | ⟨hc8_e, rfl, rfl⟩
      · skip
        have hP : va_P (gD G) vC [(qc, .inr (5, [.ref q, .ref qn, .ref qk, .ref qa, .ref qd, .int (zB true)])), (qa, .inr (0, [.ref r1, .int (nI ns), .long re, .int sp, .ref r2, .int (nI lr), .int (nI rt), .long vi]))] H := hP
        have hD : va_D A [(qc, .inr (5, [.ref q, .ref qn, .ref qk, .ref qa, .ref qd, .int (zB true)])), (qa, .inr (0, [.ref r1, .int (nI ns), .long re, .int sp, .ref r2, .int (nI lr), .int (nI rt), .long vi]))] := hD
        refine lv_goto (tgt := 29) hx hb dC_isSet_11 rfl ?_
        -- end 3
        rw [← hQ]
        exact k_iret hx hb hr hlocks (by decide) (u := ()) (Or.inl ⟨0, ⟨by omega, h1⟩, fun _ => hc8_e, rfl, rfl⟩) hP hD hK hS dC_isSet_29
      · skip
        have hP : va_P (gD G) vC [(qc, .inr (5, [.ref q, .ref qn, .ref qk, .ref qa, .ref qd, .int (zB true)])), (qa, .inr (0, [.ref r1, .int (nI ns), .long re, .int sp, .ref r2, .int (nI lr), .int (nI rt), .long vi]))] H := hP
        have hD : va_D A [(qc, .inr (5, [.ref q, .ref qn, .ref qk, .ref qa, .ref qd, .int (zB true)])), (qa, .inr (0, [.ref r1, .int (nI ns), .long re, .int sp, .ref r2, .int (nI lr), .int (nI rt), .long vi]))] := hD
        refine lv_goto (tgt := 29) hx hb dC_isSet_11 rfl ?_
        -- end 4
        rw [← hQ]
        exact k_iret hx hb hr hlocks (by decide) (u := ()) (Or.inr ⟨fun j hj e9 => ⟨(by rw [e9] at h1; exact (nI_eq (a := j) (b := 0) (by omega) (by omega)).mp h1), hc8_e⟩, rfl, rfl⟩) hP hD hK hS dC_isSet_29
  rw [hH, hlc] at hgo
  exact hgo
set_option maxRecDepth 100000 in
set_option maxHeartbeats 4000000 in
theorem k_C_chosenSet (l : Launch) (G : GG) (sz : Nat) (qc : Nat) (q : Nat) (qn : Nat) (qk : Nat) (qa : Nat) (qd : Nat) (r1 : Nat) (r2 : Nat) (ns : Nat) (re : Int64) (sp : Int32) (lr : Nat) (rt : Nat) (vi : Int64) (na : Nat → Int64) (k1 : Nat) (k2 : Nat) (k3 : Nat) (k4 : Nat) (la : Nat) (ss : Nat) (ii : Nat) (ks : Nat) (kb : Int64) (Nf : Nat → Int64) (k : Nat) (hns : 1 ≤ ns ∧ ns ≤ 64) (hna : ∀ j, j < ns → na j = Nf j) (hst : ∀ j, ns - 1 ≤ j → Nf j = Nf (ns - 1)) (hk : k < 4) : Kl l yC_chosenSet cC_chosenSet 2 3 55 G [.ref qc, .int (nI k)] [(qc, .inr (5, [.ref q, .ref qn, .ref qk, .ref qa, .ref qd, .int (zB true)])), (qa, .inr (0, [.ref r1, .int (nI ns), .long re, .int sp, .ref r2, .int (nI lr), .int (nI rt), .long vi])), (r1, aJ G 64 na), (qk, .inr (2, [.ref k1, .int (nI la), .int (nI ss), .int (nI ii), .int (nI ks), .ref k2, .ref k3, .ref k4, .long kb]))] sz (fun (r : Int64) (u : Unit) => (sel4 k vi re kb (Nf (ns - 1)) = r ∧ () = u)) (fun (u : Unit) => [(qc, .inr (5, [.ref q, .ref qn, .ref qk, .ref qa, .ref qd, .int (zB true)])), (qa, .inr (0, [.ref r1, .int (nI ns), .long re, .int sp, .ref r2, .int (nI lr), .int (nI rt), .long vi])), (r1, aJ G 64 na), (qk, .inr (2, [.ref k1, .int (nI la), .int (nI ss), .int (nI ii), .int (nI ks), .ref k2, .ref k3, .ref k4, .long kb]))]) := by
  refine Met.ofW (cc := cC_chosenSet) (maxL := 2) (ret := (some .long)) (by decide) rfl ?_
  intro p e s m args below meth c s₁ B hml hv
  obtain ⟨hav, hsz, hP, hK, hD0, hE⟩ := hv
  have hx := B.exec
  have hb := B.bytes
  have hr := B.returns
  have htb : ∀ w ∈ TB, w.before args s = true := fun w h => atoms_spec (ws := Cond.code yC_chosenSet cC_chosenSet 2 (some .long) :: TB) B.pre w (List.mem_cons_of_mem _ h)
  have hown : s.vm.findClass "CircuitProver" = some m.cls := findClass_of_methodNamed B.named
  have hlocks := B.notSynchronized
  subst hsz
  have hD := hD0.self (sz := s.heap.size)
  clear hD0
  generalize hRm : (headSpec (Cond.code yC_chosenSet cC_chosenSet 2 (some .long) :: TB) { frames := 3, cells := 0, slots := 0, locals := 55 }).room = R
  have hRf : R.frames = 3 := by rw [← hRm]; rfl
  have hRl : R.locals = 55 := by rw [← hRm]; rfl
  have hRc : R.cells = 0 := by rw [← hRm]; rfl
  have hRs : R.slots = 0 := by rw [← hRm]; rfl
  clear hRm
  generalize hAe : va_A [(qc, .inr (5, [.ref q, .ref qn, .ref qk, .ref qa, .ref qd, .int (zB true)])), (qa, .inr (0, [.ref r1, .int (nI ns), .long re, .int sp, .ref r2, .int (nI lr), .int (nI rt), .long vi])), (r1, aJ G 64 na), (qk, .inr (2, [.ref k1, .int (nI la), .int (nI ss), .int (nI ii), .int (nI ks), .ref k2, .ref k3, .ref k4, .long kb]))] s.heap.size = A at hD hE ⊢
  have hA : ∀ q : Nat, s.heap.size ≤ q → A q := fun q h => by rw [← hAe]; exact Or.inr h
  clear hAe
  have hS : va_S A s.heap s.heap [] := va_S.rf
  have hl := lv_entry ([.ref qc, .int (nI k)]) (n := 2) (Nat.le_of_ble_eq_true rfl)
  have hent := lg_entry_eq m ([.ref qc, .int (nI k)]) 2
  rw [← hav] at hent
  rw [hent]
  clear hent hav
  generalize (lg_sl ([.ref qc, .int (nI k)]) ++ List.replicate (2 - (lg_sl ([.ref qc, .int (nI k)])).length) Slot.unset).toArray = ls at hl ⊢
  have hl : lv_has ls 2 [(0, .ref qc), (1, .int (nI k))] := hl
  generalize hQ : MQ below _ args s 0 0 _ = Q
  have hP : va_P (gD G) vC [(qc, .inr (5, [.ref q, .ref qn, .ref qk, .ref qa, .ref qd, .int (zB true)])), (qa, .inr (0, [.ref r1, .int (nI ns), .long re, .int sp, .ref r2, .int (nI lr), .int (nI rt), .long vi])), (r1, aJ G 64 na), (qk, .inr (2, [.ref k1, .int (nI la), .int (nI ss), .int (nI ii), .int (nI ks), .ref k2, .ref k3, .ref k4, .long kb]))] s.heap := hP
  obtain ⟨H, hH⟩ : ∃ H : Heap, H = s.heap := ⟨_, rfl⟩
  obtain ⟨locs, hlc⟩ : ∃ L : List Loc, L = [] := ⟨_, rfl⟩
  have hS : va_S A s.heap H locs := by rw [hH, hlc]; exact hS
  have hP : va_P (gD G) vC [(qc, .inr (5, [.ref q, .ref qn, .ref qk, .ref qa, .ref qd, .int (zB true)])), (qa, .inr (0, [.ref r1, .int (nI ns), .long re, .int sp, .ref r2, .int (nI lr), .int (nI rt), .long vi])), (r1, aJ G 64 na), (qk, .inr (2, [.ref k1, .int (nI la), .int (nI ss), .int (nI ii), .int (nI ks), .ref k2, .ref k3, .ref k4, .long kb]))] H := by rw [hH]; exact hP
  have hgo : W p l e R s m args below meth c H locs 0 0 Q (F0 m 0 ls []) := by
    clear hH hlc
    refine lv_iload_n hx hb dC_chosenSet_0 rfl (lv_at hl 1 rfl) ?_
    rcases (show k = 0 ∨ k = 1 ∨ k = 2 ∨ 3 ≤ k by omega) with hsw | hsw | hsw | hsw
    · refine lv_tableIn (off := 27) (tgt := 28) hx hb dC_chosenSet_1 (by rw [nI_toInt (by omega)]; omega) (by rw [nI_toInt (by omega)]; omega) (by rw [nI_toInt (by omega), hsw]; rfl) (by decide) ?_
      refine lv_aload_n hx hb dC_chosenSet_28 rfl (lv_at hl 0 rfl) ?_
      refine va_get (D := gD G) (ci := 5) (v := .ref qa) (C := "CircuitProver") (T := TC) (N := 6) hx hb htb inC hown hK hP 0 rfl rfl 3 (by decide) (htb _ b190) (fun _ h9 => h9) rfl dC_chosenSet_29 ?_
      refine va_getN (D := gD G) (ci := 0) (v := .long vi) (C := "CircuitProver$Answer") (T := TA) (N := 8) hx hb htb inA hown hK hP 1 rfl rfl 7 (by decide) (va_Nw.use rfl (hE.nw n159)) (fun _ h9 => h9) rfl dC_chosenSet_32 ?_
      -- end 0
      rw [← hQ]
      exact k_lret hx hb hr hlocks (u := ()) (⟨by unfold sel4; rw [if_pos hsw], rfl⟩) hP hD hK hS dC_chosenSet_35
    · refine lv_tableIn (off := 35) (tgt := 36) hx hb dC_chosenSet_1 (by rw [nI_toInt (by omega)]; omega) (by rw [nI_toInt (by omega)]; omega) (by rw [nI_toInt (by omega), hsw]; rfl) (by decide) ?_
      refine lv_aload_n hx hb dC_chosenSet_36 rfl (lv_at hl 0 rfl) ?_
      refine va_get (D := gD G) (ci := 5) (v := .ref qa) (C := "CircuitProver") (T := TC) (N := 6) hx hb htb inC hown hK hP 0 rfl rfl 3 (by decide) (htb _ b190) (fun _ h9 => h9) rfl dC_chosenSet_37 ?_
      refine va_getN (D := gD G) (ci := 0) (v := .long re) (C := "CircuitProver$Answer") (T := TA) (N := 8) hx hb htb inA hown hK hP 1 rfl rfl 2 (by decide) (va_Nw.use rfl (hE.nw n149)) (fun _ h9 => h9) rfl dC_chosenSet_40 ?_
      -- end 1
      rw [← hQ]
      exact k_lret hx hb hr hlocks (u := ()) (⟨by unfold sel4; rw [if_neg (by omega), if_pos hsw], rfl⟩) hP hD hK hS dC_chosenSet_43
    · refine lv_tableIn (off := 43) (tgt := 44) hx hb dC_chosenSet_1 (by rw [nI_toInt (by omega)]; omega) (by rw [nI_toInt (by omega)]; omega) (by rw [nI_toInt (by omega), hsw]; rfl) (by decide) ?_
      refine lv_aload_n hx hb dC_chosenSet_44 rfl (lv_at hl 0 rfl) ?_
      refine va_get (D := gD G) (ci := 5) (v := .ref qk) (C := "CircuitProver") (T := TC) (N := 6) hx hb htb inC hown hK hP 0 rfl rfl 2 (by decide) (htb _ b189) (fun _ h9 => h9) rfl dC_chosenSet_45 ?_
      refine va_getN (D := gD G) (ci := 2) (v := .long kb) (C := "CircuitProver$Machine") (T := TK) (N := 9) hx hb htb inK hown hK hP 3 rfl rfl 8 (by decide) (va_Nw.use rfl (hE.nw n120)) (fun _ h9 => h9) rfl dC_chosenSet_48 ?_
      -- end 2
      rw [← hQ]
      exact k_lret hx hb hr hlocks (u := ()) (⟨by unfold sel4; rw [if_neg (by omega), if_neg (by omega), if_pos hsw], rfl⟩) hP hD hK hS dC_chosenSet_51
    · refine lv_tableOut (tgt := 52) hx hb dC_chosenSet_1 (Or.inr (by rw [nI_toInt (by omega)]; omega)) (by decide) ?_
      refine lv_aload_n hx hb dC_chosenSet_52 rfl (lv_at hl 0 rfl) ?_
      refine va_get (D := gD G) (ci := 5) (v := .ref qa) (C := "CircuitProver") (T := TC) (N := 6) hx hb htb inC hown hK hP 0 rfl rfl 3 (by decide) (htb _ b190) (fun _ h9 => h9) rfl dC_chosenSet_53 ?_
      refine k_l (ws2 := fun u => [(qc, .inr (5, [.ref q, .ref qn, .ref qk, .ref qa, .ref qd, .int (zB true)])), (qa, .inr (0, [.ref r1, .int (nI ns), .long re, .int sp, .ref r2, .int (nI lr), .int (nI rt), .long vi])), (r1, aJ G 64 na), (qk, .inr (2, [.ref k1, .int (nI la), .int (nI ss), .int (nI ii), .int (nI ks), .ref k2, .ref k3, .ref k4, .long kb]))]) (wr := [(qc, .inr (5, [.ref q, .ref qn, .ref qk, .ref qa, .ref qd, .int (zB true)])), (qk, .inr (2, [.ref k1, .int (nI la), .int (nI ss), .int (nI ii), .int (nI ks), .ref k2, .ref k3, .ref k4, .long kb]))]) (k_runV (n := 0) (As := []) (rest := []) hx hb hml hown htb hP hD hK hS hA hE (k_A_doomed l G H.size qa r1 r2 ns re sp lr rt vi na Nf (show 1 ≤ ns ∧ ns ≤ 64 from by omega) (show ∀ j, j < ns → na j = Nf j from hna) (show ∀ j, ns - 1 ≤ j → Nf j = Nf (ns - 1) from hst)) b631 b632 b633 b5 b634 (by decide +kernel) rfl rfl ⟨by rw [hRf]; exact Nat.le_of_ble_eq_true rfl, by rw [hRl]; exact Nat.le_of_ble_eq_true rfl⟩ [1, 2] rfl (by decide) 1 rfl rfl rfl rfl hl.1 rfl (Nat.le_of_ble_eq_true rfl) dC_chosenSet_56 ⟨Nat.zero_le _, Nat.zero_le _⟩) hP hD hS hA [1, 2] [0, 3] [0, 2, 3, 1] rfl rfl (by decide) (by decide) (fun u => rfl) (by decide) (fun r u H locs hw hP hD hS => ?_)
      obtain ⟨rfl, rfl⟩ := hw
      have hP : va_P (gD G) vC [(qc, .inr (5, [.ref q, .ref qn, .ref qk, .ref qa, .ref qd, .int (zB true)])), (qa, .inr (0, [.ref r1, .int (nI ns), .long re, .int sp, .ref r2, .int (nI lr), .int (nI rt), .long vi])), (r1, aJ G 64 na), (qk, .inr (2, [.ref k1, .int (nI la), .int (nI ss), .int (nI ii), .int (nI ks), .ref k2, .ref k3, .ref k4, .long kb]))] H := hP
      have hD : va_D A [(qc, .inr (5, [.ref q, .ref qn, .ref qk, .ref qa, .ref qd, .int (zB true)])), (qa, .inr (0, [.ref r1, .int (nI ns), .long re, .int sp, .ref r2, .int (nI lr), .int (nI rt), .long vi])), (r1, aJ G 64 na), (qk, .inr (2, [.ref k1, .int (nI la), .int (nI ss), .int (nI ii), .int (nI ks), .ref k2, .ref k3, .ref k4, .long kb]))] := hD
      -- end 3
      rw [← hQ]
      exact k_lret hx hb hr hlocks (u := ()) (⟨by unfold sel4; rw [if_neg (by omega), if_neg (by omega), if_neg (by omega)], rfl⟩) hP hD hK hS dC_chosenSet_59
  rw [hH, hlc] at hgo
  exact hgo
set_option maxRecDepth 100000 in
set_option maxHeartbeats 4000000 in
theorem k_C_count_ok (l : Launch) (G : GG) (sz : Nat) (qc : Nat) (q : Nat) (qn : Nat) (qk : Nat) (qa : Nat) (qd : Nat) (r1 : Nat) (r2 : Nat) (ns : Nat) (re : Int64) (sp : Int32) (lr : Nat) (rt : Nat) (vi : Int64) (na : Nat → Int64) (k1 : Nat) (k2 : Nat) (k3 : Nat) (k4 : Nat) (la : Nat) (ss : Nat) (ii : Nat) (ks : Nat) (kb : Int64) (Nf : Nat → Int64) (x : Int32) (hns : 1 ≤ ns ∧ ns ≤ 64) (hna : ∀ j, j < ns → na j = Nf j) (hst : ∀ j, ns - 1 ≤ j → Nf j = Nf (ns - 1)) : Ki l yC_count cC_count 2 .int 4 76 G [.ref qc, .int x] [(qc, .inr (5, [.ref q, .ref qn, .ref qk, .ref qa, .ref qd, .int (zB true)])), (qa, .inr (0, [.ref r1, .int (nI ns), .long re, .int sp, .ref r2, .int (nI lr), .int (nI rt), .long vi])), (r1, aJ G 64 na), (qk, .inr (2, [.ref k1, .int (nI la), .int (nI ss), .int (nI ii), .int (nI ks), .ref k2, .ref k3, .ref k4, .long kb]))] sz (fun (r : Int32) (u : Unit) => (∃ (j : Nat), (j < 4 ∧ x = nI j) ∧ (j = 0 → sp = (-1)) ∧ nI (cn (sel4 j vi re kb (Nf (ns - 1))) 64) = r ∧ () = u) ∨ ((∀ j, j < 4 → x = nI j → (j = 0 ∧ ¬ sp = (-1))) ∧ (-1) = r ∧ () = u)) (fun (u : Unit) => [(qc, .inr (5, [.ref q, .ref qn, .ref qk, .ref qa, .ref qd, .int (zB true)])), (qa, .inr (0, [.ref r1, .int (nI ns), .long re, .int sp, .ref r2, .int (nI lr), .int (nI rt), .long vi])), (r1, aJ G 64 na), (qk, .inr (2, [.ref k1, .int (nI la), .int (nI ss), .int (nI ii), .int (nI ks), .ref k2, .ref k3, .ref k4, .long kb]))]) := by
  refine Met.ofW (cc := cC_count) (maxL := 2) (ret := (some .int)) (by decide) rfl ?_
  intro p e s m args below meth c s₁ B hml hv
  obtain ⟨hav, hsz, hP, hK, hD0, hE⟩ := hv
  have hx := B.exec
  have hb := B.bytes
  have hr := B.returns
  have htb : ∀ w ∈ TB, w.before args s = true := fun w h => atoms_spec (ws := Cond.code yC_count cC_count 2 (some .int) :: TB) B.pre w (List.mem_cons_of_mem _ h)
  have hown : s.vm.findClass "CircuitProver" = some m.cls := findClass_of_methodNamed B.named
  have hlocks := B.notSynchronized
  subst hsz
  have hD := hD0.self (sz := s.heap.size)
  clear hD0
  generalize hRm : (headSpec (Cond.code yC_count cC_count 2 (some .int) :: TB) { frames := 4, cells := 0, slots := 0, locals := 76 }).room = R
  have hRf : R.frames = 4 := by rw [← hRm]; rfl
  have hRl : R.locals = 76 := by rw [← hRm]; rfl
  have hRc : R.cells = 0 := by rw [← hRm]; rfl
  have hRs : R.slots = 0 := by rw [← hRm]; rfl
  clear hRm
  generalize hAe : va_A [(qc, .inr (5, [.ref q, .ref qn, .ref qk, .ref qa, .ref qd, .int (zB true)])), (qa, .inr (0, [.ref r1, .int (nI ns), .long re, .int sp, .ref r2, .int (nI lr), .int (nI rt), .long vi])), (r1, aJ G 64 na), (qk, .inr (2, [.ref k1, .int (nI la), .int (nI ss), .int (nI ii), .int (nI ks), .ref k2, .ref k3, .ref k4, .long kb]))] s.heap.size = A at hD hE ⊢
  have hA : ∀ q : Nat, s.heap.size ≤ q → A q := fun q h => by rw [← hAe]; exact Or.inr h
  clear hAe
  have hS : va_S A s.heap s.heap [] := va_S.rf
  have hl := lv_entry ([.ref qc, .int x]) (n := 2) (Nat.le_of_ble_eq_true rfl)
  have hent := lg_entry_eq m ([.ref qc, .int x]) 2
  rw [← hav] at hent
  rw [hent]
  clear hent hav
  generalize (lg_sl ([.ref qc, .int x]) ++ List.replicate (2 - (lg_sl ([.ref qc, .int x])).length) Slot.unset).toArray = ls at hl ⊢
  have hl : lv_has ls 2 [(0, .ref qc), (1, .int x)] := hl
  generalize hQ : MQ below _ args s 0 0 _ = Q
  have hP : va_P (gD G) vC [(qc, .inr (5, [.ref q, .ref qn, .ref qk, .ref qa, .ref qd, .int (zB true)])), (qa, .inr (0, [.ref r1, .int (nI ns), .long re, .int sp, .ref r2, .int (nI lr), .int (nI rt), .long vi])), (r1, aJ G 64 na), (qk, .inr (2, [.ref k1, .int (nI la), .int (nI ss), .int (nI ii), .int (nI ks), .ref k2, .ref k3, .ref k4, .long kb]))] s.heap := hP
  obtain ⟨H, hH⟩ : ∃ H : Heap, H = s.heap := ⟨_, rfl⟩
  obtain ⟨locs, hlc⟩ : ∃ L : List Loc, L = [] := ⟨_, rfl⟩
  have hS : va_S A s.heap H locs := by rw [hH, hlc]; exact hS
  have hP : va_P (gD G) vC [(qc, .inr (5, [.ref q, .ref qn, .ref qk, .ref qa, .ref qd, .int (zB true)])), (qa, .inr (0, [.ref r1, .int (nI ns), .long re, .int sp, .ref r2, .int (nI lr), .int (nI rt), .long vi])), (r1, aJ G 64 na), (qk, .inr (2, [.ref k1, .int (nI la), .int (nI ss), .int (nI ii), .int (nI ks), .ref k2, .ref k3, .ref k4, .long kb]))] H := by rw [hH]; exact hP
  have hgo : W p l e R s m args below meth c H locs 0 0 Q (F0 m 0 ls []) := by
    clear hH hlc
    refine lv_aload_n hx hb dC_count_0 rfl (lv_at hl 0 rfl) ?_
    refine k_v (ws2 := fun u => [(qc, .inr (5, [.ref q, .ref qn, .ref qk, .ref qa, .ref qd, .int (zB true)])), (qa, .inr (0, [.ref r1, .int (nI ns), .long re, .int sp, .ref r2, .int (nI lr), .int (nI rt), .long vi])), (r1, aJ G 64 na), (qk, .inr (2, [.ref k1, .int (nI la), .int (nI ss), .int (nI ii), .int (nI ks), .ref k2, .ref k3, .ref k4, .long kb]))]) (wr := [(qa, .inr (0, [.ref r1, .int (nI ns), .long re, .int sp, .ref r2, .int (nI lr), .int (nI rt), .long vi])), (r1, aJ G 64 na), (qk, .inr (2, [.ref k1, .int (nI la), .int (nI ss), .int (nI ii), .int (nI ks), .ref k2, .ref k3, .ref k4, .long kb]))]) (k_runV (n := 0) (As := []) (rest := []) hx hb hml hown htb hP hD hK hS hA hE (k_C_requireCircuit_ok l G H.size qc q qn qk qa qd ) b507 b509 s23 b1 b510 (by decide +kernel) rfl rfl ⟨by rw [hRf]; exact Nat.le_of_ble_eq_true rfl, by rw [hRl]; exact Nat.le_of_ble_eq_true rfl⟩ [0] rfl (by decide) 0 rfl rfl rfl rfl hl.1 rfl (Nat.le_of_ble_eq_true rfl) dC_count_1 ⟨Nat.zero_le _, Nat.zero_le _⟩) hP hD hS hA [0] [1, 2, 3] [3, 0, 1, 2] rfl rfl (by decide) (by decide) (fun u => rfl) (by decide) (fun u H locs hw hP hD hS => ?_)
    obtain rfl := hw
    have hP : va_P (gD G) vC [(qc, .inr (5, [.ref q, .ref qn, .ref qk, .ref qa, .ref qd, .int (zB true)])), (qa, .inr (0, [.ref r1, .int (nI ns), .long re, .int sp, .ref r2, .int (nI lr), .int (nI rt), .long vi])), (r1, aJ G 64 na), (qk, .inr (2, [.ref k1, .int (nI la), .int (nI ss), .int (nI ii), .int (nI ks), .ref k2, .ref k3, .ref k4, .long kb]))] H := hP
    have hD : va_D A [(qc, .inr (5, [.ref q, .ref qn, .ref qk, .ref qa, .ref qd, .int (zB true)])), (qa, .inr (0, [.ref r1, .int (nI ns), .long re, .int sp, .ref r2, .int (nI lr), .int (nI rt), .long vi])), (r1, aJ G 64 na), (qk, .inr (2, [.ref k1, .int (nI la), .int (nI ss), .int (nI ii), .int (nI ks), .ref k2, .ref k3, .ref k4, .long kb]))] := hD
    refine lv_aload_n hx hb dC_count_4 rfl (lv_at hl 0 rfl) ?_
    refine lv_iload_n hx hb dC_count_5 rfl (lv_at hl 1 rfl) ?_
    refine k_i (ws2 := fun u => [(qc, .inr (5, [.ref q, .ref qn, .ref qk, .ref qa, .ref qd, .int (zB true)])), (qa, .inr (0, [.ref r1, .int (nI ns), .long re, .int sp, .ref r2, .int (nI lr), .int (nI rt), .long vi])), (r1, aJ G 64 na), (qk, .inr (2, [.ref k1, .int (nI la), .int (nI ss), .int (nI ii), .int (nI ks), .ref k2, .ref k3, .ref k4, .long kb]))]) (wr := [(r1, aJ G 64 na), (qk, .inr (2, [.ref k1, .int (nI la), .int (nI ss), .int (nI ii), .int (nI ks), .ref k2, .ref k3, .ref k4, .long kb]))]) (k_runV (n := 1) (As := [.int x]) (rest := []) hx hb hml hown htb hP hD hK hS hA hE (k_C_isSet l G H.size qc q qn qk qa qd r1 r2 ns re sp lr rt vi x ) b623 b625 s25 b1 b626 (by decide +kernel) rfl rfl ⟨by rw [hRf]; exact Nat.le_of_ble_eq_true rfl, by rw [hRl]; exact Nat.le_of_ble_eq_true rfl⟩ [0, 1] rfl (by decide) 0 rfl rfl rfl rfl hl.1 rfl (Nat.le_of_ble_eq_true rfl) dC_count_6 ⟨Nat.zero_le _, Nat.zero_le _⟩) hP hD hS hA [0, 1] [2, 3] [2, 3, 0, 1] rfl rfl (by decide) (by decide) (fun u => rfl) (by decide) (fun r u H locs hw hP hD hS => ?_)
    rcases hw with ⟨j6, hc6_e, hc6_s, rfl, rfl⟩ | ⟨hc6_e, rfl, rfl⟩
    · skip
      have hP : va_P (gD G) vC [(qc, .inr (5, [.ref q, .ref qn, .ref qk, .ref qa, .ref qd, .int (zB true)])), (qa, .inr (0, [.ref r1, .int (nI ns), .long re, .int sp, .ref r2, .int (nI lr), .int (nI rt), .long vi])), (r1, aJ G 64 na), (qk, .inr (2, [.ref k1, .int (nI la), .int (nI ss), .int (nI ii), .int (nI ks), .ref k2, .ref k3, .ref k4, .long kb]))] H := hP
      have hD : va_D A [(qc, .inr (5, [.ref q, .ref qn, .ref qk, .ref qa, .ref qd, .int (zB true)])), (qa, .inr (0, [.ref r1, .int (nI ns), .long re, .int sp, .ref r2, .int (nI lr), .int (nI rt), .long vi])), (r1, aJ G 64 na), (qk, .inr (2, [.ref k1, .int (nI la), .int (nI ss), .int (nI ii), .int (nI ks), .ref k2, .ref k3, .ref k4, .long kb]))] := hD
      obtain ⟨hj4, rfl⟩ := hc6_e
      refine lv_if_eq (tgt := 23) hx hb dC_count_9 rfl (fun h9 => (by revert h9; first | decide | exact fun z => absurd z (by decide) | exact fun z => z.elim (by decide))) (fun _ => ?_)
      refine lv_aload_n hx hb dC_count_12 rfl (lv_at hl 0 rfl) ?_
      refine lv_iload_n hx hb dC_count_13 rfl (lv_at hl 1 rfl) ?_
      refine k_l (ws2 := fun u => [(qc, .inr (5, [.ref q, .ref qn, .ref qk, .ref qa, .ref qd, .int (zB true)])), (qa, .inr (0, [.ref r1, .int (nI ns), .long re, .int sp, .ref r2, .int (nI lr), .int (nI rt), .long vi])), (r1, aJ G 64 na), (qk, .inr (2, [.ref k1, .int (nI la), .int (nI ss), .int (nI ii), .int (nI ks), .ref k2, .ref k3, .ref k4, .long kb]))]) (wr := []) (k_runV (n := 1) (As := [.int (nI j6)]) (rest := []) hx hb hml hown htb hP hD hK hS hA hE (k_C_chosenSet l G H.size qc q qn qk qa qd r1 r2 ns re sp lr rt vi na k1 k2 k3 k4 la ss ii ks kb Nf j6 (show 1 ≤ ns ∧ ns ≤ 64 from by omega) (show ∀ j, j < ns → na j = Nf j from hna) (show ∀ j, ns - 1 ≤ j → Nf j = Nf (ns - 1) from hst) (show j6 < 4 from by omega)) b627 b629 s26 b1 b630 (by decide +kernel) rfl rfl ⟨by rw [hRf]; exact Nat.le_of_ble_eq_true rfl, by rw [hRl]; exact Nat.le_of_ble_eq_true rfl⟩ [0, 1, 2, 3] rfl (by decide) 0 rfl rfl rfl rfl hl.1 rfl (Nat.le_of_ble_eq_true rfl) dC_count_14 ⟨Nat.zero_le _, Nat.zero_le _⟩) hP hD hS hA [0, 1, 2, 3] [] [0, 1, 2, 3] rfl rfl (by decide) (by decide) (fun u => rfl) (by decide) (fun r u H locs hw hP hD hS => ?_)
      obtain ⟨rfl, rfl⟩ := hw
      have hP : va_P (gD G) vC [(qc, .inr (5, [.ref q, .ref qn, .ref qk, .ref qa, .ref qd, .int (zB true)])), (qa, .inr (0, [.ref r1, .int (nI ns), .long re, .int sp, .ref r2, .int (nI lr), .int (nI rt), .long vi])), (r1, aJ G 64 na), (qk, .inr (2, [.ref k1, .int (nI la), .int (nI ss), .int (nI ii), .int (nI ks), .ref k2, .ref k3, .ref k4, .long kb]))] H := hP
      have hD : va_D A [(qc, .inr (5, [.ref q, .ref qn, .ref qk, .ref qa, .ref qd, .int (zB true)])), (qa, .inr (0, [.ref r1, .int (nI ns), .long re, .int sp, .ref r2, .int (nI lr), .int (nI rt), .long vi])), (r1, aJ G 64 na), (qk, .inr (2, [.ref k1, .int (nI la), .int (nI ss), .int (nI ii), .int (nI ks), .ref k2, .ref k3, .ref k4, .long kb]))] := hD
      refine k_i (ws2 := fun u => [(qc, .inr (5, [.ref q, .ref qn, .ref qk, .ref qa, .ref qd, .int (zB true)])), (qa, .inr (0, [.ref r1, .int (nI ns), .long re, .int sp, .ref r2, .int (nI lr), .int (nI rt), .long vi])), (r1, aJ G 64 na), (qk, .inr (2, [.ref k1, .int (nI la), .int (nI ss), .int (nI ii), .int (nI ks), .ref k2, .ref k3, .ref k4, .long kb]))]) (wr := [(qc, .inr (5, [.ref q, .ref qn, .ref qk, .ref qa, .ref qd, .int (zB true)])), (qa, .inr (0, [.ref r1, .int (nI ns), .long re, .int sp, .ref r2, .int (nI lr), .int (nI rt), .long vi])), (r1, aJ G 64 na), (qk, .inr (2, [.ref k1, .int (nI la), .int (nI ss), .int (nI ii), .int (nI ks), .ref k2, .ref k3, .ref k4, .long kb]))]) (k_runS (n := 1) (As := [.long (sel4 j6 vi re kb (Nf (ns - 1)))]) (rest := []) (wc := []) hx hb hml hown htb hP hD hK hS hA hE (k_J_bitCount l G H.size (sel4 j6 vi re kb (Nf (ns - 1))) ) b635 b636 b17 b637 (by decide +kernel) rfl rfl ⟨by rw [hRf]; exact Nat.le_of_ble_eq_true rfl, by rw [hRl]; exact Nat.le_of_ble_eq_true rfl⟩ [] rfl (by decide) rfl hl.1 rfl (Nat.le_of_ble_eq_true rfl) dC_count_17 ⟨Nat.zero_le _, Nat.zero_le _⟩) hP hD hS hA [] [0, 1, 2, 3] [0, 1, 2, 3] rfl rfl (by decide) (by decide) (fun u => rfl) (by decide) (fun r u H locs hw hP hD hS => ?_)
      obtain ⟨rfl, rfl⟩ := hw
      have hP : va_P (gD G) vC [(qc, .inr (5, [.ref q, .ref qn, .ref qk, .ref qa, .ref qd, .int (zB true)])), (qa, .inr (0, [.ref r1, .int (nI ns), .long re, .int sp, .ref r2, .int (nI lr), .int (nI rt), .long vi])), (r1, aJ G 64 na), (qk, .inr (2, [.ref k1, .int (nI la), .int (nI ss), .int (nI ii), .int (nI ks), .ref k2, .ref k3, .ref k4, .long kb]))] H := hP
      have hD : va_D A [(qc, .inr (5, [.ref q, .ref qn, .ref qk, .ref qa, .ref qd, .int (zB true)])), (qa, .inr (0, [.ref r1, .int (nI ns), .long re, .int sp, .ref r2, .int (nI lr), .int (nI rt), .long vi])), (r1, aJ G 64 na), (qk, .inr (2, [.ref k1, .int (nI la), .int (nI ss), .int (nI ii), .int (nI ks), .ref k2, .ref k3, .ref k4, .long kb]))] := hD
      refine lv_goto (tgt := 24) hx hb dC_count_20 rfl ?_
      -- end 0
      rw [← hQ]
      exact k_iret hx hb hr hlocks rfl (u := ()) (Or.inl ⟨j6, ⟨hj4, rfl⟩, hc6_s, rfl, rfl⟩) hP hD hK hS dC_count_24
    · skip
      have hP : va_P (gD G) vC [(qc, .inr (5, [.ref q, .ref qn, .ref qk, .ref qa, .ref qd, .int (zB true)])), (qa, .inr (0, [.ref r1, .int (nI ns), .long re, .int sp, .ref r2, .int (nI lr), .int (nI rt), .long vi])), (r1, aJ G 64 na), (qk, .inr (2, [.ref k1, .int (nI la), .int (nI ss), .int (nI ii), .int (nI ks), .ref k2, .ref k3, .ref k4, .long kb]))] H := hP
      have hD : va_D A [(qc, .inr (5, [.ref q, .ref qn, .ref qk, .ref qa, .ref qd, .int (zB true)])), (qa, .inr (0, [.ref r1, .int (nI ns), .long re, .int sp, .ref r2, .int (nI lr), .int (nI rt), .long vi])), (r1, aJ G 64 na), (qk, .inr (2, [.ref k1, .int (nI la), .int (nI ss), .int (nI ii), .int (nI ks), .ref k2, .ref k3, .ref k4, .long kb]))] := hD
      refine lv_if_eq (tgt := 23) hx hb dC_count_9 rfl (fun _ => ?_) (fun h9 => (by revert h9; first | decide | exact fun z => absurd z (by decide) | exact fun z => z.elim (by decide)))
      refine lv_iconst (v := (-1)) hx hb dC_count_23 (by decide) ?_
      -- end 1
      rw [← hQ]
      exact k_iret hx hb hr hlocks rfl (u := ()) (Or.inr ⟨hc6_e, rfl, rfl⟩) hP hD hK hS dC_count_24
  rw [hH, hlc] at hgo
  exact hgo
set_option maxRecDepth 100000 in
set_option maxHeartbeats 4000000 in
theorem k_C_size_ok (l : Launch) (G : GG) (sz : Nat) (qc : Nat) (q : Nat) (qn : Nat) (qk : Nat) (qa : Nat) (qd : Nat) (r1 : Nat) (r2 : Nat) (ns : Nat) (re : Int64) (sp : Int32) (lr : Nat) (rt : Nat) (vi : Int64) (na : Nat → Int64) (k1 : Nat) (k2 : Nat) (k3 : Nat) (k4 : Nat) (la : Nat) (ss : Nat) (ii : Nat) (ks : Nat) (kb : Int64) (d1 : Nat) (se : Nat → Int64) (Nf : Nat → Int64) (x : Int32) (hns : 1 ≤ ns ∧ ns ≤ 64) (hna : ∀ j, j < ns → na j = Nf j) (hst : ∀ j, ns - 1 ≤ j → Nf j = Nf (ns - 1)) (hla : la ≤ 6) : Ki l yC_size cC_size 2 .int 4 80 G [.ref qc, .int x] [(qc, .inr (5, [.ref q, .ref qn, .ref qk, .ref qa, .ref qd, .int (zB true)])), (qa, .inr (0, [.ref r1, .int (nI ns), .long re, .int sp, .ref r2, .int (nI lr), .int (nI rt), .long vi])), (r1, aJ G 64 na), (qk, .inr (2, [.ref k1, .int (nI la), .int (nI ss), .int (nI ii), .int (nI ks), .ref k2, .ref k3, .ref k4, .long kb])), (qd, .inr (1, [.ref d1])), (d1, aJ G 32 se)] sz (fun (r : Int32) (u : (Nat → Int64)) => (∃ (j : Nat), ∃ (s9 : Nat → Int64), (j < 4 ∧ x = nI j) ∧ (j = 0 → sp = (-1)) ∧ nI (it (fun jx ax => ax + cntP (frB (sel4 j vi re kb (Nf (ns - 1))) (lz (2 ^ la) jx) jx) (2 ^ jx)) la 0) = r ∧ s9 = u) ∨ ((∀ j, j < 4 → x = nI j → (j = 0 ∧ ¬ sp = (-1))) ∧ (-1) = r ∧ se = u)) (fun (u : (Nat → Int64)) => [(qc, .inr (5, [.ref q, .ref qn, .ref qk, .ref qa, .ref qd, .int (zB true)])), (qa, .inr (0, [.ref r1, .int (nI ns), .long re, .int sp, .ref r2, .int (nI lr), .int (nI rt), .long vi])), (r1, aJ G 64 na), (qk, .inr (2, [.ref k1, .int (nI la), .int (nI ss), .int (nI ii), .int (nI ks), .ref k2, .ref k3, .ref k4, .long kb])), (qd, .inr (1, [.ref d1])), (d1, aJ G 32 u)]) := by
  refine Met.ofW (cc := cC_size) (maxL := 2) (ret := (some .int)) (by decide) rfl ?_
  intro p e s m args below meth c s₁ B hml hv
  obtain ⟨hav, hsz, hP, hK, hD0, hE⟩ := hv
  have hx := B.exec
  have hb := B.bytes
  have hr := B.returns
  have htb : ∀ w ∈ TB, w.before args s = true := fun w h => atoms_spec (ws := Cond.code yC_size cC_size 2 (some .int) :: TB) B.pre w (List.mem_cons_of_mem _ h)
  have hown : s.vm.findClass "CircuitProver" = some m.cls := findClass_of_methodNamed B.named
  have hlocks := B.notSynchronized
  subst hsz
  have hD := hD0.self (sz := s.heap.size)
  clear hD0
  generalize hRm : (headSpec (Cond.code yC_size cC_size 2 (some .int) :: TB) { frames := 4, cells := 0, slots := 0, locals := 80 }).room = R
  have hRf : R.frames = 4 := by rw [← hRm]; rfl
  have hRl : R.locals = 80 := by rw [← hRm]; rfl
  have hRc : R.cells = 0 := by rw [← hRm]; rfl
  have hRs : R.slots = 0 := by rw [← hRm]; rfl
  clear hRm
  generalize hAe : va_A [(qc, .inr (5, [.ref q, .ref qn, .ref qk, .ref qa, .ref qd, .int (zB true)])), (qa, .inr (0, [.ref r1, .int (nI ns), .long re, .int sp, .ref r2, .int (nI lr), .int (nI rt), .long vi])), (r1, aJ G 64 na), (qk, .inr (2, [.ref k1, .int (nI la), .int (nI ss), .int (nI ii), .int (nI ks), .ref k2, .ref k3, .ref k4, .long kb])), (qd, .inr (1, [.ref d1])), (d1, aJ G 32 se)] s.heap.size = A at hD hE ⊢
  have hA : ∀ q : Nat, s.heap.size ≤ q → A q := fun q h => by rw [← hAe]; exact Or.inr h
  clear hAe
  have hS : va_S A s.heap s.heap [] := va_S.rf
  have hl := lv_entry ([.ref qc, .int x]) (n := 2) (Nat.le_of_ble_eq_true rfl)
  have hent := lg_entry_eq m ([.ref qc, .int x]) 2
  rw [← hav] at hent
  rw [hent]
  clear hent hav
  generalize (lg_sl ([.ref qc, .int x]) ++ List.replicate (2 - (lg_sl ([.ref qc, .int x])).length) Slot.unset).toArray = ls at hl ⊢
  have hl : lv_has ls 2 [(0, .ref qc), (1, .int x)] := hl
  generalize hQ : MQ below _ args s 0 0 _ = Q
  have hP : va_P (gD G) vC [(qc, .inr (5, [.ref q, .ref qn, .ref qk, .ref qa, .ref qd, .int (zB true)])), (qa, .inr (0, [.ref r1, .int (nI ns), .long re, .int sp, .ref r2, .int (nI lr), .int (nI rt), .long vi])), (r1, aJ G 64 na), (qk, .inr (2, [.ref k1, .int (nI la), .int (nI ss), .int (nI ii), .int (nI ks), .ref k2, .ref k3, .ref k4, .long kb])), (qd, .inr (1, [.ref d1])), (d1, aJ G 32 se)] s.heap := hP
  obtain ⟨H, hH⟩ : ∃ H : Heap, H = s.heap := ⟨_, rfl⟩
  obtain ⟨locs, hlc⟩ : ∃ L : List Loc, L = [] := ⟨_, rfl⟩
  have hS : va_S A s.heap H locs := by rw [hH, hlc]; exact hS
  have hP : va_P (gD G) vC [(qc, .inr (5, [.ref q, .ref qn, .ref qk, .ref qa, .ref qd, .int (zB true)])), (qa, .inr (0, [.ref r1, .int (nI ns), .long re, .int sp, .ref r2, .int (nI lr), .int (nI rt), .long vi])), (r1, aJ G 64 na), (qk, .inr (2, [.ref k1, .int (nI la), .int (nI ss), .int (nI ii), .int (nI ks), .ref k2, .ref k3, .ref k4, .long kb])), (qd, .inr (1, [.ref d1])), (d1, aJ G 32 se)] H := by rw [hH]; exact hP
  have hgo : W p l e R s m args below meth c H locs 0 0 Q (F0 m 0 ls []) := by
    clear hH hlc
    refine lv_aload_n hx hb dC_size_0 rfl (lv_at hl 0 rfl) ?_
    refine k_v (ws2 := fun u => [(qc, .inr (5, [.ref q, .ref qn, .ref qk, .ref qa, .ref qd, .int (zB true)])), (qa, .inr (0, [.ref r1, .int (nI ns), .long re, .int sp, .ref r2, .int (nI lr), .int (nI rt), .long vi])), (r1, aJ G 64 na), (qk, .inr (2, [.ref k1, .int (nI la), .int (nI ss), .int (nI ii), .int (nI ks), .ref k2, .ref k3, .ref k4, .long kb])), (qd, .inr (1, [.ref d1])), (d1, aJ G 32 se)]) (wr := [(qa, .inr (0, [.ref r1, .int (nI ns), .long re, .int sp, .ref r2, .int (nI lr), .int (nI rt), .long vi])), (r1, aJ G 64 na), (qk, .inr (2, [.ref k1, .int (nI la), .int (nI ss), .int (nI ii), .int (nI ks), .ref k2, .ref k3, .ref k4, .long kb])), (qd, .inr (1, [.ref d1])), (d1, aJ G 32 se)]) (k_runV (n := 0) (As := []) (rest := []) hx hb hml hown htb hP hD hK hS hA hE (k_C_requireCircuit_ok l G H.size qc q qn qk qa qd ) b507 b509 s23 b1 b510 (by decide +kernel) rfl rfl ⟨by rw [hRf]; exact Nat.le_of_ble_eq_true rfl, by rw [hRl]; exact Nat.le_of_ble_eq_true rfl⟩ [0] rfl (by decide) 0 rfl rfl rfl rfl hl.1 rfl (Nat.le_of_ble_eq_true rfl) dC_size_1 ⟨Nat.zero_le _, Nat.zero_le _⟩) hP hD hS hA [0] [1, 2, 3, 4, 5] [5, 0, 1, 2, 3, 4] rfl rfl (by decide) (by decide) (fun u => rfl) (by decide) (fun u H locs hw hP hD hS => ?_)
    obtain rfl := hw
    have hP : va_P (gD G) vC [(qc, .inr (5, [.ref q, .ref qn, .ref qk, .ref qa, .ref qd, .int (zB true)])), (qa, .inr (0, [.ref r1, .int (nI ns), .long re, .int sp, .ref r2, .int (nI lr), .int (nI rt), .long vi])), (r1, aJ G 64 na), (qk, .inr (2, [.ref k1, .int (nI la), .int (nI ss), .int (nI ii), .int (nI ks), .ref k2, .ref k3, .ref k4, .long kb])), (qd, .inr (1, [.ref d1])), (d1, aJ G 32 se)] H := hP
    have hD : va_D A [(qc, .inr (5, [.ref q, .ref qn, .ref qk, .ref qa, .ref qd, .int (zB true)])), (qa, .inr (0, [.ref r1, .int (nI ns), .long re, .int sp, .ref r2, .int (nI lr), .int (nI rt), .long vi])), (r1, aJ G 64 na), (qk, .inr (2, [.ref k1, .int (nI la), .int (nI ss), .int (nI ii), .int (nI ks), .ref k2, .ref k3, .ref k4, .long kb])), (qd, .inr (1, [.ref d1])), (d1, aJ G 32 se)] := hD
    refine lv_aload_n hx hb dC_size_4 rfl (lv_at hl 0 rfl) ?_
    refine lv_iload_n hx hb dC_size_5 rfl (lv_at hl 1 rfl) ?_
    refine k_i (ws2 := fun u => [(qc, .inr (5, [.ref q, .ref qn, .ref qk, .ref qa, .ref qd, .int (zB true)])), (qa, .inr (0, [.ref r1, .int (nI ns), .long re, .int sp, .ref r2, .int (nI lr), .int (nI rt), .long vi])), (r1, aJ G 64 na), (qk, .inr (2, [.ref k1, .int (nI la), .int (nI ss), .int (nI ii), .int (nI ks), .ref k2, .ref k3, .ref k4, .long kb])), (qd, .inr (1, [.ref d1])), (d1, aJ G 32 se)]) (wr := [(r1, aJ G 64 na), (qk, .inr (2, [.ref k1, .int (nI la), .int (nI ss), .int (nI ii), .int (nI ks), .ref k2, .ref k3, .ref k4, .long kb])), (qd, .inr (1, [.ref d1])), (d1, aJ G 32 se)]) (k_runV (n := 1) (As := [.int x]) (rest := []) hx hb hml hown htb hP hD hK hS hA hE (k_C_isSet l G H.size qc q qn qk qa qd r1 r2 ns re sp lr rt vi x ) b623 b625 s25 b1 b626 (by decide +kernel) rfl rfl ⟨by rw [hRf]; exact Nat.le_of_ble_eq_true rfl, by rw [hRl]; exact Nat.le_of_ble_eq_true rfl⟩ [0, 1] rfl (by decide) 0 rfl rfl rfl rfl hl.1 rfl (Nat.le_of_ble_eq_true rfl) dC_size_6 ⟨Nat.zero_le _, Nat.zero_le _⟩) hP hD hS hA [0, 1] [2, 3, 4, 5] [4, 5, 0, 1, 2, 3] rfl rfl (by decide) (by decide) (fun u => rfl) (by decide) (fun r u H locs hw hP hD hS => ?_)
    rcases hw with ⟨j6, hc6_e, hc6_s, rfl, rfl⟩ | ⟨hc6_e, rfl, rfl⟩
    · skip
      have hP : va_P (gD G) vC [(qc, .inr (5, [.ref q, .ref qn, .ref qk, .ref qa, .ref qd, .int (zB true)])), (qa, .inr (0, [.ref r1, .int (nI ns), .long re, .int sp, .ref r2, .int (nI lr), .int (nI rt), .long vi])), (r1, aJ G 64 na), (qk, .inr (2, [.ref k1, .int (nI la), .int (nI ss), .int (nI ii), .int (nI ks), .ref k2, .ref k3, .ref k4, .long kb])), (qd, .inr (1, [.ref d1])), (d1, aJ G 32 se)] H := hP
      have hD : va_D A [(qc, .inr (5, [.ref q, .ref qn, .ref qk, .ref qa, .ref qd, .int (zB true)])), (qa, .inr (0, [.ref r1, .int (nI ns), .long re, .int sp, .ref r2, .int (nI lr), .int (nI rt), .long vi])), (r1, aJ G 64 na), (qk, .inr (2, [.ref k1, .int (nI la), .int (nI ss), .int (nI ii), .int (nI ks), .ref k2, .ref k3, .ref k4, .long kb])), (qd, .inr (1, [.ref d1])), (d1, aJ G 32 se)] := hD
      obtain ⟨hj4, rfl⟩ := hc6_e
      refine lv_if_eq (tgt := 34) hx hb dC_size_9 rfl (fun h9 => (by revert h9; first | decide | exact fun z => absurd z (by decide) | exact fun z => z.elim (by decide))) (fun _ => ?_)
      refine lv_aload_n hx hb dC_size_12 rfl (lv_at hl 0 rfl) ?_
      refine va_get (D := gD G) (ci := 5) (v := .ref qd) (C := "CircuitProver") (T := TC) (N := 6) hx hb htb inC hown hK hP 0 rfl rfl 4 (by decide) (htb _ b191) (fun _ h9 => h9) rfl dC_size_13 ?_
      refine lv_aload_n hx hb dC_size_16 rfl (lv_at hl 0 rfl) ?_
      refine lv_iload_n hx hb dC_size_17 rfl (lv_at hl 1 rfl) ?_
      refine k_l (ws2 := fun u => [(qc, .inr (5, [.ref q, .ref qn, .ref qk, .ref qa, .ref qd, .int (zB true)])), (qa, .inr (0, [.ref r1, .int (nI ns), .long re, .int sp, .ref r2, .int (nI lr), .int (nI rt), .long vi])), (r1, aJ G 64 na), (qk, .inr (2, [.ref k1, .int (nI la), .int (nI ss), .int (nI ii), .int (nI ks), .ref k2, .ref k3, .ref k4, .long kb])), (qd, .inr (1, [.ref d1])), (d1, aJ G 32 se)]) (wr := [(qd, .inr (1, [.ref d1])), (d1, aJ G 32 se)]) (k_runV (n := 1) (As := [.int (nI j6)]) (rest := [.ref qd]) hx hb hml hown htb hP hD hK hS hA hE (k_C_chosenSet l G H.size qc q qn qk qa qd r1 r2 ns re sp lr rt vi na k1 k2 k3 k4 la ss ii ks kb Nf j6 (show 1 ≤ ns ∧ ns ≤ 64 from by omega) (show ∀ j, j < ns → na j = Nf j from hna) (show ∀ j, ns - 1 ≤ j → Nf j = Nf (ns - 1) from hst) (show j6 < 4 from by omega)) b627 b629 s26 b1 b630 (by decide +kernel) rfl rfl ⟨by rw [hRf]; exact Nat.le_of_ble_eq_true rfl, by rw [hRl]; exact Nat.le_of_ble_eq_true rfl⟩ [0, 1, 2, 3] rfl (by decide) 0 rfl rfl rfl rfl hl.1 rfl (Nat.le_of_ble_eq_true rfl) dC_size_18 ⟨Nat.zero_le _, Nat.zero_le _⟩) hP hD hS hA [0, 1, 2, 3] [4, 5] [2, 3, 4, 5, 0, 1] rfl rfl (by decide) (by decide) (fun u => rfl) (by decide) (fun r u H locs hw hP hD hS => ?_)
      obtain ⟨rfl, rfl⟩ := hw
      have hP : va_P (gD G) vC [(qc, .inr (5, [.ref q, .ref qn, .ref qk, .ref qa, .ref qd, .int (zB true)])), (qa, .inr (0, [.ref r1, .int (nI ns), .long re, .int sp, .ref r2, .int (nI lr), .int (nI rt), .long vi])), (r1, aJ G 64 na), (qk, .inr (2, [.ref k1, .int (nI la), .int (nI ss), .int (nI ii), .int (nI ks), .ref k2, .ref k3, .ref k4, .long kb])), (qd, .inr (1, [.ref d1])), (d1, aJ G 32 se)] H := hP
      have hD : va_D A [(qc, .inr (5, [.ref q, .ref qn, .ref qk, .ref qa, .ref qd, .int (zB true)])), (qa, .inr (0, [.ref r1, .int (nI ns), .long re, .int sp, .ref r2, .int (nI lr), .int (nI rt), .long vi])), (r1, aJ G 64 na), (qk, .inr (2, [.ref k1, .int (nI la), .int (nI ss), .int (nI ii), .int (nI ks), .ref k2, .ref k3, .ref k4, .long kb])), (qd, .inr (1, [.ref d1])), (d1, aJ G 32 se)] := hD
      refine lv_aload_n hx hb dC_size_21 rfl (lv_at hl 0 rfl) ?_
      refine va_get (D := gD G) (ci := 5) (v := .ref qk) (C := "CircuitProver") (T := TC) (N := 6) hx hb htb inC hown hK hP 0 rfl rfl 2 (by decide) (htb _ b189) (fun _ h9 => h9) rfl dC_size_22 ?_
      refine va_getN (D := gD G) (ci := 2) (v := .int (nI la)) (C := "CircuitProver$Machine") (T := TK) (N := 9) hx hb htb inK hown hK hP 3 rfl rfl 1 (by decide) (va_Nw.use rfl (hE.nw n107)) (fun _ h9 => h9) rfl dC_size_25 ?_
      refine k_i (ws2 := fun u => [(qc, .inr (5, [.ref q, .ref qn, .ref qk, .ref qa, .ref qd, .int (zB true)])), (qa, .inr (0, [.ref r1, .int (nI ns), .long re, .int sp, .ref r2, .int (nI lr), .int (nI rt), .long vi])), (r1, aJ G 64 na), (qk, .inr (2, [.ref k1, .int (nI la), .int (nI ss), .int (nI ii), .int (nI ks), .ref k2, .ref k3, .ref k4, .long kb])), (qd, .inr (1, [.ref d1])), (d1, aJ G 32 (u))]) (wr := [(qc, .inr (5, [.ref q, .ref qn, .ref qk, .ref qa, .ref qd, .int (zB true)])), (qa, .inr (0, [.ref r1, .int (nI ns), .long re, .int sp, .ref r2, .int (nI lr), .int (nI rt), .long vi])), (r1, aJ G 64 na), (qk, .inr (2, [.ref k1, .int (nI la), .int (nI ss), .int (nI ii), .int (nI ks), .ref k2, .ref k3, .ref k4, .long kb]))]) (k_runV (n := 2) (As := [.long (sel4 j6 vi re kb (Nf (ns - 1))), .int (nI la)]) (rest := []) hx hb hml hown htb hP hD hK hS hA hE (k_D_nodes l G H.size qd d1 se (sel4 j6 vi re kb (Nf (ns - 1))) la (show la ≤ 6 from by omega)) b648 b649 b650 b6 b651 (by decide +kernel) rfl rfl ⟨by rw [hRf]; exact Nat.le_of_ble_eq_true rfl, by rw [hRl]; exact Nat.le_of_ble_eq_true rfl⟩ [4, 5] rfl (by decide) 4 rfl rfl rfl rfl hl.1 rfl (Nat.le_of_ble_eq_true rfl) dC_size_28 ⟨Nat.zero_le _, Nat.zero_le _⟩) hP hD hS hA [4, 5] [0, 1, 2, 3] [0, 1, 2, 3, 4, 5] rfl rfl (by decide) (by decide) (fun u => rfl) (by decide) (fun r u H locs hw hP hD hS => ?_)
      obtain ⟨s928, rfl, rfl⟩ := hw
      have hP : va_P (gD G) vC [(qc, .inr (5, [.ref q, .ref qn, .ref qk, .ref qa, .ref qd, .int (zB true)])), (qa, .inr (0, [.ref r1, .int (nI ns), .long re, .int sp, .ref r2, .int (nI lr), .int (nI rt), .long vi])), (r1, aJ G 64 na), (qk, .inr (2, [.ref k1, .int (nI la), .int (nI ss), .int (nI ii), .int (nI ks), .ref k2, .ref k3, .ref k4, .long kb])), (qd, .inr (1, [.ref d1])), (d1, aJ G 32 s928)] H := hP
      have hD : va_D A [(qc, .inr (5, [.ref q, .ref qn, .ref qk, .ref qa, .ref qd, .int (zB true)])), (qa, .inr (0, [.ref r1, .int (nI ns), .long re, .int sp, .ref r2, .int (nI lr), .int (nI rt), .long vi])), (r1, aJ G 64 na), (qk, .inr (2, [.ref k1, .int (nI la), .int (nI ss), .int (nI ii), .int (nI ks), .ref k2, .ref k3, .ref k4, .long kb])), (qd, .inr (1, [.ref d1])), (d1, aJ G 32 s928)] := hD
      refine lv_goto (tgt := 35) hx hb dC_size_31 rfl ?_
      -- end 0
      rw [← hQ]
      exact k_iret hx hb hr hlocks rfl (u := s928) (Or.inl ⟨j6, _, ⟨hj4, rfl⟩, hc6_s, rfl, rfl⟩) hP hD hK hS dC_size_35
    · skip
      have hP : va_P (gD G) vC [(qc, .inr (5, [.ref q, .ref qn, .ref qk, .ref qa, .ref qd, .int (zB true)])), (qa, .inr (0, [.ref r1, .int (nI ns), .long re, .int sp, .ref r2, .int (nI lr), .int (nI rt), .long vi])), (r1, aJ G 64 na), (qk, .inr (2, [.ref k1, .int (nI la), .int (nI ss), .int (nI ii), .int (nI ks), .ref k2, .ref k3, .ref k4, .long kb])), (qd, .inr (1, [.ref d1])), (d1, aJ G 32 se)] H := hP
      have hD : va_D A [(qc, .inr (5, [.ref q, .ref qn, .ref qk, .ref qa, .ref qd, .int (zB true)])), (qa, .inr (0, [.ref r1, .int (nI ns), .long re, .int sp, .ref r2, .int (nI lr), .int (nI rt), .long vi])), (r1, aJ G 64 na), (qk, .inr (2, [.ref k1, .int (nI la), .int (nI ss), .int (nI ii), .int (nI ks), .ref k2, .ref k3, .ref k4, .long kb])), (qd, .inr (1, [.ref d1])), (d1, aJ G 32 se)] := hD
      refine lv_if_eq (tgt := 34) hx hb dC_size_9 rfl (fun _ => ?_) (fun h9 => (by revert h9; first | decide | exact fun z => absurd z (by decide) | exact fun z => z.elim (by decide)))
      refine lv_iconst (v := (-1)) hx hb dC_size_34 (by decide) ?_
      -- end 1
      rw [← hQ]
      exact k_iret hx hb hr hlocks rfl (u := se) (Or.inr ⟨hc6_e, rfl, rfl⟩) hP hD hK hS dC_size_35
  rw [hH, hlc] at hgo
  exact hgo
set_option maxRecDepth 100000 in
set_option maxHeartbeats 4000000 in
theorem k_C_holds_ok (l : Launch) (G : GG) (sz : Nat) (qc : Nat) (q : Nat) (qn : Nat) (qk : Nat) (qa : Nat) (qd : Nat) (r1 : Nat) (r2 : Nat) (ns : Nat) (re : Int64) (sp : Int32) (lr : Nat) (rt : Nat) (vi : Int64) (k1 : Nat) (k2 : Nat) (k3 : Nat) (k4 : Nat) (la : Nat) (ss : Nat) (ii : Nat) (ks : Nat) (kb : Int64) (x : Int32) (hz : ss ≤ 64) : Ki l yC_holds cC_holds 2 .boolean 1 22 G [.ref qc, .int x] [(qc, .inr (5, [.ref q, .ref qn, .ref qk, .ref qa, .ref qd, .int (zB true)])), (qa, .inr (0, [.ref r1, .int (nI ns), .long re, .int sp, .ref r2, .int (nI lr), .int (nI rt), .long vi])), (qk, .inr (2, [.ref k1, .int (nI la), .int (nI ss), .int (nI ii), .int (nI ks), .ref k2, .ref k3, .ref k4, .long kb]))] sz (fun (r : Int32) (u : Unit) => (∃ (j : Nat), sp = (-1) ∧ (j < ss ∧ x = nI j) ∧ lb vi j = true ∧ nI 1 = r ∧ () = u) ∨ (∃ (j : Nat), sp = (-1) ∧ (j < ss ∧ x = nI j) ∧ lb vi j = false ∧ nI 0 = r ∧ () = u) ∨ (¬ sp = (-1) ∧ nI 0 = r ∧ () = u) ∨ (sp = (-1) ∧ (∀ j, j < ss → ¬ x = nI j) ∧ nI 0 = r ∧ () = u)) (fun (u : Unit) => [(qc, .inr (5, [.ref q, .ref qn, .ref qk, .ref qa, .ref qd, .int (zB true)])), (qa, .inr (0, [.ref r1, .int (nI ns), .long re, .int sp, .ref r2, .int (nI lr), .int (nI rt), .long vi])), (qk, .inr (2, [.ref k1, .int (nI la), .int (nI ss), .int (nI ii), .int (nI ks), .ref k2, .ref k3, .ref k4, .long kb]))]) := by
  refine Met.ofW (cc := cC_holds) (maxL := 2) (ret := (some .boolean)) (by decide) rfl ?_
  intro p e s m args below meth c s₁ B hml hv
  obtain ⟨hav, hsz, hP, hK, hD0, hE⟩ := hv
  have hx := B.exec
  have hb := B.bytes
  have hr := B.returns
  have htb : ∀ w ∈ TB, w.before args s = true := fun w h => atoms_spec (ws := Cond.code yC_holds cC_holds 2 (some .boolean) :: TB) B.pre w (List.mem_cons_of_mem _ h)
  have hown : s.vm.findClass "CircuitProver" = some m.cls := findClass_of_methodNamed B.named
  have hlocks := B.notSynchronized
  subst hsz
  have hD := hD0.self (sz := s.heap.size)
  clear hD0
  generalize hRm : (headSpec (Cond.code yC_holds cC_holds 2 (some .boolean) :: TB) { frames := 1, cells := 0, slots := 0, locals := 22 }).room = R
  have hRf : R.frames = 1 := by rw [← hRm]; rfl
  have hRl : R.locals = 22 := by rw [← hRm]; rfl
  have hRc : R.cells = 0 := by rw [← hRm]; rfl
  have hRs : R.slots = 0 := by rw [← hRm]; rfl
  clear hRm
  generalize hAe : va_A [(qc, .inr (5, [.ref q, .ref qn, .ref qk, .ref qa, .ref qd, .int (zB true)])), (qa, .inr (0, [.ref r1, .int (nI ns), .long re, .int sp, .ref r2, .int (nI lr), .int (nI rt), .long vi])), (qk, .inr (2, [.ref k1, .int (nI la), .int (nI ss), .int (nI ii), .int (nI ks), .ref k2, .ref k3, .ref k4, .long kb]))] s.heap.size = A at hD hE ⊢
  have hA : ∀ q : Nat, s.heap.size ≤ q → A q := fun q h => by rw [← hAe]; exact Or.inr h
  clear hAe
  have hS : va_S A s.heap s.heap [] := va_S.rf
  have hl := lv_entry ([.ref qc, .int x]) (n := 2) (Nat.le_of_ble_eq_true rfl)
  have hent := lg_entry_eq m ([.ref qc, .int x]) 2
  rw [← hav] at hent
  rw [hent]
  clear hent hav
  generalize (lg_sl ([.ref qc, .int x]) ++ List.replicate (2 - (lg_sl ([.ref qc, .int x])).length) Slot.unset).toArray = ls at hl ⊢
  have hl : lv_has ls 2 [(0, .ref qc), (1, .int x)] := hl
  generalize hQ : MQ below _ args s 0 0 _ = Q
  have hP : va_P (gD G) vC [(qc, .inr (5, [.ref q, .ref qn, .ref qk, .ref qa, .ref qd, .int (zB true)])), (qa, .inr (0, [.ref r1, .int (nI ns), .long re, .int sp, .ref r2, .int (nI lr), .int (nI rt), .long vi])), (qk, .inr (2, [.ref k1, .int (nI la), .int (nI ss), .int (nI ii), .int (nI ks), .ref k2, .ref k3, .ref k4, .long kb]))] s.heap := hP
  obtain ⟨H, hH⟩ : ∃ H : Heap, H = s.heap := ⟨_, rfl⟩
  obtain ⟨locs, hlc⟩ : ∃ L : List Loc, L = [] := ⟨_, rfl⟩
  have hS : va_S A s.heap H locs := by rw [hH, hlc]; exact hS
  have hP : va_P (gD G) vC [(qc, .inr (5, [.ref q, .ref qn, .ref qk, .ref qa, .ref qd, .int (zB true)])), (qa, .inr (0, [.ref r1, .int (nI ns), .long re, .int sp, .ref r2, .int (nI lr), .int (nI rt), .long vi])), (qk, .inr (2, [.ref k1, .int (nI la), .int (nI ss), .int (nI ii), .int (nI ks), .ref k2, .ref k3, .ref k4, .long kb]))] H := by rw [hH]; exact hP
  have hgo : W p l e R s m args below meth c H locs 0 0 Q (F0 m 0 ls []) := by
    clear hH hlc
    refine lv_aload_n hx hb dC_holds_0 rfl (lv_at hl 0 rfl) ?_
    refine k_v (ws2 := fun u => [(qc, .inr (5, [.ref q, .ref qn, .ref qk, .ref qa, .ref qd, .int (zB true)])), (qa, .inr (0, [.ref r1, .int (nI ns), .long re, .int sp, .ref r2, .int (nI lr), .int (nI rt), .long vi])), (qk, .inr (2, [.ref k1, .int (nI la), .int (nI ss), .int (nI ii), .int (nI ks), .ref k2, .ref k3, .ref k4, .long kb]))]) (wr := [(qa, .inr (0, [.ref r1, .int (nI ns), .long re, .int sp, .ref r2, .int (nI lr), .int (nI rt), .long vi])), (qk, .inr (2, [.ref k1, .int (nI la), .int (nI ss), .int (nI ii), .int (nI ks), .ref k2, .ref k3, .ref k4, .long kb]))]) (k_runV (n := 0) (As := []) (rest := []) hx hb hml hown htb hP hD hK hS hA hE (k_C_requireCircuit_ok l G H.size qc q qn qk qa qd ) b507 b509 s23 b1 b510 (by decide +kernel) rfl rfl ⟨by rw [hRf]; exact Nat.le_of_ble_eq_true rfl, by rw [hRl]; exact Nat.le_of_ble_eq_true rfl⟩ [0] rfl (by decide) 0 rfl rfl rfl rfl hl.1 rfl (Nat.le_of_ble_eq_true rfl) dC_holds_1 ⟨Nat.zero_le _, Nat.zero_le _⟩) hP hD hS hA [0] [1, 2] [2, 0, 1] rfl rfl (by decide) (by decide) (fun u => rfl) (by decide) (fun u H locs hw hP hD hS => ?_)
    obtain rfl := hw
    have hP : va_P (gD G) vC [(qc, .inr (5, [.ref q, .ref qn, .ref qk, .ref qa, .ref qd, .int (zB true)])), (qa, .inr (0, [.ref r1, .int (nI ns), .long re, .int sp, .ref r2, .int (nI lr), .int (nI rt), .long vi])), (qk, .inr (2, [.ref k1, .int (nI la), .int (nI ss), .int (nI ii), .int (nI ks), .ref k2, .ref k3, .ref k4, .long kb]))] H := hP
    have hD : va_D A [(qc, .inr (5, [.ref q, .ref qn, .ref qk, .ref qa, .ref qd, .int (zB true)])), (qa, .inr (0, [.ref r1, .int (nI ns), .long re, .int sp, .ref r2, .int (nI lr), .int (nI rt), .long vi])), (qk, .inr (2, [.ref k1, .int (nI la), .int (nI ss), .int (nI ii), .int (nI ks), .ref k2, .ref k3, .ref k4, .long kb]))] := hD
    refine lv_aload_n hx hb dC_holds_4 rfl (lv_at hl 0 rfl) ?_
    refine va_get (D := gD G) (ci := 5) (v := .ref qa) (C := "CircuitProver") (T := TC) (N := 6) hx hb htb inC hown hK hP 0 rfl rfl 3 (by decide) (htb _ b190) (fun _ h9 => h9) rfl dC_holds_5 ?_
    refine k_i (ws2 := fun u => [(qc, .inr (5, [.ref q, .ref qn, .ref qk, .ref qa, .ref qd, .int (zB true)])), (qa, .inr (0, [.ref r1, .int (nI ns), .long re, .int sp, .ref r2, .int (nI lr), .int (nI rt), .long vi])), (qk, .inr (2, [.ref k1, .int (nI la), .int (nI ss), .int (nI ii), .int (nI ks), .ref k2, .ref k3, .ref k4, .long kb]))]) (wr := [(qc, .inr (5, [.ref q, .ref qn, .ref qk, .ref qa, .ref qd, .int (zB true)])), (qk, .inr (2, [.ref k1, .int (nI la), .int (nI ss), .int (nI ii), .int (nI ks), .ref k2, .ref k3, .ref k4, .long kb]))]) (k_runV (n := 0) (As := []) (rest := []) hx hb hml hown htb hP hD hK hS hA hE (k_A_isSafe l G H.size qa r1 r2 ns re sp lr rt vi ) b579 b463 b464 b5 b465 (by decide +kernel) rfl rfl ⟨by rw [hRf]; exact Nat.le_of_ble_eq_true rfl, by rw [hRl]; exact Nat.le_of_ble_eq_true rfl⟩ [1] rfl (by decide) 1 rfl rfl rfl rfl hl.1 rfl (Nat.le_of_ble_eq_true rfl) dC_holds_8 ⟨Nat.zero_le _, Nat.zero_le _⟩) hP hD hS hA [1] [0, 2] [0, 2, 1] rfl rfl (by decide) (by decide) (fun u => rfl) (by decide) (fun r u H locs hw hP hD hS => ?_)
    rcases hw with ⟨hc8_e, rfl, rfl⟩ | ⟨hc8_e, rfl, rfl⟩
    · skip
      have hP : va_P (gD G) vC [(qc, .inr (5, [.ref q, .ref qn, .ref qk, .ref qa, .ref qd, .int (zB true)])), (qa, .inr (0, [.ref r1, .int (nI ns), .long re, .int sp, .ref r2, .int (nI lr), .int (nI rt), .long vi])), (qk, .inr (2, [.ref k1, .int (nI la), .int (nI ss), .int (nI ii), .int (nI ks), .ref k2, .ref k3, .ref k4, .long kb]))] H := hP
      have hD : va_D A [(qc, .inr (5, [.ref q, .ref qn, .ref qk, .ref qa, .ref qd, .int (zB true)])), (qa, .inr (0, [.ref r1, .int (nI ns), .long re, .int sp, .ref r2, .int (nI lr), .int (nI rt), .long vi])), (qk, .inr (2, [.ref k1, .int (nI la), .int (nI ss), .int (nI ii), .int (nI ks), .ref k2, .ref k3, .ref k4, .long kb]))] := hD
      refine lv_if_eq (tgt := 43) hx hb dC_holds_11 rfl (fun h11 => (by revert h11; first | decide | exact fun z => absurd z (by decide) | exact fun z => z.elim (by decide))) (fun _ => ?_)
      refine lv_aload_n hx hb dC_holds_14 rfl (lv_at hl 0 rfl) ?_
      refine va_get (D := gD G) (ci := 5) (v := .ref qk) (C := "CircuitProver") (T := TC) (N := 6) hx hb htb inC hown hK hP 0 rfl rfl 2 (by decide) (htb _ b189) (fun _ h9 => h9) rfl dC_holds_15 ?_
      refine lv_iload_n hx hb dC_holds_18 rfl (lv_at hl 1 rfl) ?_
      refine k_i (ws2 := fun u => [(qc, .inr (5, [.ref q, .ref qn, .ref qk, .ref qa, .ref qd, .int (zB true)])), (qa, .inr (0, [.ref r1, .int (nI ns), .long re, .int sp, .ref r2, .int (nI lr), .int (nI rt), .long vi])), (qk, .inr (2, [.ref k1, .int (nI la), .int (nI ss), .int (nI ii), .int (nI ks), .ref k2, .ref k3, .ref k4, .long kb]))]) (wr := [(qc, .inr (5, [.ref q, .ref qn, .ref qk, .ref qa, .ref qd, .int (zB true)])), (qa, .inr (0, [.ref r1, .int (nI ns), .long re, .int sp, .ref r2, .int (nI lr), .int (nI rt), .long vi]))]) (k_runV (n := 1) (As := [.int x]) (rest := []) hx hb hml hown htb hP hD hK hS hA hE (k_K_isState l G H.size qk k1 k2 k3 k4 la ss ii ks kb x (show ss ≤ 64 from by omega)) b539 b540 b541 b4 b542 (by decide +kernel) rfl rfl ⟨by rw [hRf]; exact Nat.le_of_ble_eq_true rfl, by rw [hRl]; exact Nat.le_of_ble_eq_true rfl⟩ [2] rfl (by decide) 2 rfl rfl rfl rfl hl.1 rfl (Nat.le_of_ble_eq_true rfl) dC_holds_19 ⟨Nat.zero_le _, Nat.zero_le _⟩) hP hD hS hA [2] [0, 1] [0, 1, 2] rfl rfl (by decide) (by decide) (fun u => rfl) (by decide) (fun r u H locs hw hP hD hS => ?_)
      rcases hw with ⟨j19, hc19_e, rfl, rfl⟩ | ⟨hc19_e, rfl, rfl⟩
      · skip
        have hP : va_P (gD G) vC [(qc, .inr (5, [.ref q, .ref qn, .ref qk, .ref qa, .ref qd, .int (zB true)])), (qa, .inr (0, [.ref r1, .int (nI ns), .long re, .int sp, .ref r2, .int (nI lr), .int (nI rt), .long vi])), (qk, .inr (2, [.ref k1, .int (nI la), .int (nI ss), .int (nI ii), .int (nI ks), .ref k2, .ref k3, .ref k4, .long kb]))] H := hP
        have hD : va_D A [(qc, .inr (5, [.ref q, .ref qn, .ref qk, .ref qa, .ref qd, .int (zB true)])), (qa, .inr (0, [.ref r1, .int (nI ns), .long re, .int sp, .ref r2, .int (nI lr), .int (nI rt), .long vi])), (qk, .inr (2, [.ref k1, .int (nI la), .int (nI ss), .int (nI ii), .int (nI ks), .ref k2, .ref k3, .ref k4, .long kb]))] := hD
        obtain ⟨hj4, rfl⟩ := hc19_e
        refine lv_if_eq (tgt := 43) hx hb dC_holds_22 rfl (fun h22 => (by revert h22; first | decide | exact fun z => absurd z (by decide) | exact fun z => z.elim (by decide))) (fun _ => ?_)
        refine lv_aload_n hx hb dC_holds_25 rfl (lv_at hl 0 rfl) ?_
        refine va_get (D := gD G) (ci := 5) (v := .ref qa) (C := "CircuitProver") (T := TC) (N := 6) hx hb htb inC hown hK hP 0 rfl rfl 3 (by decide) (htb _ b190) (fun _ h9 => h9) rfl dC_holds_26 ?_
        refine va_getN (D := gD G) (ci := 0) (v := .long vi) (C := "CircuitProver$Answer") (T := TA) (N := 8) hx hb htb inA hown hK hP 1 rfl rfl 7 (by decide) (va_Nw.use rfl (hE.nw n159)) (fun _ h9 => h9) rfl dC_holds_29 ?_
        refine lv_iload_n hx hb dC_holds_32 rfl (lv_at hl 1 rfl) ?_
        refine k_i (ws2 := fun u => [(qc, .inr (5, [.ref q, .ref qn, .ref qk, .ref qa, .ref qd, .int (zB true)])), (qa, .inr (0, [.ref r1, .int (nI ns), .long re, .int sp, .ref r2, .int (nI lr), .int (nI rt), .long vi])), (qk, .inr (2, [.ref k1, .int (nI la), .int (nI ss), .int (nI ii), .int (nI ks), .ref k2, .ref k3, .ref k4, .long kb]))]) (wr := [(qc, .inr (5, [.ref q, .ref qn, .ref qk, .ref qa, .ref qd, .int (zB true)])), (qa, .inr (0, [.ref r1, .int (nI ns), .long re, .int sp, .ref r2, .int (nI lr), .int (nI rt), .long vi])), (qk, .inr (2, [.ref k1, .int (nI la), .int (nI ss), .int (nI ii), .int (nI ks), .ref k2, .ref k3, .ref k4, .long kb]))]) (k_runS (n := 2) (As := [.long vi, .int (nI j19)]) (rest := []) (wc := []) hx hb hml hown htb hP hD hK hS hA hE (k_C_contains l G H.size vi j19 (show j19 < 64 from by omega)) b615 b435 b1 b436 (by decide +kernel) rfl rfl ⟨by rw [hRf]; exact Nat.le_of_ble_eq_true rfl, by rw [hRl]; exact Nat.le_of_ble_eq_true rfl⟩ [] rfl (by decide) rfl hl.1 rfl (Nat.le_of_ble_eq_true rfl) dC_holds_33 ⟨Nat.zero_le _, Nat.zero_le _⟩) hP hD hS hA [] [0, 1, 2] [0, 1, 2] rfl rfl (by decide) (by decide) (fun u => rfl) (by decide) (fun r u H locs hw hP hD hS => ?_)
        rcases hw with ⟨hc33_e, rfl, rfl⟩ | ⟨hc33_e, rfl, rfl⟩
        · skip
          have hP : va_P (gD G) vC [(qc, .inr (5, [.ref q, .ref qn, .ref qk, .ref qa, .ref qd, .int (zB true)])), (qa, .inr (0, [.ref r1, .int (nI ns), .long re, .int sp, .ref r2, .int (nI lr), .int (nI rt), .long vi])), (qk, .inr (2, [.ref k1, .int (nI la), .int (nI ss), .int (nI ii), .int (nI ks), .ref k2, .ref k3, .ref k4, .long kb]))] H := hP
          have hD : va_D A [(qc, .inr (5, [.ref q, .ref qn, .ref qk, .ref qa, .ref qd, .int (zB true)])), (qa, .inr (0, [.ref r1, .int (nI ns), .long re, .int sp, .ref r2, .int (nI lr), .int (nI rt), .long vi])), (qk, .inr (2, [.ref k1, .int (nI la), .int (nI ss), .int (nI ii), .int (nI ks), .ref k2, .ref k3, .ref k4, .long kb]))] := hD
          refine lv_if_eq (tgt := 43) hx hb dC_holds_36 rfl (fun h36 => (by revert h36; first | decide | exact fun z => absurd z (by decide) | exact fun z => z.elim (by decide))) (fun _ => ?_)
          refine lv_iconst (v := nI 1) hx hb dC_holds_39 (by decide) ?_
          refine lv_goto (tgt := 44) hx hb dC_holds_40 rfl ?_
          -- end 0
          rw [← hQ]
          exact k_iret hx hb hr hlocks (by decide) (u := ()) (Or.inl ⟨j19, hc8_e, ⟨hj4, rfl⟩, hc33_e, rfl, rfl⟩) hP hD hK hS dC_holds_44
        · skip
          have hP : va_P (gD G) vC [(qc, .inr (5, [.ref q, .ref qn, .ref qk, .ref qa, .ref qd, .int (zB true)])), (qa, .inr (0, [.ref r1, .int (nI ns), .long re, .int sp, .ref r2, .int (nI lr), .int (nI rt), .long vi])), (qk, .inr (2, [.ref k1, .int (nI la), .int (nI ss), .int (nI ii), .int (nI ks), .ref k2, .ref k3, .ref k4, .long kb]))] H := hP
          have hD : va_D A [(qc, .inr (5, [.ref q, .ref qn, .ref qk, .ref qa, .ref qd, .int (zB true)])), (qa, .inr (0, [.ref r1, .int (nI ns), .long re, .int sp, .ref r2, .int (nI lr), .int (nI rt), .long vi])), (qk, .inr (2, [.ref k1, .int (nI la), .int (nI ss), .int (nI ii), .int (nI ks), .ref k2, .ref k3, .ref k4, .long kb]))] := hD
          refine lv_if_eq (tgt := 43) hx hb dC_holds_36 rfl (fun _ => ?_) (fun h36 => (by revert h36; first | decide | exact fun z => absurd z (by decide) | exact fun z => z.elim (by decide)))
          refine lv_iconst (v := nI 0) hx hb dC_holds_43 (by decide) ?_
          -- end 1
          rw [← hQ]
          exact k_iret hx hb hr hlocks (by decide) (u := ()) (Or.inr (Or.inl ⟨j19, hc8_e, ⟨hj4, rfl⟩, hc33_e, rfl, rfl⟩)) hP hD hK hS dC_holds_44
      · skip
        have hP : va_P (gD G) vC [(qc, .inr (5, [.ref q, .ref qn, .ref qk, .ref qa, .ref qd, .int (zB true)])), (qa, .inr (0, [.ref r1, .int (nI ns), .long re, .int sp, .ref r2, .int (nI lr), .int (nI rt), .long vi])), (qk, .inr (2, [.ref k1, .int (nI la), .int (nI ss), .int (nI ii), .int (nI ks), .ref k2, .ref k3, .ref k4, .long kb]))] H := hP
        have hD : va_D A [(qc, .inr (5, [.ref q, .ref qn, .ref qk, .ref qa, .ref qd, .int (zB true)])), (qa, .inr (0, [.ref r1, .int (nI ns), .long re, .int sp, .ref r2, .int (nI lr), .int (nI rt), .long vi])), (qk, .inr (2, [.ref k1, .int (nI la), .int (nI ss), .int (nI ii), .int (nI ks), .ref k2, .ref k3, .ref k4, .long kb]))] := hD
        refine lv_if_eq (tgt := 43) hx hb dC_holds_22 rfl (fun _ => ?_) (fun h22 => (by revert h22; first | decide | exact fun z => absurd z (by decide) | exact fun z => z.elim (by decide)))
        refine lv_iconst (v := nI 0) hx hb dC_holds_43 (by decide) ?_
        -- end 2
        rw [← hQ]
        exact k_iret hx hb hr hlocks (by decide) (u := ()) (Or.inr (Or.inr (Or.inr ⟨hc8_e, hc19_e, rfl, rfl⟩))) hP hD hK hS dC_holds_44
    · skip
      have hP : va_P (gD G) vC [(qc, .inr (5, [.ref q, .ref qn, .ref qk, .ref qa, .ref qd, .int (zB true)])), (qa, .inr (0, [.ref r1, .int (nI ns), .long re, .int sp, .ref r2, .int (nI lr), .int (nI rt), .long vi])), (qk, .inr (2, [.ref k1, .int (nI la), .int (nI ss), .int (nI ii), .int (nI ks), .ref k2, .ref k3, .ref k4, .long kb]))] H := hP
      have hD : va_D A [(qc, .inr (5, [.ref q, .ref qn, .ref qk, .ref qa, .ref qd, .int (zB true)])), (qa, .inr (0, [.ref r1, .int (nI ns), .long re, .int sp, .ref r2, .int (nI lr), .int (nI rt), .long vi])), (qk, .inr (2, [.ref k1, .int (nI la), .int (nI ss), .int (nI ii), .int (nI ks), .ref k2, .ref k3, .ref k4, .long kb]))] := hD
      refine lv_if_eq (tgt := 43) hx hb dC_holds_11 rfl (fun _ => ?_) (fun h11 => (by revert h11; first | decide | exact fun z => absurd z (by decide) | exact fun z => z.elim (by decide)))
      refine lv_iconst (v := nI 0) hx hb dC_holds_43 (by decide) ?_
      -- end 3
      rw [← hQ]
      exact k_iret hx hb hr hlocks (by decide) (u := ()) (Or.inr (Or.inr (Or.inl ⟨hc8_e, rfl, rfl⟩))) hP hD hK hS dC_holds_44
  rw [hH, hlc] at hgo
  exact hgo
set_option maxRecDepth 100000 in
set_option maxHeartbeats 4000000 in
theorem k_C_witness_s (l : Launch) (G : GG) (sz : Nat) (qc : Nat) (q : Nat) (qn : Nat) (qk : Nat) (qa : Nat) (qd : Nat) (r1 : Nat) (r2 : Nat) (ns : Nat) (re : Int64) (lr : Nat) (rt : Nat) (vi : Int64) (wy : Nat → Nat) (x : Int32) : Ki l yC_witness cC_witness 2 .int 1 20 G [.ref qc, .int x] [(qc, .inr (5, [.ref q, .ref qn, .ref qk, .ref qa, .ref qd, .int (zB true)])), (qa, .inr (0, [.ref r1, .int (nI ns), .long re, .int (-1), .ref r2, .int (nI lr), .int (nI rt), .long vi])), (r2, aI G 64 wy)] sz (fun (r : Int32) (u : Unit) => ((-1) = r ∧ () = u)) (fun (u : Unit) => [(qc, .inr (5, [.ref q, .ref qn, .ref qk, .ref qa, .ref qd, .int (zB true)])), (qa, .inr (0, [.ref r1, .int (nI ns), .long re, .int (-1), .ref r2, .int (nI lr), .int (nI rt), .long vi])), (r2, aI G 64 wy)]) := by
  refine Met.ofW (cc := cC_witness) (maxL := 2) (ret := (some .int)) (by decide) rfl ?_
  intro p e s m args below meth c s₁ B hml hv
  obtain ⟨hav, hsz, hP, hK, hD0, hE⟩ := hv
  have hx := B.exec
  have hb := B.bytes
  have hr := B.returns
  have htb : ∀ w ∈ TB, w.before args s = true := fun w h => atoms_spec (ws := Cond.code yC_witness cC_witness 2 (some .int) :: TB) B.pre w (List.mem_cons_of_mem _ h)
  have hown : s.vm.findClass "CircuitProver" = some m.cls := findClass_of_methodNamed B.named
  have hlocks := B.notSynchronized
  subst hsz
  have hD := hD0.self (sz := s.heap.size)
  clear hD0
  generalize hRm : (headSpec (Cond.code yC_witness cC_witness 2 (some .int) :: TB) { frames := 1, cells := 0, slots := 0, locals := 20 }).room = R
  have hRf : R.frames = 1 := by rw [← hRm]; rfl
  have hRl : R.locals = 20 := by rw [← hRm]; rfl
  have hRc : R.cells = 0 := by rw [← hRm]; rfl
  have hRs : R.slots = 0 := by rw [← hRm]; rfl
  clear hRm
  generalize hAe : va_A [(qc, .inr (5, [.ref q, .ref qn, .ref qk, .ref qa, .ref qd, .int (zB true)])), (qa, .inr (0, [.ref r1, .int (nI ns), .long re, .int (-1), .ref r2, .int (nI lr), .int (nI rt), .long vi])), (r2, aI G 64 wy)] s.heap.size = A at hD hE ⊢
  have hA : ∀ q : Nat, s.heap.size ≤ q → A q := fun q h => by rw [← hAe]; exact Or.inr h
  clear hAe
  have hS : va_S A s.heap s.heap [] := va_S.rf
  have hl := lv_entry ([.ref qc, .int x]) (n := 2) (Nat.le_of_ble_eq_true rfl)
  have hent := lg_entry_eq m ([.ref qc, .int x]) 2
  rw [← hav] at hent
  rw [hent]
  clear hent hav
  generalize (lg_sl ([.ref qc, .int x]) ++ List.replicate (2 - (lg_sl ([.ref qc, .int x])).length) Slot.unset).toArray = ls at hl ⊢
  have hl : lv_has ls 2 [(0, .ref qc), (1, .int x)] := hl
  generalize hQ : MQ below _ args s 0 0 _ = Q
  have hP : va_P (gD G) vC [(qc, .inr (5, [.ref q, .ref qn, .ref qk, .ref qa, .ref qd, .int (zB true)])), (qa, .inr (0, [.ref r1, .int (nI ns), .long re, .int (-1), .ref r2, .int (nI lr), .int (nI rt), .long vi])), (r2, aI G 64 wy)] s.heap := hP
  obtain ⟨H, hH⟩ : ∃ H : Heap, H = s.heap := ⟨_, rfl⟩
  obtain ⟨locs, hlc⟩ : ∃ L : List Loc, L = [] := ⟨_, rfl⟩
  have hS : va_S A s.heap H locs := by rw [hH, hlc]; exact hS
  have hP : va_P (gD G) vC [(qc, .inr (5, [.ref q, .ref qn, .ref qk, .ref qa, .ref qd, .int (zB true)])), (qa, .inr (0, [.ref r1, .int (nI ns), .long re, .int (-1), .ref r2, .int (nI lr), .int (nI rt), .long vi])), (r2, aI G 64 wy)] H := by rw [hH]; exact hP
  have hgo : W p l e R s m args below meth c H locs 0 0 Q (F0 m 0 ls []) := by
    clear hH hlc
    refine lv_aload_n hx hb dC_witness_0 rfl (lv_at hl 0 rfl) ?_
    refine k_v (ws2 := fun u => [(qc, .inr (5, [.ref q, .ref qn, .ref qk, .ref qa, .ref qd, .int (zB true)])), (qa, .inr (0, [.ref r1, .int (nI ns), .long re, .int (-1), .ref r2, .int (nI lr), .int (nI rt), .long vi])), (r2, aI G 64 wy)]) (wr := [(qa, .inr (0, [.ref r1, .int (nI ns), .long re, .int (-1), .ref r2, .int (nI lr), .int (nI rt), .long vi])), (r2, aI G 64 wy)]) (k_runV (n := 0) (As := []) (rest := []) hx hb hml hown htb hP hD hK hS hA hE (k_C_requireCircuit_ok l G H.size qc q qn qk qa qd ) b507 b509 s23 b1 b510 (by decide +kernel) rfl rfl ⟨by rw [hRf]; exact Nat.le_of_ble_eq_true rfl, by rw [hRl]; exact Nat.le_of_ble_eq_true rfl⟩ [0] rfl (by decide) 0 rfl rfl rfl rfl hl.1 rfl (Nat.le_of_ble_eq_true rfl) dC_witness_1 ⟨Nat.zero_le _, Nat.zero_le _⟩) hP hD hS hA [0] [1, 2] [2, 0, 1] rfl rfl (by decide) (by decide) (fun u => rfl) (by decide) (fun u H locs hw hP hD hS => ?_)
    obtain rfl := hw
    have hP : va_P (gD G) vC [(qc, .inr (5, [.ref q, .ref qn, .ref qk, .ref qa, .ref qd, .int (zB true)])), (qa, .inr (0, [.ref r1, .int (nI ns), .long re, .int (-1), .ref r2, .int (nI lr), .int (nI rt), .long vi])), (r2, aI G 64 wy)] H := hP
    have hD : va_D A [(qc, .inr (5, [.ref q, .ref qn, .ref qk, .ref qa, .ref qd, .int (zB true)])), (qa, .inr (0, [.ref r1, .int (nI ns), .long re, .int (-1), .ref r2, .int (nI lr), .int (nI rt), .long vi])), (r2, aI G 64 wy)] := hD
    refine lv_iload_n hx hb dC_witness_4 rfl (lv_at hl 1 rfl) ?_
    refine lv_if_lt (tgt := 43) hx hb dC_witness_5 rfl (fun h5 => ?_) (fun h5 => ?_)
    · skip
      refine lv_iconst (v := (-1)) hx hb dC_witness_43 (by decide) ?_
      -- end 0
      rw [← hQ]
      exact k_iret hx hb hr hlocks rfl (u := ()) (⟨rfl, rfl⟩) hP hD hK hS dC_witness_44
    · skip
      refine lv_iload_n hx hb dC_witness_8 rfl (lv_at hl 1 rfl) ?_
      refine lv_aload_n hx hb dC_witness_9 rfl (lv_at hl 0 rfl) ?_
      refine va_get (D := gD G) (ci := 5) (v := .ref qa) (C := "CircuitProver") (T := TC) (N := 6) hx hb htb inC hown hK hP 0 rfl rfl 3 (by decide) (htb _ b190) (fun _ h9 => h9) rfl dC_witness_10 ?_
      refine va_getN (D := gD G) (ci := 0) (v := .int (-1)) (C := "CircuitProver$Answer") (T := TA) (N := 8) hx hb htb inA hown hK hP 1 rfl rfl 3 (by decide) (va_Nw.use rfl (hE.nw n151)) (fun _ h9 => h9) rfl dC_witness_13 ?_
      refine lv_icmp_gt (tgt := 43) hx hb dC_witness_16 rfl (fun h16 => ?_) (fun h16 => ?_)
      · skip
        refine lv_iconst (v := (-1)) hx hb dC_witness_43 (by decide) ?_
        -- end 1
        rw [← hQ]
        exact k_iret hx hb hr hlocks rfl (u := ()) (⟨rfl, rfl⟩) hP hD hK hS dC_witness_44
      · skip
        exact (neg_all h5 h16).elim
  rw [hH, hlc] at hgo
  exact hgo
set_option maxRecDepth 100000 in
set_option maxHeartbeats 4000000 in
theorem k_C_witness_u (l : Launch) (G : GG) (sz : Nat) (qc : Nat) (q : Nat) (qn : Nat) (qk : Nat) (qa : Nat) (qd : Nat) (r1 : Nat) (r2 : Nat) (ns : Nat) (re : Int64) (lr : Nat) (rt : Nat) (vi : Int64) (wy : Nat → Nat) (d : Nat) (x : Int32) (hd : d < 64) : Ki l yC_witness cC_witness 2 .int 1 20 G [.ref qc, .int x] [(qc, .inr (5, [.ref q, .ref qn, .ref qk, .ref qa, .ref qd, .int (zB true)])), (qa, .inr (0, [.ref r1, .int (nI ns), .long re, .int (nI d), .ref r2, .int (nI lr), .int (nI rt), .long vi])), (r2, aI G 64 wy)] sz (fun (r : Int32) (u : Unit) => (∃ (nq : Nat), (nq ≤ d ∧ x = nI nq) ∧ nI (wy nq) = r ∧ () = u) ∨ ((∀ n, n < 64 → x = nI n → d < n) ∧ (-1) = r ∧ () = u)) (fun (u : Unit) => [(qc, .inr (5, [.ref q, .ref qn, .ref qk, .ref qa, .ref qd, .int (zB true)])), (qa, .inr (0, [.ref r1, .int (nI ns), .long re, .int (nI d), .ref r2, .int (nI lr), .int (nI rt), .long vi])), (r2, aI G 64 wy)]) := by
  refine Met.ofW (cc := cC_witness) (maxL := 2) (ret := (some .int)) (by decide) rfl ?_
  intro p e s m args below meth c s₁ B hml hv
  obtain ⟨hav, hsz, hP, hK, hD0, hE⟩ := hv
  have hx := B.exec
  have hb := B.bytes
  have hr := B.returns
  have htb : ∀ w ∈ TB, w.before args s = true := fun w h => atoms_spec (ws := Cond.code yC_witness cC_witness 2 (some .int) :: TB) B.pre w (List.mem_cons_of_mem _ h)
  have hown : s.vm.findClass "CircuitProver" = some m.cls := findClass_of_methodNamed B.named
  have hlocks := B.notSynchronized
  subst hsz
  have hD := hD0.self (sz := s.heap.size)
  clear hD0
  generalize hRm : (headSpec (Cond.code yC_witness cC_witness 2 (some .int) :: TB) { frames := 1, cells := 0, slots := 0, locals := 20 }).room = R
  have hRf : R.frames = 1 := by rw [← hRm]; rfl
  have hRl : R.locals = 20 := by rw [← hRm]; rfl
  have hRc : R.cells = 0 := by rw [← hRm]; rfl
  have hRs : R.slots = 0 := by rw [← hRm]; rfl
  clear hRm
  generalize hAe : va_A [(qc, .inr (5, [.ref q, .ref qn, .ref qk, .ref qa, .ref qd, .int (zB true)])), (qa, .inr (0, [.ref r1, .int (nI ns), .long re, .int (nI d), .ref r2, .int (nI lr), .int (nI rt), .long vi])), (r2, aI G 64 wy)] s.heap.size = A at hD hE ⊢
  have hA : ∀ q : Nat, s.heap.size ≤ q → A q := fun q h => by rw [← hAe]; exact Or.inr h
  clear hAe
  have hS : va_S A s.heap s.heap [] := va_S.rf
  have hl := lv_entry ([.ref qc, .int x]) (n := 2) (Nat.le_of_ble_eq_true rfl)
  have hent := lg_entry_eq m ([.ref qc, .int x]) 2
  rw [← hav] at hent
  rw [hent]
  clear hent hav
  generalize (lg_sl ([.ref qc, .int x]) ++ List.replicate (2 - (lg_sl ([.ref qc, .int x])).length) Slot.unset).toArray = ls at hl ⊢
  have hl : lv_has ls 2 [(0, .ref qc), (1, .int x)] := hl
  generalize hQ : MQ below _ args s 0 0 _ = Q
  have hP : va_P (gD G) vC [(qc, .inr (5, [.ref q, .ref qn, .ref qk, .ref qa, .ref qd, .int (zB true)])), (qa, .inr (0, [.ref r1, .int (nI ns), .long re, .int (nI d), .ref r2, .int (nI lr), .int (nI rt), .long vi])), (r2, aI G 64 wy)] s.heap := hP
  obtain ⟨H, hH⟩ : ∃ H : Heap, H = s.heap := ⟨_, rfl⟩
  obtain ⟨locs, hlc⟩ : ∃ L : List Loc, L = [] := ⟨_, rfl⟩
  have hS : va_S A s.heap H locs := by rw [hH, hlc]; exact hS
  have hP : va_P (gD G) vC [(qc, .inr (5, [.ref q, .ref qn, .ref qk, .ref qa, .ref qd, .int (zB true)])), (qa, .inr (0, [.ref r1, .int (nI ns), .long re, .int (nI d), .ref r2, .int (nI lr), .int (nI rt), .long vi])), (r2, aI G 64 wy)] H := by rw [hH]; exact hP
  have hgo : W p l e R s m args below meth c H locs 0 0 Q (F0 m 0 ls []) := by
    clear hH hlc
    refine lv_aload_n hx hb dC_witness_0 rfl (lv_at hl 0 rfl) ?_
    refine k_v (ws2 := fun u => [(qc, .inr (5, [.ref q, .ref qn, .ref qk, .ref qa, .ref qd, .int (zB true)])), (qa, .inr (0, [.ref r1, .int (nI ns), .long re, .int (nI d), .ref r2, .int (nI lr), .int (nI rt), .long vi])), (r2, aI G 64 wy)]) (wr := [(qa, .inr (0, [.ref r1, .int (nI ns), .long re, .int (nI d), .ref r2, .int (nI lr), .int (nI rt), .long vi])), (r2, aI G 64 wy)]) (k_runV (n := 0) (As := []) (rest := []) hx hb hml hown htb hP hD hK hS hA hE (k_C_requireCircuit_ok l G H.size qc q qn qk qa qd ) b507 b509 s23 b1 b510 (by decide +kernel) rfl rfl ⟨by rw [hRf]; exact Nat.le_of_ble_eq_true rfl, by rw [hRl]; exact Nat.le_of_ble_eq_true rfl⟩ [0] rfl (by decide) 0 rfl rfl rfl rfl hl.1 rfl (Nat.le_of_ble_eq_true rfl) dC_witness_1 ⟨Nat.zero_le _, Nat.zero_le _⟩) hP hD hS hA [0] [1, 2] [2, 0, 1] rfl rfl (by decide) (by decide) (fun u => rfl) (by decide) (fun u H locs hw hP hD hS => ?_)
    obtain rfl := hw
    have hP : va_P (gD G) vC [(qc, .inr (5, [.ref q, .ref qn, .ref qk, .ref qa, .ref qd, .int (zB true)])), (qa, .inr (0, [.ref r1, .int (nI ns), .long re, .int (nI d), .ref r2, .int (nI lr), .int (nI rt), .long vi])), (r2, aI G 64 wy)] H := hP
    have hD : va_D A [(qc, .inr (5, [.ref q, .ref qn, .ref qk, .ref qa, .ref qd, .int (zB true)])), (qa, .inr (0, [.ref r1, .int (nI ns), .long re, .int (nI d), .ref r2, .int (nI lr), .int (nI rt), .long vi])), (r2, aI G 64 wy)] := hD
    refine lv_iload_n hx hb dC_witness_4 rfl (lv_at hl 1 rfl) ?_
    refine lv_if_lt (tgt := 43) hx hb dC_witness_5 rfl (fun h5 => ?_) (fun h5 => ?_)
    · skip
      refine lv_iconst (v := (-1)) hx hb dC_witness_43 (by decide) ?_
      -- end 0
      rw [← hQ]
      exact k_iret hx hb hr hlocks rfl (u := ()) (Or.inr ⟨fun n hn e9 => (by rw [e9] at h5; exact (nI_pos (by omega) h5).elim), rfl, rfl⟩) hP hD hK hS dC_witness_44
    · skip
      refine lv_iload_n hx hb dC_witness_8 rfl (lv_at hl 1 rfl) ?_
      refine lv_aload_n hx hb dC_witness_9 rfl (lv_at hl 0 rfl) ?_
      refine va_get (D := gD G) (ci := 5) (v := .ref qa) (C := "CircuitProver") (T := TC) (N := 6) hx hb htb inC hown hK hP 0 rfl rfl 3 (by decide) (htb _ b190) (fun _ h9 => h9) rfl dC_witness_10 ?_
      refine va_getN (D := gD G) (ci := 0) (v := .int (nI d)) (C := "CircuitProver$Answer") (T := TA) (N := 8) hx hb htb inA hown hK hP 1 rfl rfl 3 (by decide) (va_Nw.use rfl (hE.nw n151)) (fun _ h9 => h9) rfl dC_witness_13 ?_
      refine lv_icmp_gt (tgt := 43) hx hb dC_witness_16 rfl (fun h16 => ?_) (fun h16 => ?_)
      · skip
        refine lv_iconst (v := (-1)) hx hb dC_witness_43 (by decide) ?_
        -- end 1
        rw [← hQ]
        exact k_iret hx hb hr hlocks rfl (u := ()) (Or.inr ⟨fun n hn e9 => (by rw [e9] at h16; exact (nI_ltI (by omega) (by omega)).mp h16), rfl, rfl⟩) hP hD hK hS dC_witness_44
      · skip
        obtain ⟨nq, hnq, rfl⟩ := ix_le (d := d) (by omega) h5 h16
        refine lv_iload_n hx hb dC_witness_19 rfl (lv_at hl 1 rfl) ?_
        refine lv_aload_n hx hb dC_witness_20 rfl (lv_at hl 0 rfl) ?_
        refine va_get (D := gD G) (ci := 5) (v := .ref qa) (C := "CircuitProver") (T := TC) (N := 6) hx hb htb inC hown hK hP 0 rfl rfl 3 (by decide) (htb _ b190) (fun _ h9 => h9) rfl dC_witness_21 ?_
        refine va_getN (D := gD G) (ci := 0) (v := .ref r2) (C := "CircuitProver$Answer") (T := TA) (N := 8) hx hb htb inA hown hK hP 1 rfl rfl 4 (by decide) (va_Nw.use rfl (hE.nw n153)) (fun _ h9 => h9) rfl dC_witness_24 ?_
        refine va_alen (v := nI 64) hx hb hK hP 2 0 rfl rfl rfl dC_witness_27 ?_
        refine lv_icmp_ge (tgt := 43) hx hb dC_witness_28 rfl (fun h28 => ?_) (fun h28 => ?_)
        · have h28 : 64 ≤ nq := (nI_leI (a := 64) (b := nq) (by omega) (by omega)).mp h28
          exfalso; omega
        · have h28 : nq < 64 := Nat.lt_of_not_le (fun z => h28 ((nI_leI (a := 64) (b := nq) (by omega) (by omega)).mpr z))
          refine lv_aload_n hx hb dC_witness_31 rfl (lv_at hl 0 rfl) ?_
          refine va_get (D := gD G) (ci := 5) (v := .ref qa) (C := "CircuitProver") (T := TC) (N := 6) hx hb htb inC hown hK hP 0 rfl rfl 3 (by decide) (htb _ b190) (fun _ h9 => h9) rfl dC_witness_32 ?_
          refine va_getN (D := gD G) (ci := 0) (v := .ref r2) (C := "CircuitProver$Answer") (T := TA) (N := 8) hx hb htb inA hown hK hP 1 rfl rfl 4 (by decide) (va_Nw.use rfl (hE.nw n153)) (fun _ h9 => h9) rfl dC_witness_35 ?_
          refine lv_iload_n hx hb dC_witness_38 rfl (lv_at hl 1 rfl) ?_
          refine k_iald hx hb hK hP 2 rfl (k := nq) (by omega) (by decide) dC_witness_39 ?_
          refine lv_goto (tgt := 44) hx hb dC_witness_40 rfl ?_
          -- end 2
          rw [← hQ]
          exact k_iret hx hb hr hlocks rfl (u := ()) (Or.inl ⟨nq, ⟨hnq, rfl⟩, rfl, rfl⟩) hP hD hK hS dC_witness_44
  rw [hH, hlc] at hgo
  exact hgo
