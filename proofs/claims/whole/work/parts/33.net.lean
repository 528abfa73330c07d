set_option maxRecDepth 100000 in
set_option maxHeartbeats 4000000 in
theorem k_N_isLiteral (l : Launch) (G : GG) (sz : Nat) (qn : Nat) (n1 : Nat) (n2 : Nat) (n3 : Nat) (n4 : Nat) (n5 : Nat) (n6 : Nat) (n7 : Nat) (n8 : Nat) (n9 : Nat) (n10 : Nat) (sa : Nat) (ol : Nat) (hh : Nat → Nat) (x : Nat) (hx0 : x < 100) (hh0 : hh 0 < 100) : Ki l yN_isLiteral cN_isLiteral 2 .boolean 0 0 G [.ref qn, .int (nI x)] [(qn, .inr (3, [.ref n1, .ref n2, .ref n3, .ref n4, .ref n5, .ref n6, .ref n7, .ref n8, .ref n9, .int (nI sa), .int (nI ol), .ref n10])), (n1, aI G 5 hh)] sz (fun (r : Int32) (u : Unit) => (x ≤ 2 * hh 0 + 1 ∧ nI 1 = r ∧ () = u) ∨ (¬ x ≤ 2 * hh 0 + 1 ∧ nI 0 = r ∧ () = u)) (fun (u : Unit) => [(qn, .inr (3, [.ref n1, .ref n2, .ref n3, .ref n4, .ref n5, .ref n6, .ref n7, .ref n8, .ref n9, .int (nI sa), .int (nI ol), .ref n10])), (n1, aI G 5 hh)]) := by
  refine Met.ofW (cc := cN_isLiteral) (maxL := 2) (ret := (some .boolean)) (by decide) rfl ?_
  intro p e s m args below meth c s₁ B hml hv
  obtain ⟨hav, hsz, hP, hK, hD0, hE⟩ := hv
  have hx := B.exec
  have hb := B.bytes
  have hr := B.returns
  have htb : ∀ w ∈ TB, w.before args s = true := fun w h => atoms_spec (ws := Cond.code yN_isLiteral cN_isLiteral 2 (some .boolean) :: TB) B.pre w (List.mem_cons_of_mem _ h)
  have hown : s.vm.findClass "CircuitProver$Netlist" = some m.cls := findClass_of_methodNamed B.named
  have hlocks := B.notSynchronized
  subst hsz
  have hD := hD0.self (sz := s.heap.size)
  clear hD0
  generalize hRm : (headSpec (Cond.code yN_isLiteral cN_isLiteral 2 (some .boolean) :: TB) { frames := 0, cells := 0, slots := 0, locals := 0 }).room = R
  have hRf : R.frames = 0 := by rw [← hRm]; rfl
  have hRl : R.locals = 0 := by rw [← hRm]; rfl
  have hRc : R.cells = 0 := by rw [← hRm]; rfl
  have hRs : R.slots = 0 := by rw [← hRm]; rfl
  clear hRm
  generalize hAe : va_A [(qn, .inr (3, [.ref n1, .ref n2, .ref n3, .ref n4, .ref n5, .ref n6, .ref n7, .ref n8, .ref n9, .int (nI sa), .int (nI ol), .ref n10])), (n1, aI G 5 hh)] s.heap.size = A at hD hE ⊢
  have hA : ∀ q : Nat, s.heap.size ≤ q → A q := fun q h => by rw [← hAe]; exact Or.inr h
  clear hAe
  have hS : va_S A s.heap s.heap [] := va_S.rf
  have hl := lv_entry ([.ref qn, .int (nI x)]) (n := 2) (Nat.le_of_ble_eq_true rfl)
  have hent := lg_entry_eq m ([.ref qn, .int (nI x)]) 2
  rw [← hav] at hent
  rw [hent]
  clear hent hav
  generalize (lg_sl ([.ref qn, .int (nI x)]) ++ List.replicate (2 - (lg_sl ([.ref qn, .int (nI x)])).length) Slot.unset).toArray = ls at hl ⊢
  have hl : lv_has ls 2 [(0, .ref qn), (1, .int (nI x))] := hl
  generalize hQ : MQ below _ args s 0 0 _ = Q
  have hP : va_P (gD G) vC [(qn, .inr (3, [.ref n1, .ref n2, .ref n3, .ref n4, .ref n5, .ref n6, .ref n7, .ref n8, .ref n9, .int (nI sa), .int (nI ol), .ref n10])), (n1, aI G 5 hh)] s.heap := hP
  obtain ⟨H, hH⟩ : ∃ H : Heap, H = s.heap := ⟨_, rfl⟩
  obtain ⟨locs, hlc⟩ : ∃ L : List Loc, L = [] := ⟨_, rfl⟩
  have hS : va_S A s.heap H locs := by rw [hH, hlc]; exact hS
  have hP : va_P (gD G) vC [(qn, .inr (3, [.ref n1, .ref n2, .ref n3, .ref n4, .ref n5, .ref n6, .ref n7, .ref n8, .ref n9, .int (nI sa), .int (nI ol), .ref n10])), (n1, aI G 5 hh)] H := by rw [hH]; exact hP
  have hgo : W p l e R s m args below meth c H locs 0 0 Q (F0 m 0 ls []) := by
    clear hH hlc
    refine lv_iload_n hx hb dN_isLiteral_0 rfl (lv_at hl 1 rfl) ?_
    refine lv_if_lt (tgt := 30) hx hb dN_isLiteral_1 rfl (fun h1 => ?_) (fun h1 => ?_)
    · have h1 : x < 0 := (nI_ltI (a := x) (b := 0) (by omega) (by omega)).mp h1
      refine lv_iconst (v := nI 0) hx hb dN_isLiteral_30 (by decide) ?_
      -- end 0
      rw [← hQ]
      exact k_iret hx hb hr hlocks (by decide) (u := ()) (by omega) hP hD hK hS dN_isLiteral_31
    · have h1 : 0 ≤ x := Nat.le_of_not_lt (fun z => h1 ((nI_ltI (a := x) (b := 0) (by omega) (by omega)).mpr z))
      refine lv_iload_n hx hb dN_isLiteral_4 rfl (lv_at hl 1 rfl) ?_
      refine lv_iconst (v := nI 2) hx hb dN_isLiteral_5 (by decide) ?_
      refine lv_aload_n hx hb dN_isLiteral_6 rfl (lv_at hl 0 rfl) ?_
      refine va_get (D := gD G) (ci := 3) (v := .ref n1) (C := "CircuitProver$Netlist") (T := TN) (N := 12) hx hb htb inN hown hK hP 0 rfl rfl 0 (by decide) (htb _ b55) (fun _ h9 => h9) rfl dN_isLiteral_7 ?_
      refine lv_iconst (v := nI 0) hx hb dN_isLiteral_10 (by decide) ?_
      refine k_iald hx hb hK hP 1 rfl (k := 0) (by omega) (by decide) dN_isLiteral_11 ?_
      refine lv_imul hx hb dN_isLiteral_12 ?_
      refine k_toi (y := nI (2 * (hh 0))) (pk_mul _ _) ?_
      refine lv_iconst (v := nI 1) hx hb dN_isLiteral_13 (by decide) ?_
      refine lv_iadd hx hb dN_isLiteral_14 ?_
      refine k_toi (y := nI ((2 * (hh 0)) + 1)) (nI_add _ _) ?_
      refine lv_icmp_gt (tgt := 30) hx hb dN_isLiteral_15 rfl (fun h15 => ?_) (fun h15 => ?_)
      · have h15 : (2 * (hh 0)) + 1 < x := (nI_ltI (a := (2 * (hh 0)) + 1) (b := x) (by omega) (by omega)).mp h15
        refine lv_iconst (v := nI 0) hx hb dN_isLiteral_30 (by decide) ?_
        -- end 1
        rw [← hQ]
        exact k_iret hx hb hr hlocks (by decide) (u := ()) (Or.inr ⟨by omega, rfl, rfl⟩) hP hD hK hS dN_isLiteral_31
      · have h15 : x ≤ (2 * (hh 0)) + 1 := Nat.le_of_not_lt (fun z => h15 ((nI_ltI (a := (2 * (hh 0)) + 1) (b := x) (by omega) (by omega)).mpr z))
        refine lv_iload_n hx hb dN_isLiteral_18 rfl (lv_at hl 1 rfl) ?_
        refine lv_iconst (v := nI 1) hx hb dN_isLiteral_19 (by decide) ?_
        refine lv_ishr hx hb dN_isLiteral_20 ?_
        refine k_toi (y := nI (x / 2)) (pk_shrN (by omega) _ 1 (by decide)) ?_
        refine lv_bipush (v := nI 50) hx hb dN_isLiteral_21 (by decide) ?_
        refine lv_icmp_ge (tgt := 30) hx hb dN_isLiteral_23 rfl (fun h23 => ?_) (fun h23 => ?_)
        · have h23 : 50 ≤ x / 2 := (nI_leI (a := 50) (b := x / 2) (by omega) (by omega)).mp h23
          refine lv_iconst (v := nI 0) hx hb dN_isLiteral_30 (by decide) ?_
          -- end 2
          rw [← hQ]
          exact k_iret hx hb hr hlocks (by decide) (u := ()) (by omega) hP hD hK hS dN_isLiteral_31
        · have h23 : x / 2 < 50 := Nat.lt_of_not_le (fun z => h23 ((nI_leI (a := 50) (b := x / 2) (by omega) (by omega)).mpr z))
          refine lv_iconst (v := nI 1) hx hb dN_isLiteral_26 (by decide) ?_
          refine lv_goto (tgt := 31) hx hb dN_isLiteral_27 rfl ?_
          -- end 3
          rw [← hQ]
          exact k_iret hx hb hr hlocks (by decide) (u := ()) (Or.inl ⟨by omega, rfl, rfl⟩) hP hD hK hS dN_isLiteral_31
  rw [hH, hlc] at hgo
  exact hgo
set_option maxRecDepth 100000 in
set_option maxHeartbeats 4000000 in
theorem k_N_define (l : Launch) (G : GG) (sz : Nat) (qn : Nat) (n1 : Nat) (n2 : Nat) (n3 : Nat) (n4 : Nat) (n5 : Nat) (n6 : Nat) (n7 : Nat) (n8 : Nat) (n9 : Nat) (n10 : Nat) (sa : Nat) (ol : Nat) (hh : Nat → Nat) (df : Nat → Bool) (x : Nat) (hx0 : x < 100) (hh0 : hh 0 < 100) : Ki l yN_define cN_define 3 .boolean 1 21 G [.ref qn, .int (nI x)] [(qn, .inr (3, [.ref n1, .ref n2, .ref n3, .ref n4, .ref n5, .ref n6, .ref n7, .ref n8, .ref n9, .int (nI sa), .int (nI ol), .ref n10])), (n1, aI G 5 hh), (n2, aZ G 50 df)] sz (fun (r : Int32) (u : (Nat → Bool)) => ((2 ≤ x ∧ x % 2 = 0 ∧ x ≤ 2 * hh 0 + 1 ∧ df (x / 2) = false) ∧ nI 1 = r ∧ va_up df (x / 2) true = u) ∨ ((¬ (2 ≤ x ∧ x % 2 = 0 ∧ x ≤ 2 * hh 0 + 1 ∧ df (x / 2) = false)) ∧ nI 0 = r ∧ df = u)) (fun (u : (Nat → Bool)) => [(qn, .inr (3, [.ref n1, .ref n2, .ref n3, .ref n4, .ref n5, .ref n6, .ref n7, .ref n8, .ref n9, .int (nI sa), .int (nI ol), .ref n10])), (n1, aI G 5 hh), (n2, aZ G 50 u)]) := by
  refine Met.ofW (cc := cN_define) (maxL := 3) (ret := (some .boolean)) (by decide) rfl ?_
  intro p e s m args below meth c s₁ B hml hv
  obtain ⟨hav, hsz, hP, hK, hD0, hE⟩ := hv
  have hx := B.exec
  have hb := B.bytes
  have hr := B.returns
  have htb : ∀ w ∈ TB, w.before args s = true := fun w h => atoms_spec (ws := Cond.code yN_define cN_define 3 (some .boolean) :: TB) B.pre w (List.mem_cons_of_mem _ h)
  have hown : s.vm.findClass "CircuitProver$Netlist" = some m.cls := findClass_of_methodNamed B.named
  have hlocks := B.notSynchronized
  subst hsz
  have hD := hD0.self (sz := s.heap.size)
  clear hD0
  generalize hRm : (headSpec (Cond.code yN_define cN_define 3 (some .boolean) :: TB) { frames := 1, cells := 0, slots := 0, locals := 21 }).room = R
  have hRf : R.frames = 1 := by rw [← hRm]; rfl
  have hRl : R.locals = 21 := by rw [← hRm]; rfl
  have hRc : R.cells = 0 := by rw [← hRm]; rfl
  have hRs : R.slots = 0 := by rw [← hRm]; rfl
  clear hRm
  generalize hAe : va_A [(qn, .inr (3, [.ref n1, .ref n2, .ref n3, .ref n4, .ref n5, .ref n6, .ref n7, .ref n8, .ref n9, .int (nI sa), .int (nI ol), .ref n10])), (n1, aI G 5 hh), (n2, aZ G 50 df)] s.heap.size = A at hD hE ⊢
  have hA : ∀ q : Nat, s.heap.size ≤ q → A q := fun q h => by rw [← hAe]; exact Or.inr h
  clear hAe
  have hS : va_S A s.heap s.heap [] := va_S.rf
  have hl := lv_entry ([.ref qn, .int (nI x)]) (n := 3) (Nat.le_of_ble_eq_true rfl)
  have hent := lg_entry_eq m ([.ref qn, .int (nI x)]) 3
  rw [← hav] at hent
  rw [hent]
  clear hent hav
  generalize (lg_sl ([.ref qn, .int (nI x)]) ++ List.replicate (3 - (lg_sl ([.ref qn, .int (nI x)])).length) Slot.unset).toArray = ls at hl ⊢
  have hl : lv_has ls 3 [(0, .ref qn), (1, .int (nI x))] := hl
  generalize hQ : MQ below _ args s 0 0 _ = Q
  have hP : va_P (gD G) vC [(qn, .inr (3, [.ref n1, .ref n2, .ref n3, .ref n4, .ref n5, .ref n6, .ref n7, .ref n8, .ref n9, .int (nI sa), .int (nI ol), .ref n10])), (n1, aI G 5 hh), (n2, aZ G 50 df)] s.heap := hP
  obtain ⟨H, hH⟩ : ∃ H : Heap, H = s.heap := ⟨_, rfl⟩
  obtain ⟨locs, hlc⟩ : ∃ L : List Loc, L = [] := ⟨_, rfl⟩
  have hS : va_S A s.heap H locs := by rw [hH, hlc]; exact hS
  have hP : va_P (gD G) vC [(qn, .inr (3, [.ref n1, .ref n2, .ref n3, .ref n4, .ref n5, .ref n6, .ref n7, .ref n8, .ref n9, .int (nI sa), .int (nI ol), .ref n10])), (n1, aI G 5 hh), (n2, aZ G 50 df)] H := by rw [hH]; exact hP
  have hgo : W p l e R s m args below meth c H locs 0 0 Q (F0 m 0 ls []) := by
    clear hH hlc
    refine lv_iload_n hx hb dN_define_0 rfl (lv_at hl 1 rfl) ?_
    refine lv_iconst (v := nI 1) hx hb dN_define_1 (by decide) ?_
    refine lv_ishr hx hb dN_define_2 ?_
    refine k_toi (y := nI (x / 2)) (pk_shrN (by omega) _ 1 (by decide)) ?_
    refine lv_istore_n (lv' := [(2, .int (nI (x / 2))), (0, .ref qn), (1, .int (nI x))]) hx hb dN_define_3 rfl hl (by decide) rfl (fun ls hl => ?_)
    refine lv_aload_n hx hb dN_define_4 rfl (lv_at hl 1 rfl) ?_
    refine lv_iload_n hx hb dN_define_5 rfl (lv_at hl 2 rfl) ?_
    refine k_i (ws2 := fun u => [(qn, .inr (3, [.ref n1, .ref n2, .ref n3, .ref n4, .ref n5, .ref n6, .ref n7, .ref n8, .ref n9, .int (nI sa), .int (nI ol), .ref n10])), (n1, aI G 5 hh), (n2, aZ G 50 df)]) (wr := [(n2, aZ G 50 df)]) (k_runV (n := 1) (As := [.int (nI x)]) (rest := []) hx hb hml hown htb hP hD hK hS hA hE (k_N_isLiteral l G H.size qn n1 n2 n3 n4 n5 n6 n7 n8 n9 n10 sa ol hh x (show x < 100 from by omega) (show hh 0 < 100 from by omega)) b282 b284 s6 b3 b285 (by decide +kernel) rfl rfl ⟨by rw [hRf]; exact Nat.le_of_ble_eq_true rfl, by rw [hRl]; exact Nat.le_of_ble_eq_true rfl⟩ [0, 1] rfl (by decide) 0 rfl rfl rfl rfl hl.1 rfl (Nat.le_of_ble_eq_true rfl) dN_define_6 ⟨Nat.zero_le _, Nat.zero_le _⟩) hP hD hS hA [0, 1] [2] [1, 2, 0] rfl rfl (by decide) (by decide) (fun u => rfl) (by decide) (fun r u H locs hw hP hD hS => ?_)
    rcases hw with ⟨hc6_e, rfl, rfl⟩ | ⟨hc6_e, rfl, rfl⟩
    · skip
      have hP : va_P (gD G) vC [(qn, .inr (3, [.ref n1, .ref n2, .ref n3, .ref n4, .ref n5, .ref n6, .ref n7, .ref n8, .ref n9, .int (nI sa), .int (nI ol), .ref n10])), (n1, aI G 5 hh), (n2, aZ G 50 df)] H := hP
      have hD : va_D A [(qn, .inr (3, [.ref n1, .ref n2, .ref n3, .ref n4, .ref n5, .ref n6, .ref n7, .ref n8, .ref n9, .int (nI sa), .int (nI ol), .ref n10])), (n1, aI G 5 hh), (n2, aZ G 50 df)] := hD
      refine lv_if_eq (tgt := 31) hx hb dN_define_9 rfl (fun h9 => (by revert h9; first | decide | exact fun z => absurd z (by decide) | exact fun z => z.elim (by decide))) (fun _ => ?_)
      refine lv_iload_n hx hb dN_define_12 rfl (lv_at hl 0 rfl) ?_
      refine lv_if_eq (tgt := 31) hx hb dN_define_13 rfl (fun h13 => ?_) (fun h13 => ?_)
      · have h13 : x / 2 = 0 := (nI_eq (a := x / 2) (b := 0) (by omega) (by omega)).mp h13
        refine lv_iconst (v := nI 0) hx hb dN_define_31 (by decide) ?_
        -- end 0
        rw [← hQ]
        exact k_iret hx hb hr hlocks (by decide) (u := df) (Or.inr ⟨fun z => by omega, rfl, rfl⟩) hP hD hK hS dN_define_32
      · have h13 : ¬ x / 2 = 0 := fun z => h13 ((nI_eq (a := x / 2) (b := 0) (by omega) (by omega)).mpr z)
        refine lv_iload_n hx hb dN_define_16 rfl (lv_at hl 2 rfl) ?_
        refine lv_iconst (v := nI 1) hx hb dN_define_17 (by decide) ?_
        refine lv_iand hx hb dN_define_18 ?_
        refine k_toi (y := nI (x % 2)) (pk_andN (by omega) 1 (by decide)) ?_
        refine lv_if_ne (tgt := 31) hx hb dN_define_19 rfl (fun h19 => ?_) (fun h19 => ?_)
        · have h19 : ¬ x % 2 = 0 := fun z => h19 ((nI_eq (a := x % 2) (b := 0) (by omega) (by omega)).mpr z)
          refine lv_iconst (v := nI 0) hx hb dN_define_31 (by decide) ?_
          -- end 1
          rw [← hQ]
          exact k_iret hx hb hr hlocks (by decide) (u := df) (Or.inr ⟨fun z => by omega, rfl, rfl⟩) hP hD hK hS dN_define_32
        · have h19 : x % 2 = 0 := (nI_eq (a := x % 2) (b := 0) (by omega) (by omega)).mp h19
          refine lv_aload_n hx hb dN_define_22 rfl (lv_at hl 1 rfl) ?_
          refine va_get (D := gD G) (ci := 3) (v := .ref n2) (C := "CircuitProver$Netlist") (T := TN) (N := 12) hx hb htb inN hown hK hP 0 rfl rfl 1 (by decide) (htb _ b57) (fun _ h9 => h9) rfl dN_define_23 ?_
          refine lv_iload_n hx hb dN_define_26 rfl (lv_at hl 0 rfl) ?_
          refine k_zald hx hb hK hP 2 rfl (k := x / 2) (by omega) (by decide) dN_define_27 ?_
          refine lv_if_eq (tgt := 33) hx hb dN_define_28 rfl (fun h28 => ?_) (fun h28 => ?_)
          · have h28 : df (x / 2) = false := zB_f h28
            refine lv_aload_n hx hb dN_define_33 rfl (lv_at hl 1 rfl) ?_
            refine va_get (D := gD G) (ci := 3) (v := .ref n2) (C := "CircuitProver$Netlist") (T := TN) (N := 12) hx hb htb inN hown hK hP 0 rfl rfl 1 (by decide) (htb _ b57) (fun _ h9 => h9) rfl dN_define_34 ?_
            refine lv_iload_n hx hb dN_define_37 rfl (lv_at hl 0 rfl) ?_
            refine lv_iconst (v := nI 1) hx hb dN_define_38 (by decide) ?_
            refine k_toi (y := zB true) (by decide) ?_
            refine k_zast hx hb hK hP hD hS 2 rfl (k := x / 2) (v := true) (by omega) (by decide) dN_define_39 (fun H locs hP hD hS => ?_)
            have hP : va_P (gD G) vC [(qn, .inr (3, [.ref n1, .ref n2, .ref n3, .ref n4, .ref n5, .ref n6, .ref n7, .ref n8, .ref n9, .int (nI sa), .int (nI ol), .ref n10])), (n1, aI G 5 hh), (n2, aZ G 50 (va_up df (x / 2) true))] H := hP
            have hD : va_D A [(qn, .inr (3, [.ref n1, .ref n2, .ref n3, .ref n4, .ref n5, .ref n6, .ref n7, .ref n8, .ref n9, .int (nI sa), .int (nI ol), .ref n10])), (n1, aI G 5 hh), (n2, aZ G 50 (va_up df (x / 2) true))] := hD
            refine lv_iconst (v := nI 1) hx hb dN_define_40 (by decide) ?_
            -- end 2
            rw [← hQ]
            exact k_iret hx hb hr hlocks (by decide) (u := (va_up df (x / 2) true)) (Or.inl ⟨⟨by omega, by omega, by omega, h28⟩, rfl, rfl⟩) hP hD hK hS dN_define_41
          · have h28 : df (x / 2) = true := zB_t h28
            refine lv_iconst (v := nI 0) hx hb dN_define_31 (by decide) ?_
            -- end 3
            rw [← hQ]
            exact k_iret hx hb hr hlocks (by decide) (u := df) (Or.inr ⟨fun z => by rw [h28] at z; simp at z, rfl, rfl⟩) hP hD hK hS dN_define_32
    · skip
      have hP : va_P (gD G) vC [(qn, .inr (3, [.ref n1, .ref n2, .ref n3, .ref n4, .ref n5, .ref n6, .ref n7, .ref n8, .ref n9, .int (nI sa), .int (nI ol), .ref n10])), (n1, aI G 5 hh), (n2, aZ G 50 df)] H := hP
      have hD : va_D A [(qn, .inr (3, [.ref n1, .ref n2, .ref n3, .ref n4, .ref n5, .ref n6, .ref n7, .ref n8, .ref n9, .int (nI sa), .int (nI ol), .ref n10])), (n1, aI G 5 hh), (n2, aZ G 50 df)] := hD
      refine lv_if_eq (tgt := 31) hx hb dN_define_9 rfl (fun _ => ?_) (fun h9 => (by revert h9; first | decide | exact fun z => absurd z (by decide) | exact fun z => z.elim (by decide)))
      refine lv_iconst (v := nI 0) hx hb dN_define_31 (by decide) ?_
      -- end 4
      rw [← hQ]
      exact k_iret hx hb hr hlocks (by decide) (u := df) (Or.inr ⟨fun z => hc6_e z.2.2.1, rfl, rfl⟩) hP hD hK hS dN_define_32
  rw [hH, hlc] at hgo
  exact hgo
set_option maxRecDepth 100000 in
set_option maxHeartbeats 4000000 in
theorem k_N_mention (l : Launch) (G : GG) (sz : Nat) (qn : Nat) (n1 : Nat) (n2 : Nat) (n3 : Nat) (n4 : Nat) (n5 : Nat) (n6 : Nat) (n7 : Nat) (n8 : Nat) (n9 : Nat) (n10 : Nat) (sa : Nat) (ol : Nat) (hh : Nat → Nat) (mt : Nat → Bool) (x : Nat) (hx0 : x < 100) (hh0 : hh 0 < 100) : Ki l yN_mention cN_mention 2 .boolean 1 21 G [.ref qn, .int (nI x)] [(qn, .inr (3, [.ref n1, .ref n2, .ref n3, .ref n4, .ref n5, .ref n6, .ref n7, .ref n8, .ref n9, .int (nI sa), .int (nI ol), .ref n10])), (n1, aI G 5 hh), (n3, aZ G 50 mt)] sz (fun (r : Int32) (u : (Nat → Bool)) => (x ≤ 2 * hh 0 + 1 ∧ nI 1 = r ∧ va_up mt (x / 2) true = u) ∨ (¬ x ≤ 2 * hh 0 + 1 ∧ nI 0 = r ∧ mt = u)) (fun (u : (Nat → Bool)) => [(qn, .inr (3, [.ref n1, .ref n2, .ref n3, .ref n4, .ref n5, .ref n6, .ref n7, .ref n8, .ref n9, .int (nI sa), .int (nI ol), .ref n10])), (n1, aI G 5 hh), (n3, aZ G 50 u)]) := by
  refine Met.ofW (cc := cN_mention) (maxL := 2) (ret := (some .boolean)) (by decide) rfl ?_
  intro p e s m args below meth c s₁ B hml hv
  obtain ⟨hav, hsz, hP, hK, hD0, hE⟩ := hv
  have hx := B.exec
  have hb := B.bytes
  have hr := B.returns
  have htb : ∀ w ∈ TB, w.before args s = true := fun w h => atoms_spec (ws := Cond.code yN_mention cN_mention 2 (some .boolean) :: TB) B.pre w (List.mem_cons_of_mem _ h)
  have hown : s.vm.findClass "CircuitProver$Netlist" = some m.cls := findClass_of_methodNamed B.named
  have hlocks := B.notSynchronized
  subst hsz
  have hD := hD0.self (sz := s.heap.size)
  clear hD0
  generalize hRm : (headSpec (Cond.code yN_mention cN_mention 2 (some .boolean) :: TB) { frames := 1, cells := 0, slots := 0, locals := 21 }).room = R
  have hRf : R.frames = 1 := by rw [← hRm]; rfl
  have hRl : R.locals = 21 := by rw [← hRm]; rfl
  have hRc : R.cells = 0 := by rw [← hRm]; rfl
  have hRs : R.slots = 0 := by rw [← hRm]; rfl
  clear hRm
  generalize hAe : va_A [(qn, .inr (3, [.ref n1, .ref n2, .ref n3, .ref n4, .ref n5, .ref n6, .ref n7, .ref n8, .ref n9, .int (nI sa), .int (nI ol), .ref n10])), (n1, aI G 5 hh), (n3, aZ G 50 mt)] s.heap.size = A at hD hE ⊢
  have hA : ∀ q : Nat, s.heap.size ≤ q → A q := fun q h => by rw [← hAe]; exact Or.inr h
  clear hAe
  have hS : va_S A s.heap s.heap [] := va_S.rf
  have hl := lv_entry ([.ref qn, .int (nI x)]) (n := 2) (Nat.le_of_ble_eq_true rfl)
  have hent := lg_entry_eq m ([.ref qn, .int (nI x)]) 2
  rw [← hav] at hent
  rw [hent]
  clear hent hav
  generalize (lg_sl ([.ref qn, .int (nI x)]) ++ List.replicate (2 - (lg_sl ([.ref qn, .int (nI x)])).length) Slot.unset).toArray = ls at hl ⊢
  have hl : lv_has ls 2 [(0, .ref qn), (1, .int (nI x))] := hl
  generalize hQ : MQ below _ args s 0 0 _ = Q
  have hP : va_P (gD G) vC [(qn, .inr (3, [.ref n1, .ref n2, .ref n3, .ref n4, .ref n5, .ref n6, .ref n7, .ref n8, .ref n9, .int (nI sa), .int (nI ol), .ref n10])), (n1, aI G 5 hh), (n3, aZ G 50 mt)] s.heap := hP
  obtain ⟨H, hH⟩ : ∃ H : Heap, H = s.heap := ⟨_, rfl⟩
  obtain ⟨locs, hlc⟩ : ∃ L : List Loc, L = [] := ⟨_, rfl⟩
  have hS : va_S A s.heap H locs := by rw [hH, hlc]; exact hS
  have hP : va_P (gD G) vC [(qn, .inr (3, [.ref n1, .ref n2, .ref n3, .ref n4, .ref n5, .ref n6, .ref n7, .ref n8, .ref n9, .int (nI sa), .int (nI ol), .ref n10])), (n1, aI G 5 hh), (n3, aZ G 50 mt)] H := by rw [hH]; exact hP
  have hgo : W p l e R s m args below meth c H locs 0 0 Q (F0 m 0 ls []) := by
    clear hH hlc
    refine lv_aload_n hx hb dN_mention_0 rfl (lv_at hl 0 rfl) ?_
    refine lv_iload_n hx hb dN_mention_1 rfl (lv_at hl 1 rfl) ?_
    refine k_i (ws2 := fun u => [(qn, .inr (3, [.ref n1, .ref n2, .ref n3, .ref n4, .ref n5, .ref n6, .ref n7, .ref n8, .ref n9, .int (nI sa), .int (nI ol), .ref n10])), (n1, aI G 5 hh), (n3, aZ G 50 mt)]) (wr := [(n3, aZ G 50 mt)]) (k_runV (n := 1) (As := [.int (nI x)]) (rest := []) hx hb hml hown htb hP hD hK hS hA hE (k_N_isLiteral l G H.size qn n1 n2 n3 n4 n5 n6 n7 n8 n9 n10 sa ol hh x (show x < 100 from by omega) (show hh 0 < 100 from by omega)) b282 b284 s6 b3 b285 (by decide +kernel) rfl rfl ⟨by rw [hRf]; exact Nat.le_of_ble_eq_true rfl, by rw [hRl]; exact Nat.le_of_ble_eq_true rfl⟩ [0, 1] rfl (by decide) 0 rfl rfl rfl rfl hl.1 rfl (Nat.le_of_ble_eq_true rfl) dN_mention_2 ⟨Nat.zero_le _, Nat.zero_le _⟩) hP hD hS hA [0, 1] [2] [1, 2, 0] rfl rfl (by decide) (by decide) (fun u => rfl) (by decide) (fun r u H locs hw hP hD hS => ?_)
    rcases hw with ⟨hc2_e, rfl, rfl⟩ | ⟨hc2_e, rfl, rfl⟩
    · skip
      have hP : va_P (gD G) vC [(qn, .inr (3, [.ref n1, .ref n2, .ref n3, .ref n4, .ref n5, .ref n6, .ref n7, .ref n8, .ref n9, .int (nI sa), .int (nI ol), .ref n10])), (n1, aI G 5 hh), (n3, aZ G 50 mt)] H := hP
      have hD : va_D A [(qn, .inr (3, [.ref n1, .ref n2, .ref n3, .ref n4, .ref n5, .ref n6, .ref n7, .ref n8, .ref n9, .int (nI sa), .int (nI ol), .ref n10])), (n1, aI G 5 hh), (n3, aZ G 50 mt)] := hD
      refine lv_if_ne (tgt := 10) hx hb dN_mention_5 rfl (fun _ => ?_) (fun h5 => (by revert h5; first | decide | exact fun z => absurd z (by decide) | exact fun z => z.elim (by decide)))
      refine lv_aload_n hx hb dN_mention_10 rfl (lv_at hl 0 rfl) ?_
      refine va_get (D := gD G) (ci := 3) (v := .ref n3) (C := "CircuitProver$Netlist") (T := TN) (N := 12) hx hb htb inN hown hK hP 0 rfl rfl 2 (by decide) (htb _ b58) (fun _ h9 => h9) rfl dN_mention_11 ?_
      refine lv_iload_n hx hb dN_mention_14 rfl (lv_at hl 1 rfl) ?_
      refine lv_iconst (v := nI 1) hx hb dN_mention_15 (by decide) ?_
      refine lv_ishr hx hb dN_mention_16 ?_
      refine k_toi (y := nI (x / 2)) (pk_shrN (by omega) _ 1 (by decide)) ?_
      refine lv_iconst (v := nI 1) hx hb dN_mention_17 (by decide) ?_
      refine k_toi (y := zB true) (by decide) ?_
      refine k_zast hx hb hK hP hD hS 2 rfl (k := x / 2) (v := true) (by omega) (by decide) dN_mention_18 (fun H locs hP hD hS => ?_)
      have hP : va_P (gD G) vC [(qn, .inr (3, [.ref n1, .ref n2, .ref n3, .ref n4, .ref n5, .ref n6, .ref n7, .ref n8, .ref n9, .int (nI sa), .int (nI ol), .ref n10])), (n1, aI G 5 hh), (n3, aZ G 50 (va_up mt (x / 2) true))] H := hP
      have hD : va_D A [(qn, .inr (3, [.ref n1, .ref n2, .ref n3, .ref n4, .ref n5, .ref n6, .ref n7, .ref n8, .ref n9, .int (nI sa), .int (nI ol), .ref n10])), (n1, aI G 5 hh), (n3, aZ G 50 (va_up mt (x / 2) true))] := hD
      refine lv_iconst (v := nI 1) hx hb dN_mention_19 (by decide) ?_
      -- end 0
      rw [← hQ]
      exact k_iret hx hb hr hlocks (by decide) (u := (va_up mt (x / 2) true)) (Or.inl ⟨hc2_e, rfl, rfl⟩) hP hD hK hS dN_mention_20
    · skip
      have hP : va_P (gD G) vC [(qn, .inr (3, [.ref n1, .ref n2, .ref n3, .ref n4, .ref n5, .ref n6, .ref n7, .ref n8, .ref n9, .int (nI sa), .int (nI ol), .ref n10])), (n1, aI G 5 hh), (n3, aZ G 50 mt)] H := hP
      have hD : va_D A [(qn, .inr (3, [.ref n1, .ref n2, .ref n3, .ref n4, .ref n5, .ref n6, .ref n7, .ref n8, .ref n9, .int (nI sa), .int (nI ol), .ref n10])), (n1, aI G 5 hh), (n3, aZ G 50 mt)] := hD
      refine lv_if_ne (tgt := 10) hx hb dN_mention_5 rfl (fun h5 => (by revert h5; first | decide | exact fun z => absurd z (by decide) | exact fun z => z.elim (by decide))) (fun _ => ?_)
      refine lv_iconst (v := nI 0) hx hb dN_mention_8 (by decide) ?_
      -- end 1
      rw [← hQ]
      exact k_iret hx hb hr hlocks (by decide) (u := mt) (Or.inr ⟨hc2_e, rfl, rfl⟩) hP hD hK hS dN_mention_9
  rw [hH, hlc] at hgo
  exact hgo
set_option maxRecDepth 100000 in
set_option maxHeartbeats 4000000 in
theorem k_N_allMentionedAreDefined (l : Launch) (G : GG) (sz : Nat) (qn : Nat) (n1 : Nat) (n2 : Nat) (n3 : Nat) (n4 : Nat) (n5 : Nat) (n6 : Nat) (n7 : Nat) (n8 : Nat) (n9 : Nat) (n10 : Nat) (sa : Nat) (ol : Nat) (df : Nat → Bool) (mt : Nat → Bool) : Ki l yN_allMentionedAreDefined cN_allMentionedAreDefined 2 .boolean 0 0 G [.ref qn] [(qn, .inr (3, [.ref n1, .ref n2, .ref n3, .ref n4, .ref n5, .ref n6, .ref n7, .ref n8, .ref n9, .int (nI sa), .int (nI ol), .ref n10])), (n2, aZ G 50 df), (n3, aZ G 50 mt)] sz (fun (r : Int32) (u : Unit) => ((∀ v, 1 ≤ v → v < 50 → mt v = true → df v = true) ∧ nI 1 = r ∧ () = u) ∨ (∃ (v : Nat), (1 ≤ v ∧ v < 50 ∧ mt v = true ∧ df v = false) ∧ nI 0 = r ∧ () = u)) (fun (u : Unit) => [(qn, .inr (3, [.ref n1, .ref n2, .ref n3, .ref n4, .ref n5, .ref n6, .ref n7, .ref n8, .ref n9, .int (nI sa), .int (nI ol), .ref n10])), (n2, aZ G 50 df), (n3, aZ G 50 mt)]) := by
  refine Met.ofW (cc := cN_allMentionedAreDefined) (maxL := 2) (ret := (some .boolean)) (by decide) rfl ?_
  intro p e s m args below meth c s₁ B hml hv
  obtain ⟨hav, hsz, hP, hK, hD0, hE⟩ := hv
  have hx := B.exec
  have hb := B.bytes
  have hr := B.returns
  have htb : ∀ w ∈ TB, w.before args s = true := fun w h => atoms_spec (ws := Cond.code yN_allMentionedAreDefined cN_allMentionedAreDefined 2 (some .boolean) :: TB) B.pre w (List.mem_cons_of_mem _ h)
  have hown : s.vm.findClass "CircuitProver$Netlist" = some m.cls := findClass_of_methodNamed B.named
  have hlocks := B.notSynchronized
  subst hsz
  have hD := hD0.self (sz := s.heap.size)
  clear hD0
  generalize hRm : (headSpec (Cond.code yN_allMentionedAreDefined cN_allMentionedAreDefined 2 (some .boolean) :: TB) { frames := 0, cells := 0, slots := 0, locals := 0 }).room = R
  have hRf : R.frames = 0 := by rw [← hRm]; rfl
  have hRl : R.locals = 0 := by rw [← hRm]; rfl
  have hRc : R.cells = 0 := by rw [← hRm]; rfl
  have hRs : R.slots = 0 := by rw [← hRm]; rfl
  clear hRm
  generalize hAe : va_A [(qn, .inr (3, [.ref n1, .ref n2, .ref n3, .ref n4, .ref n5, .ref n6, .ref n7, .ref n8, .ref n9, .int (nI sa), .int (nI ol), .ref n10])), (n2, aZ G 50 df), (n3, aZ G 50 mt)] s.heap.size = A at hD hE ⊢
  have hA : ∀ q : Nat, s.heap.size ≤ q → A q := fun q h => by rw [← hAe]; exact Or.inr h
  clear hAe
  have hS : va_S A s.heap s.heap [] := va_S.rf
  have hl := lv_entry ([.ref qn]) (n := 2) (Nat.le_of_ble_eq_true rfl)
  have hent := lg_entry_eq m ([.ref qn]) 2
  rw [← hav] at hent
  rw [hent]
  clear hent hav
  generalize (lg_sl ([.ref qn]) ++ List.replicate (2 - (lg_sl ([.ref qn])).length) Slot.unset).toArray = ls at hl ⊢
  have hl : lv_has ls 2 [(0, .ref qn)] := hl
  generalize hQ : MQ below _ args s 0 0 _ = Q
  have hP : va_P (gD G) vC [(qn, .inr (3, [.ref n1, .ref n2, .ref n3, .ref n4, .ref n5, .ref n6, .ref n7, .ref n8, .ref n9, .int (nI sa), .int (nI ol), .ref n10])), (n2, aZ G 50 df), (n3, aZ G 50 mt)] s.heap := hP
  obtain ⟨H, hH⟩ : ∃ H : Heap, H = s.heap := ⟨_, rfl⟩
  obtain ⟨locs, hlc⟩ : ∃ L : List Loc, L = [] := ⟨_, rfl⟩
  have hS : va_S A s.heap H locs := by rw [hH, hlc]; exact hS
  have hP : va_P (gD G) vC [(qn, .inr (3, [.ref n1, .ref n2, .ref n3, .ref n4, .ref n5, .ref n6, .ref n7, .ref n8, .ref n9, .int (nI sa), .int (nI ol), .ref n10])), (n2, aZ G 50 df), (n3, aZ G 50 mt)] H := by rw [hH]; exact hP
  have hgo : W p l e R s m args below meth c H locs 0 0 Q (F0 m 0 ls []) := by
    clear hH hlc
    refine lv_iconst (v := nI 1) hx hb dN_allMentionedAreDefined_0 (by decide) ?_
    refine lv_istore_n (lv' := [(1, .int (nI 1)), (0, .ref qn)]) hx hb dN_allMentionedAreDefined_1 rfl hl (by decide) rfl (fun ls hl => ?_)
    have loop2 : ∀ (n : Nat) (v : Nat) (H : Heap) (locs : List Loc) (ls : Array Slot), 50 - v < n → (1 ≤ v ∧ v ≤ 50) → (∀ w, 1 ≤ w → w < v → mt w = true → df w = true) → va_P (gD G) vC [(qn, .inr (3, [.ref n1, .ref n2, .ref n3, .ref n4, .ref n5, .ref n6, .ref n7, .ref n8, .ref n9, .int (nI sa), .int (nI ol), .ref n10])), (n2, aZ G 50 df), (n3, aZ G 50 mt)] H → va_D A [(qn, .inr (3, [.ref n1, .ref n2, .ref n3, .ref n4, .ref n5, .ref n6, .ref n7, .ref n8, .ref n9, .int (nI sa), .int (nI ol), .ref n10])), (n2, aZ G 50 df), (n3, aZ G 50 mt)] → va_S A s.heap H locs → lv_has ls 2 [(0, .ref qn), (1, .int (nI v))] → W p l e R s m args below meth c H locs 0 0 Q (F0 m 2 ls []) := by
      intro n
      induction n with
      | zero => intro v H locs ls hmu; omega
      | succ n ih =>
        intro v H locs ls hmu hv ha hP hD hS hl
        have ih2 := ih
        clear ih
        refine lv_iload_n hx hb dN_allMentionedAreDefined_2 rfl (lv_at hl 1 rfl) ?_
        refine lv_bipush (v := nI 50) hx hb dN_allMentionedAreDefined_3 (by decide) ?_
        refine lv_icmp_ge (tgt := 34) hx hb dN_allMentionedAreDefined_5 rfl (fun h5 => ?_) (fun h5 => ?_)
        · have h5 : 50 ≤ v := (nI_leI (a := 50) (b := v) (by omega) (by omega)).mp h5
          refine lv_iconst (v := nI 1) hx hb dN_allMentionedAreDefined_34 (by decide) ?_
          -- end 0
          rw [← hQ]
          exact k_iret hx hb hr hlocks (by decide) (u := ()) (Or.inl ⟨fun w h1 h2 => ha w h1 (by omega), rfl, rfl⟩) hP hD hK hS dN_allMentionedAreDefined_35
        · have h5 : v < 50 := Nat.lt_of_not_le (fun z => h5 ((nI_leI (a := 50) (b := v) (by omega) (by omega)).mpr z))
          refine lv_aload_n hx hb dN_allMentionedAreDefined_8 rfl (lv_at hl 0 rfl) ?_
          refine va_get (D := gD G) (ci := 3) (v := .ref n3) (C := "CircuitProver$Netlist") (T := TN) (N := 12) hx hb htb inN hown hK hP 0 rfl rfl 2 (by decide) (htb _ b58) (fun _ h9 => h9) rfl dN_allMentionedAreDefined_9 ?_
          refine lv_iload_n hx hb dN_allMentionedAreDefined_12 rfl (lv_at hl 1 rfl) ?_
          refine k_zald hx hb hK hP 2 rfl (k := v) (by omega) (by decide) dN_allMentionedAreDefined_13 ?_
          refine lv_if_eq (tgt := 28) hx hb dN_allMentionedAreDefined_14 rfl (fun h14 => ?_) (fun h14 => ?_)
          · have h14 : mt v = false := zB_f h14
            refine lv_iinc (v := nI (v + 1)) (lv' := [(1, .int (nI (v + 1))), (0, .ref qn)]) hx hb dN_allMentionedAreDefined_28 hl (k := 1) rfl (nI_add _ 1) (by decide) rfl (fun ls hl => ?_)
            refine lv_goto (tgt := 2) hx hb dN_allMentionedAreDefined_31 rfl ?_
            have hl : lv_has ls 2 [(0, .ref qn), (1, .int (nI (v + 1)))] := lv_sub hl [1, 0] rfl
            exact ih2 (v + 1) _ _ _ (by omega) (by omega) (fun w h1 h2 h3 => by rcases Nat.lt_or_ge w v with h9 | h9; (exact ha w h1 h9 h3); (have e : w = v := by omega); subst e; first | exact h23 | (rw [h14] at h3; cases h3)) hP hD hS hl
          · have h14 : mt v = true := zB_t h14
            refine lv_aload_n hx hb dN_allMentionedAreDefined_17 rfl (lv_at hl 0 rfl) ?_
            refine va_get (D := gD G) (ci := 3) (v := .ref n2) (C := "CircuitProver$Netlist") (T := TN) (N := 12) hx hb htb inN hown hK hP 0 rfl rfl 1 (by decide) (htb _ b57) (fun _ h9 => h9) rfl dN_allMentionedAreDefined_18 ?_
            refine lv_iload_n hx hb dN_allMentionedAreDefined_21 rfl (lv_at hl 1 rfl) ?_
            refine k_zald hx hb hK hP 1 rfl (k := v) (by omega) (by decide) dN_allMentionedAreDefined_22 ?_
            refine lv_if_ne (tgt := 28) hx hb dN_allMentionedAreDefined_23 rfl (fun h23 => ?_) (fun h23 => ?_)
            · have h23 : df v = true := zB_t h23
              refine lv_iinc (v := nI (v + 1)) (lv' := [(1, .int (nI (v + 1))), (0, .ref qn)]) hx hb dN_allMentionedAreDefined_28 hl (k := 1) rfl (nI_add _ 1) (by decide) rfl (fun ls hl => ?_)
              refine lv_goto (tgt := 2) hx hb dN_allMentionedAreDefined_31 rfl ?_
              have hl : lv_has ls 2 [(0, .ref qn), (1, .int (nI (v + 1)))] := lv_sub hl [1, 0] rfl
              exact ih2 (v + 1) _ _ _ (by omega) (by omega) (fun w h1 h2 h3 => by rcases Nat.lt_or_ge w v with h9 | h9; (exact ha w h1 h9 h3); (have e : w = v := by omega); subst e; first | exact h23 | (rw [h14] at h3; cases h3)) hP hD hS hl
            · have h23 : df v = false := zB_f h23
              refine lv_iconst (v := nI 0) hx hb dN_allMentionedAreDefined_26 (by decide) ?_
              -- end 1
              rw [← hQ]
              exact k_iret hx hb hr hlocks (by decide) (u := ()) (Or.inr ⟨v, ⟨by omega, by omega, h14, h23⟩, rfl, rfl⟩) hP hD hK hS dN_allMentionedAreDefined_27
    have hl : lv_has ls 2 [(0, .ref qn), (1, .int (nI 1))] := lv_sub hl [1, 0] rfl
    exact loop2 (50 - 1 + 1) 1 _ _ _ (by omega) (by omega) (fun w h1 h2 => by omega) hP hD hS hl
  rw [hH, hlc] at hgo
  exact hgo
set_option maxRecDepth 100000 in
set_option maxHeartbeats 4000000 in
theorem k_N_forget (l : Launch) (G : GG) (sz : Nat) (qn : Nat) (n1 : Nat) (n2 : Nat) (n3 : Nat) (n4 : Nat) (n5 : Nat) (n6 : Nat) (n7 : Nat) (n8 : Nat) (n9 : Nat) (n10 : Nat) (sa : Nat) (ol : Nat) (df : Nat → Bool) (mt : Nat → Bool) (ig : Nat → Bool) : Kv l yN_forget cN_forget 2 0 0 0 0 G [.ref qn] [(qn, .inr (3, [.ref n1, .ref n2, .ref n3, .ref n4, .ref n5, .ref n6, .ref n7, .ref n8, .ref n9, .int (nI sa), .int (nI ol), .ref n10])), (n2, aZ G 50 df), (n3, aZ G 50 mt), (n4, aZ G 50 ig)] sz (fun (u : (Nat → Bool) × (Nat → Bool) × (Nat → Bool) × Nat × Nat) => (∃ (d1 : Nat → Bool), ∃ (m1 : Nat → Bool), ∃ (i1 : Nat → Bool), (∀ v, v < 50 → d1 v = false ∧ m1 v = false ∧ i1 v = false) ∧ (d1, m1, i1, 0, 0) = u)) (fun (u : (Nat → Bool) × (Nat → Bool) × (Nat → Bool) × Nat × Nat) => [(qn, .inr (3, [.ref n1, .ref n2, .ref n3, .ref n4, .ref n5, .ref n6, .ref n7, .ref n8, .ref n9, .int (nI u.2.2.2.1), .int (nI u.2.2.2.2), .ref n10])), (n2, aZ G 50 u.1), (n3, aZ G 50 u.2.1), (n4, aZ G 50 u.2.2.1)]) := by
  refine Met.ofW (cc := cN_forget) (maxL := 2) (ret := none) (by decide) rfl ?_
  intro p e s m args below meth c s₁ B hml hv
  obtain ⟨hav, hsz, hP, hK, hD0, hE⟩ := hv
  have hx := B.exec
  have hb := B.bytes
  have hr := B.returns
  have htb : ∀ w ∈ TB, w.before args s = true := fun w h => atoms_spec (ws := Cond.code yN_forget cN_forget 2 none :: TB) B.pre w (List.mem_cons_of_mem _ h)
  have hown : s.vm.findClass "CircuitProver$Netlist" = some m.cls := findClass_of_methodNamed B.named
  have hlocks := B.notSynchronized
  subst hsz
  have hD := hD0.self (sz := s.heap.size)
  clear hD0
  generalize hRm : (headSpec (Cond.code yN_forget cN_forget 2 none :: TB) { frames := 0, cells := 0, slots := 0, locals := 0 }).room = R
  have hRf : R.frames = 0 := by rw [← hRm]; rfl
  have hRl : R.locals = 0 := by rw [← hRm]; rfl
  have hRc : R.cells = 0 := by rw [← hRm]; rfl
  have hRs : R.slots = 0 := by rw [← hRm]; rfl
  clear hRm
  generalize hAe : va_A [(qn, .inr (3, [.ref n1, .ref n2, .ref n3, .ref n4, .ref n5, .ref n6, .ref n7, .ref n8, .ref n9, .int (nI sa), .int (nI ol), .ref n10])), (n2, aZ G 50 df), (n3, aZ G 50 mt), (n4, aZ G 50 ig)] s.heap.size = A at hD hE ⊢
  have hA : ∀ q : Nat, s.heap.size ≤ q → A q := fun q h => by rw [← hAe]; exact Or.inr h
  clear hAe
  have hS : va_S A s.heap s.heap [] := va_S.rf
  have hl := lv_entry ([.ref qn]) (n := 2) (Nat.le_of_ble_eq_true rfl)
  have hent := lg_entry_eq m ([.ref qn]) 2
  rw [← hav] at hent
  rw [hent]
  clear hent hav
  generalize (lg_sl ([.ref qn]) ++ List.replicate (2 - (lg_sl ([.ref qn])).length) Slot.unset).toArray = ls at hl ⊢
  have hl : lv_has ls 2 [(0, .ref qn)] := hl
  generalize hQ : MQ below _ args s 0 0 _ = Q
  have hP : va_P (gD G) vC [(qn, .inr (3, [.ref n1, .ref n2, .ref n3, .ref n4, .ref n5, .ref n6, .ref n7, .ref n8, .ref n9, .int (nI sa), .int (nI ol), .ref n10])), (n2, aZ G 50 df), (n3, aZ G 50 mt), (n4, aZ G 50 ig)] s.heap := hP
  obtain ⟨H, hH⟩ : ∃ H : Heap, H = s.heap := ⟨_, rfl⟩
  obtain ⟨locs, hlc⟩ : ∃ L : List Loc, L = [] := ⟨_, rfl⟩
  have hS : va_S A s.heap H locs := by rw [hH, hlc]; exact hS
  have hP : va_P (gD G) vC [(qn, .inr (3, [.ref n1, .ref n2, .ref n3, .ref n4, .ref n5, .ref n6, .ref n7, .ref n8, .ref n9, .int (nI sa), .int (nI ol), .ref n10])), (n2, aZ G 50 df), (n3, aZ G 50 mt), (n4, aZ G 50 ig)] H := by rw [hH]; exact hP
  have hgo : W p l e R s m args below meth c H locs 0 0 Q (F0 m 0 ls []) := by
    clear hH hlc
    refine lv_iconst (v := nI 0) hx hb dN_forget_0 (by decide) ?_
    refine lv_istore_n (lv' := [(1, .int (nI 0)), (0, .ref qn)]) hx hb dN_forget_1 rfl hl (by decide) rfl (fun ls hl => ?_)
    have loop2 : ∀ (n : Nat) (v : Nat) (d1 : Nat → Bool) (m1 : Nat → Bool) (i1 : Nat → Bool) (H : Heap) (locs : List Loc) (ls : Array Slot), 50 - v < n → (v ≤ 50) → (∀ w, w < v → d1 w = false ∧ m1 w = false ∧ i1 w = false) → va_P (gD G) vC [(qn, .inr (3, [.ref n1, .ref n2, .ref n3, .ref n4, .ref n5, .ref n6, .ref n7, .ref n8, .ref n9, .int (nI sa), .int (nI ol), .ref n10])), (n2, aZ G 50 d1), (n3, aZ G 50 m1), (n4, aZ G 50 i1)] H → va_D A [(qn, .inr (3, [.ref n1, .ref n2, .ref n3, .ref n4, .ref n5, .ref n6, .ref n7, .ref n8, .ref n9, .int (nI sa), .int (nI ol), .ref n10])), (n2, aZ G 50 d1), (n3, aZ G 50 m1), (n4, aZ G 50 i1)] → va_S A s.heap H locs → lv_has ls 2 [(0, .ref qn), (1, .int (nI v))] → W p l e R s m args below meth c H locs 0 0 Q (F0 m 2 ls []) := by
      intro n
      induction n with
      | zero => intro v d1 m1 i1 H locs ls hmu; omega
      | succ n ih =>
        intro v d1 m1 i1 H locs ls hmu hv ha hP hD hS hl
        have ih2 := ih
        clear ih
        refine lv_iload_n hx hb dN_forget_2 rfl (lv_at hl 1 rfl) ?_
        refine lv_bipush (v := nI 50) hx hb dN_forget_3 (by decide) ?_
        refine lv_icmp_ge (tgt := 35) hx hb dN_forget_5 rfl (fun h5 => ?_) (fun h5 => ?_)
        · have h5 : 50 ≤ v := (nI_leI (a := 50) (b := v) (by omega) (by omega)).mp h5
          refine lv_aload_n hx hb dN_forget_35 rfl (lv_at hl 0 rfl) ?_
          refine lv_iconst (v := nI 0) hx hb dN_forget_36 (by decide) ?_
          refine va_put (D := gD G) (ci := 3) (v := .int (nI 0)) (ty := tyN 9) (C := "CircuitProver$Netlist") (T := TN) (N := 12) hx hb htb inN tyN tyN_ok nmN hown hK hP hD hS 0 rfl rfl 9 (by decide) (htb _ b67) (fun _ h9 => h9) rfl (tyN_ok 9 (by decide)) rfl rfl (Nat.le_of_ble_eq_true rfl) dN_forget_37 (fun H locs hP hD hS => ?_)
          have hP : va_P (gD G) vC [(qn, .inr (3, [.ref n1, .ref n2, .ref n3, .ref n4, .ref n5, .ref n6, .ref n7, .ref n8, .ref n9, .int (nI 0), .int (nI ol), .ref n10])), (n2, aZ G 50 d1), (n3, aZ G 50 m1), (n4, aZ G 50 i1)] H := hP
          have hD : va_D A [(qn, .inr (3, [.ref n1, .ref n2, .ref n3, .ref n4, .ref n5, .ref n6, .ref n7, .ref n8, .ref n9, .int (nI 0), .int (nI ol), .ref n10])), (n2, aZ G 50 d1), (n3, aZ G 50 m1), (n4, aZ G 50 i1)] := hD
          refine lv_aload_n hx hb dN_forget_40 rfl (lv_at hl 0 rfl) ?_
          refine lv_iconst (v := nI 0) hx hb dN_forget_41 (by decide) ?_
          refine va_put (D := gD G) (ci := 3) (v := .int (nI 0)) (ty := tyN 10) (C := "CircuitProver$Netlist") (T := TN) (N := 12) hx hb htb inN tyN tyN_ok nmN hown hK hP hD hS 0 rfl rfl 10 (by decide) (htb _ b69) (fun _ h9 => h9) rfl (tyN_ok 10 (by decide)) rfl rfl (Nat.le_of_ble_eq_true rfl) dN_forget_42 (fun H locs hP hD hS => ?_)
          have hP : va_P (gD G) vC [(qn, .inr (3, [.ref n1, .ref n2, .ref n3, .ref n4, .ref n5, .ref n6, .ref n7, .ref n8, .ref n9, .int (nI 0), .int (nI 0), .ref n10])), (n2, aZ G 50 d1), (n3, aZ G 50 m1), (n4, aZ G 50 i1)] H := hP
          have hD : va_D A [(qn, .inr (3, [.ref n1, .ref n2, .ref n3, .ref n4, .ref n5, .ref n6, .ref n7, .ref n8, .ref n9, .int (nI 0), .int (nI 0), .ref n10])), (n2, aZ G 50 d1), (n3, aZ G 50 m1), (n4, aZ G 50 i1)] := hD
          -- end 0
          rw [← hQ]
          exact k_vret hx hb hr hlocks (u := (d1, m1, i1, 0, 0)) (⟨d1, m1, i1, fun w h => ha w (by omega), rfl⟩) hP hD hK hS dN_forget_45
        · have h5 : v < 50 := Nat.lt_of_not_le (fun z => h5 ((nI_leI (a := 50) (b := v) (by omega) (by omega)).mpr z))
          refine lv_aload_n hx hb dN_forget_8 rfl (lv_at hl 0 rfl) ?_
          refine va_get (D := gD G) (ci := 3) (v := .ref n2) (C := "CircuitProver$Netlist") (T := TN) (N := 12) hx hb htb inN hown hK hP 0 rfl rfl 1 (by decide) (htb _ b57) (fun _ h9 => h9) rfl dN_forget_9 ?_
          refine lv_iload_n hx hb dN_forget_12 rfl (lv_at hl 1 rfl) ?_
          refine lv_iconst (v := nI 0) hx hb dN_forget_13 (by decide) ?_
          refine k_toi (y := zB false) (by decide) ?_
          refine k_zast hx hb hK hP hD hS 1 rfl (k := v) (v := false) (by omega) (by decide) dN_forget_14 (fun H locs hP hD hS => ?_)
          have hP : va_P (gD G) vC [(qn, .inr (3, [.ref n1, .ref n2, .ref n3, .ref n4, .ref n5, .ref n6, .ref n7, .ref n8, .ref n9, .int (nI sa), .int (nI ol), .ref n10])), (n2, aZ G 50 (va_up d1 v false)), (n3, aZ G 50 m1), (n4, aZ G 50 i1)] H := hP
          have hD : va_D A [(qn, .inr (3, [.ref n1, .ref n2, .ref n3, .ref n4, .ref n5, .ref n6, .ref n7, .ref n8, .ref n9, .int (nI sa), .int (nI ol), .ref n10])), (n2, aZ G 50 (va_up d1 v false)), (n3, aZ G 50 m1), (n4, aZ G 50 i1)] := hD
          refine lv_aload_n hx hb dN_forget_15 rfl (lv_at hl 0 rfl) ?_
          refine va_get (D := gD G) (ci := 3) (v := .ref n3) (C := "CircuitProver$Netlist") (T := TN) (N := 12) hx hb htb inN hown hK hP 0 rfl rfl 2 (by decide) (htb _ b58) (fun _ h9 => h9) rfl dN_forget_16 ?_
          refine lv_iload_n hx hb dN_forget_19 rfl (lv_at hl 1 rfl) ?_
          refine lv_iconst (v := nI 0) hx hb dN_forget_20 (by decide) ?_
          refine k_toi (y := zB false) (by decide) ?_
          refine k_zast hx hb hK hP hD hS 2 rfl (k := v) (v := false) (by omega) (by decide) dN_forget_21 (fun H locs hP hD hS => ?_)
          have hP : va_P (gD G) vC [(qn, .inr (3, [.ref n1, .ref n2, .ref n3, .ref n4, .ref n5, .ref n6, .ref n7, .ref n8, .ref n9, .int (nI sa), .int (nI ol), .ref n10])), (n2, aZ G 50 (va_up d1 v false)), (n3, aZ G 50 (va_up m1 v false)), (n4, aZ G 50 i1)] H := hP
          have hD : va_D A [(qn, .inr (3, [.ref n1, .ref n2, .ref n3, .ref n4, .ref n5, .ref n6, .ref n7, .ref n8, .ref n9, .int (nI sa), .int (nI ol), .ref n10])), (n2, aZ G 50 (va_up d1 v false)), (n3, aZ G 50 (va_up m1 v false)), (n4, aZ G 50 i1)] := hD
          refine lv_aload_n hx hb dN_forget_22 rfl (lv_at hl 0 rfl) ?_
          refine va_get (D := gD G) (ci := 3) (v := .ref n4) (C := "CircuitProver$Netlist") (T := TN) (N := 12) hx hb htb inN hown hK hP 0 rfl rfl 3 (by decide) (htb _ b59) (fun _ h9 => h9) rfl dN_forget_23 ?_
          refine lv_iload_n hx hb dN_forget_26 rfl (lv_at hl 1 rfl) ?_
          refine lv_iconst (v := nI 0) hx hb dN_forget_27 (by decide) ?_
          refine k_toi (y := zB false) (by decide) ?_
          refine k_zast hx hb hK hP hD hS 3 rfl (k := v) (v := false) (by omega) (by decide) dN_forget_28 (fun H locs hP hD hS => ?_)
          have hP : va_P (gD G) vC [(qn, .inr (3, [.ref n1, .ref n2, .ref n3, .ref n4, .ref n5, .ref n6, .ref n7, .ref n8, .ref n9, .int (nI sa), .int (nI ol), .ref n10])), (n2, aZ G 50 (va_up d1 v false)), (n3, aZ G 50 (va_up m1 v false)), (n4, aZ G 50 (va_up i1 v false))] H := hP
          have hD : va_D A [(qn, .inr (3, [.ref n1, .ref n2, .ref n3, .ref n4, .ref n5, .ref n6, .ref n7, .ref n8, .ref n9, .int (nI sa), .int (nI ol), .ref n10])), (n2, aZ G 50 (va_up d1 v false)), (n3, aZ G 50 (va_up m1 v false)), (n4, aZ G 50 (va_up i1 v false))] := hD
          refine lv_iinc (v := nI (v + 1)) (lv' := [(1, .int (nI (v + 1))), (0, .ref qn)]) hx hb dN_forget_29 hl (k := 1) rfl (nI_add _ 1) (by decide) rfl (fun ls hl => ?_)
          refine lv_goto (tgt := 2) hx hb dN_forget_32 rfl ?_
          have hl : lv_has ls 2 [(0, .ref qn), (1, .int (nI (v + 1)))] := lv_sub hl [1, 0] rfl
          exact ih2 (v + 1) (va_up d1 v false) (va_up m1 v false) (va_up i1 v false) _ _ _ (by omega) (by omega) (fun w h1 => by by_cases e : w = v; (subst e; rw [va_up_self, va_up_self, va_up_self]; exact ⟨rfl, rfl, rfl⟩); (rw [va_up_ne _ _ e, va_up_ne _ _ e, va_up_ne _ _ e]; exact ha w (by omega))) hP hD hS hl
    have hl : lv_has ls 2 [(0, .ref qn), (1, .int (nI 0))] := lv_sub hl [1, 0] rfl
    exact loop2 (50 - 0 + 1) 0 df mt ig _ _ _ (by omega) (by omega) (fun w h => absurd h (Nat.not_lt_zero w)) hP hD hS hl
  rw [hH, hlc] at hgo
  exact hgo
set_option maxRecDepth 100000 in
set_option maxHeartbeats 4000000 in
theorem k_N_isSmall (l : Launch) (G : GG) (sz : Nat) (qn : Nat) (n1 : Nat) (n2 : Nat) (n3 : Nat) (n4 : Nat) (n5 : Nat) (n6 : Nat) (n7 : Nat) (n8 : Nat) (n9 : Nat) (n10 : Nat) (sa : Nat) (ol : Nat) (hh : Nat → Nat) (hh0 : ∀ c, c < 5 → hh c < 100) : Ki l yN_isSmall cN_isSmall 1 .boolean 0 0 G [.ref qn] [(qn, .inr (3, [.ref n1, .ref n2, .ref n3, .ref n4, .ref n5, .ref n6, .ref n7, .ref n8, .ref n9, .int (nI sa), .int (nI ol), .ref n10])), (n1, aI G 5 hh)] sz (fun (r : Int32) (u : Unit) => ((hh 1 ≤ 3 ∧ hh 2 ≤ 6 ∧ hh 3 = 1 ∧ hh 4 ≤ 20) ∧ nI 1 = r ∧ () = u) ∨ ((¬ (hh 1 ≤ 3 ∧ hh 2 ≤ 6 ∧ hh 3 = 1 ∧ hh 4 ≤ 20)) ∧ nI 0 = r ∧ () = u)) (fun (u : Unit) => [(qn, .inr (3, [.ref n1, .ref n2, .ref n3, .ref n4, .ref n5, .ref n6, .ref n7, .ref n8, .ref n9, .int (nI sa), .int (nI ol), .ref n10])), (n1, aI G 5 hh)]) := by
  refine Met.ofW (cc := cN_isSmall) (maxL := 1) (ret := (some .boolean)) (by decide) rfl ?_
  intro p e s m args below meth c s₁ B hml hv
  obtain ⟨hav, hsz, hP, hK, hD0, hE⟩ := hv
  have hx := B.exec
  have hb := B.bytes
  have hr := B.returns
  have htb : ∀ w ∈ TB, w.before args s = true := fun w h => atoms_spec (ws := Cond.code yN_isSmall cN_isSmall 1 (some .boolean) :: TB) B.pre w (List.mem_cons_of_mem _ h)
  have hown : s.vm.findClass "CircuitProver$Netlist" = some m.cls := findClass_of_methodNamed B.named
  have hlocks := B.notSynchronized
  subst hsz
  have hD := hD0.self (sz := s.heap.size)
  clear hD0
  generalize hRm : (headSpec (Cond.code yN_isSmall cN_isSmall 1 (some .boolean) :: TB) { frames := 0, cells := 0, slots := 0, locals := 0 }).room = R
  have hRf : R.frames = 0 := by rw [← hRm]; rfl
  have hRl : R.locals = 0 := by rw [← hRm]; rfl
  have hRc : R.cells = 0 := by rw [← hRm]; rfl
  have hRs : R.slots = 0 := by rw [← hRm]; rfl
  clear hRm
  generalize hAe : va_A [(qn, .inr (3, [.ref n1, .ref n2, .ref n3, .ref n4, .ref n5, .ref n6, .ref n7, .ref n8, .ref n9, .int (nI sa), .int (nI ol), .ref n10])), (n1, aI G 5 hh)] s.heap.size = A at hD hE ⊢
  have hA : ∀ q : Nat, s.heap.size ≤ q → A q := fun q h => by rw [← hAe]; exact Or.inr h
  clear hAe
  have hS : va_S A s.heap s.heap [] := va_S.rf
  have hl := lv_entry ([.ref qn]) (n := 1) (Nat.le_of_ble_eq_true rfl)
  have hent := lg_entry_eq m ([.ref qn]) 1
  rw [← hav] at hent
  rw [hent]
  clear hent hav
  generalize (lg_sl ([.ref qn]) ++ List.replicate (1 - (lg_sl ([.ref qn])).length) Slot.unset).toArray = ls at hl ⊢
  have hl : lv_has ls 1 [(0, .ref qn)] := hl
  generalize hQ : MQ below _ args s 0 0 _ = Q
  have hP : va_P (gD G) vC [(qn, .inr (3, [.ref n1, .ref n2, .ref n3, .ref n4, .ref n5, .ref n6, .ref n7, .ref n8, .ref n9, .int (nI sa), .int (nI ol), .ref n10])), (n1, aI G 5 hh)] s.heap := hP
  obtain ⟨H, hH⟩ : ∃ H : Heap, H = s.heap := ⟨_, rfl⟩
  obtain ⟨locs, hlc⟩ : ∃ L : List Loc, L = [] := ⟨_, rfl⟩
  have hS : va_S A s.heap H locs := by rw [hH, hlc]; exact hS
  have hP : va_P (gD G) vC [(qn, .inr (3, [.ref n1, .ref n2, .ref n3, .ref n4, .ref n5, .ref n6, .ref n7, .ref n8, .ref n9, .int (nI sa), .int (nI ol), .ref n10])), (n1, aI G 5 hh)] H := by rw [hH]; exact hP
  have hgo : W p l e R s m args below meth c H locs 0 0 Q (F0 m 0 ls []) := by
    clear hH hlc
    have g1 := hh0 1 (by omega)
    have g2 := hh0 2 (by omega)
    have g3 := hh0 3 (by omega)
    have g4 := hh0 4 (by omega)
    refine lv_aload_n hx hb dN_isSmall_0 rfl (lv_at hl 0 rfl) ?_
    refine va_get (D := gD G) (ci := 3) (v := .ref n1) (C := "CircuitProver$Netlist") (T := TN) (N := 12) hx hb htb inN hown hK hP 0 rfl rfl 0 (by decide) (htb _ b55) (fun _ h9 => h9) rfl dN_isSmall_1 ?_
    refine lv_iconst (v := nI 1) hx hb dN_isSmall_4 (by decide) ?_
    refine k_iald hx hb hK hP 1 rfl (k := 1) (by omega) (by decide) dN_isSmall_5 ?_
    refine lv_iconst (v := nI 3) hx hb dN_isSmall_6 (by decide) ?_
    refine lv_icmp_gt (tgt := 46) hx hb dN_isSmall_7 rfl (fun h7 => ?_) (fun h7 => ?_)
    · have h7 : 3 < hh 1 := (nI_ltI (a := 3) (b := hh 1) (by omega) (by omega)).mp h7
      refine lv_iconst (v := nI 0) hx hb dN_isSmall_46 (by decide) ?_
      -- end 0
      rw [← hQ]
      exact k_iret hx hb hr hlocks (by decide) (u := ()) (Or.inr ⟨by omega, rfl, rfl⟩) hP hD hK hS dN_isSmall_47
    · have h7 : hh 1 ≤ 3 := Nat.le_of_not_lt (fun z => h7 ((nI_ltI (a := 3) (b := hh 1) (by omega) (by omega)).mpr z))
      refine lv_aload_n hx hb dN_isSmall_10 rfl (lv_at hl 0 rfl) ?_
      refine va_get (D := gD G) (ci := 3) (v := .ref n1) (C := "CircuitProver$Netlist") (T := TN) (N := 12) hx hb htb inN hown hK hP 0 rfl rfl 0 (by decide) (htb _ b55) (fun _ h9 => h9) rfl dN_isSmall_11 ?_
      refine lv_iconst (v := nI 2) hx hb dN_isSmall_14 (by decide) ?_
      refine k_iald hx hb hK hP 1 rfl (k := 2) (by omega) (by decide) dN_isSmall_15 ?_
      refine lv_bipush (v := nI 6) hx hb dN_isSmall_16 (by decide) ?_
      refine lv_icmp_gt (tgt := 46) hx hb dN_isSmall_18 rfl (fun h18 => ?_) (fun h18 => ?_)
      · have h18 : 6 < hh 2 := (nI_ltI (a := 6) (b := hh 2) (by omega) (by omega)).mp h18
        refine lv_iconst (v := nI 0) hx hb dN_isSmall_46 (by decide) ?_
        -- end 1
        rw [← hQ]
        exact k_iret hx hb hr hlocks (by decide) (u := ()) (Or.inr ⟨by omega, rfl, rfl⟩) hP hD hK hS dN_isSmall_47
      · have h18 : hh 2 ≤ 6 := Nat.le_of_not_lt (fun z => h18 ((nI_ltI (a := 6) (b := hh 2) (by omega) (by omega)).mpr z))
        refine lv_aload_n hx hb dN_isSmall_21 rfl (lv_at hl 0 rfl) ?_
        refine va_get (D := gD G) (ci := 3) (v := .ref n1) (C := "CircuitProver$Netlist") (T := TN) (N := 12) hx hb htb inN hown hK hP 0 rfl rfl 0 (by decide) (htb _ b55) (fun _ h9 => h9) rfl dN_isSmall_22 ?_
        refine lv_iconst (v := nI 3) hx hb dN_isSmall_25 (by decide) ?_
        refine k_iald hx hb hK hP 1 rfl (k := 3) (by omega) (by decide) dN_isSmall_26 ?_
        refine lv_iconst (v := nI 1) hx hb dN_isSmall_27 (by decide) ?_
        refine lv_icmp_ne (tgt := 46) hx hb dN_isSmall_28 rfl (fun h28 => ?_) (fun h28 => ?_)
        · have h28 : ¬ hh 3 = 1 := fun z => h28 ((nI_eq (a := hh 3) (b := 1) (by omega) (by omega)).mpr z)
          refine lv_iconst (v := nI 0) hx hb dN_isSmall_46 (by decide) ?_
          -- end 2
          rw [← hQ]
          exact k_iret hx hb hr hlocks (by decide) (u := ()) (Or.inr ⟨by omega, rfl, rfl⟩) hP hD hK hS dN_isSmall_47
        · have h28 : hh 3 = 1 := (nI_eq (a := hh 3) (b := 1) (by omega) (by omega)).mp h28
          refine lv_aload_n hx hb dN_isSmall_31 rfl (lv_at hl 0 rfl) ?_
          refine va_get (D := gD G) (ci := 3) (v := .ref n1) (C := "CircuitProver$Netlist") (T := TN) (N := 12) hx hb htb inN hown hK hP 0 rfl rfl 0 (by decide) (htb _ b55) (fun _ h9 => h9) rfl dN_isSmall_32 ?_
          refine lv_iconst (v := nI 4) hx hb dN_isSmall_35 (by decide) ?_
          refine k_iald hx hb hK hP 1 rfl (k := 4) (by omega) (by decide) dN_isSmall_36 ?_
          refine lv_bipush (v := nI 20) hx hb dN_isSmall_37 (by decide) ?_
          refine lv_icmp_gt (tgt := 46) hx hb dN_isSmall_39 rfl (fun h39 => ?_) (fun h39 => ?_)
          · have h39 : 20 < hh 4 := (nI_ltI (a := 20) (b := hh 4) (by omega) (by omega)).mp h39
            refine lv_iconst (v := nI 0) hx hb dN_isSmall_46 (by decide) ?_
            -- end 3
            rw [← hQ]
            exact k_iret hx hb hr hlocks (by decide) (u := ()) (Or.inr ⟨by omega, rfl, rfl⟩) hP hD hK hS dN_isSmall_47
          · have h39 : hh 4 ≤ 20 := Nat.le_of_not_lt (fun z => h39 ((nI_ltI (a := 20) (b := hh 4) (by omega) (by omega)).mpr z))
            refine lv_iconst (v := nI 1) hx hb dN_isSmall_42 (by decide) ?_
            refine lv_goto (tgt := 47) hx hb dN_isSmall_43 rfl ?_
            -- end 4
            rw [← hQ]
            exact k_iret hx hb hr hlocks (by decide) (u := ()) (Or.inl ⟨by omega, rfl, rfl⟩) hP hD hK hS dN_isSmall_47
  rw [hH, hlc] at hgo
  exact hgo
