theorem nI_ge_lt {x : Int32} {n : Nat} (h : nI n ≤ x) (z : x < nI n) : False := by
  rw [Int32.lt_iff_toInt_lt] at z
  rw [Int32.le_iff_toInt_le] at h
  omega
set_option maxRecDepth 100000 in
set_option maxHeartbeats 4000000 in
theorem k_M_circuit (l : Launch) (G : GG) (sz : Nat) (qm : Nat) (xt : Nat) (xh : Nat) (xi : Nat) (xl : Nat) (xo : Nat) (xg : Nat) (xd : Nat) (xs : Nat) (xn : Nat) (xb : Nat) (xv : Nat) (th : Nat) (ul : Nat) (pt : Nat) (ld : Bool) (stt : Nat) (sts : Nat) (drw : Nat) (bd : Nat) (rd : Nat) (fs : Nat → Nat) (x : Int32) : Ki l yM_circuit cM_circuit 2 .int 0 0 G [.ref qm, .int x] [(qm, .inr (6, [.int (nI th), .int (nI ul), .ref xt, .int (nI pt), .ref xh, .ref xi, .ref xl, .ref xo, .ref xg, .ref xd, .int (zB ld), .ref xs, .int (nI stt), .int (nI sts), .int (nI drw), .ref xn, .ref xb, .ref xv, .int (nI bd), .int (nI rd)])), (xs, aI G 5 fs)] sz (fun (r : Int32) (u : Nat) => (ld = false ∧ nI 0 = r ∧ 1 = u) ∨ (∃ (n : Nat), ld = true ∧ (n < 5 ∧ x = nI n) ∧ nI (fs n) = r ∧ 0 = u) ∨ (ld = true ∧ x = nI 5 ∧ nI stt = r ∧ 0 = u) ∨ (ld = true ∧ (∀ n, n < 6 → ¬ x = nI n) ∧ (-1) = r ∧ 0 = u)) (fun (u : Nat) => [(qm, .inr (6, [.int (nI u), .int (nI ul), .ref xt, .int (nI pt), .ref xh, .ref xi, .ref xl, .ref xo, .ref xg, .ref xd, .int (zB ld), .ref xs, .int (nI stt), .int (nI sts), .int (nI drw), .ref xn, .ref xb, .ref xv, .int (nI bd), .int (nI rd)])), (xs, aI G 5 fs)]) := by
  refine Met.ofW (cc := cM_circuit) (maxL := 2) (ret := (some .int)) (by decide) rfl ?_
  intro p e s m args below meth c s₁ B hml hv
  obtain ⟨hav, hsz, hP, hK, hD0, hE⟩ := hv
  have hx := B.exec
  have hb := B.bytes
  have hr := B.returns
  have htb : ∀ w ∈ TB, w.before args s = true := fun w h => atoms_spec (ws := Cond.code yM_circuit cM_circuit 2 (some .int) :: TB) B.pre w (List.mem_cons_of_mem _ h)
  have hown : s.vm.findClass "CircuitProverModel" = some m.cls := findClass_of_methodNamed B.named
  have hlocks := B.notSynchronized
  subst hsz
  have hD := hD0.self (sz := s.heap.size)
  clear hD0
  generalize hRm : (headSpec (Cond.code yM_circuit cM_circuit 2 (some .int) :: TB) { frames := 0, cells := 0, slots := 0, locals := 0 }).room = R
  have hRf : R.frames = 0 := by rw [← hRm]; rfl
  have hRl : R.locals = 0 := by rw [← hRm]; rfl
  have hRc : R.cells = 0 := by rw [← hRm]; rfl
  have hRs : R.slots = 0 := by rw [← hRm]; rfl
  clear hRm
  generalize hAe : va_A [(qm, .inr (6, [.int (nI th), .int (nI ul), .ref xt, .int (nI pt), .ref xh, .ref xi, .ref xl, .ref xo, .ref xg, .ref xd, .int (zB ld), .ref xs, .int (nI stt), .int (nI sts), .int (nI drw), .ref xn, .ref xb, .ref xv, .int (nI bd), .int (nI rd)])), (xs, aI G 5 fs)] s.heap.size = A at hD hE ⊢
  have hA : ∀ q : Nat, s.heap.size ≤ q → A q := fun q h => by rw [← hAe]; exact Or.inr h
  clear hAe
  have hS : va_S A s.heap s.heap [] := va_S.rf
  have hl := lv_entry ([.ref qm, .int x]) (n := 2) (Nat.le_of_ble_eq_true rfl)
  have hent := lg_entry_eq m ([.ref qm, .int x]) 2
  rw [← hav] at hent
  rw [hent]
  clear hent hav
  generalize (lg_sl ([.ref qm, .int x]) ++ List.replicate (2 - (lg_sl ([.ref qm, .int x])).length) Slot.unset).toArray = ls at hl ⊢
  have hl : lv_has ls 2 [(0, .ref qm), (1, .int x)] := hl
  generalize hQ : MQ below _ args s 0 0 _ = Q
  have hP : va_P (gD G) vC [(qm, .inr (6, [.int (nI th), .int (nI ul), .ref xt, .int (nI pt), .ref xh, .ref xi, .ref xl, .ref xo, .ref xg, .ref xd, .int (zB ld), .ref xs, .int (nI stt), .int (nI sts), .int (nI drw), .ref xn, .ref xb, .ref xv, .int (nI bd), .int (nI rd)])), (xs, aI G 5 fs)] s.heap := hP
  obtain ⟨H, hH⟩ : ∃ H : Heap, H = s.heap := ⟨_, rfl⟩
  obtain ⟨locs, hlc⟩ : ∃ L : List Loc, L = [] := ⟨_, rfl⟩
  have hS : va_S A s.heap H locs := by rw [hH, hlc]; exact hS
  have hP : va_P (gD G) vC [(qm, .inr (6, [.int (nI th), .int (nI ul), .ref xt, .int (nI pt), .ref xh, .ref xi, .ref xl, .ref xo, .ref xg, .ref xd, .int (zB ld), .ref xs, .int (nI stt), .int (nI sts), .int (nI drw), .ref xn, .ref xb, .ref xv, .int (nI bd), .int (nI rd)])), (xs, aI G 5 fs)] H := by rw [hH]; exact hP
  have hgo : W p l e R s m args below meth c H locs 0 0 Q (F0 m 0 ls []) := by
    clear hH hlc
    refine lv_aload_n hx hb dM_circuit_0 rfl (lv_at hl 0 rfl) ?_
    refine lv_aload_n hx hb dM_circuit_1 rfl (lv_at hl 0 rfl) ?_
    refine va_get (D := gD G) (ci := 6) (v := .int (zB ld)) (C := "CircuitProverModel") (T := TM) (N := 20) hx hb htb inM hown hK hP 0 rfl rfl 10 (by decide) (htb _ b681) (fun _ h9 => h9) rfl dM_circuit_2 ?_
    refine lv_if_eq (tgt := 12) hx hb dM_circuit_5 rfl (fun h5 => ?_) (fun h5 => ?_)
    · have h5 : ld = false := zB_f h5
      refine lv_iconst (v := nI 1) hx hb dM_circuit_12 (by decide) ?_
      refine va_put (D := gD G) (ci := 6) (v := .int (nI 1)) (ty := tyM 0) (C := "CircuitProverModel") (T := TM) (N := 20) hx hb htb inM tyM tyM_ok nmM hown hK hP hD hS 0 rfl rfl 0 (by decide) (htb _ b671) (fun _ h9 => h9) rfl (tyM_ok 0 (by decide)) rfl rfl (Nat.le_of_ble_eq_true rfl) dM_circuit_13 (fun H locs hP hD hS => ?_)
      have hP : va_P (gD G) vC [(qm, .inr (6, [.int (nI 1), .int (nI ul), .ref xt, .int (nI pt), .ref xh, .ref xi, .ref xl, .ref xo, .ref xg, .ref xd, .int (zB ld), .ref xs, .int (nI stt), .int (nI sts), .int (nI drw), .ref xn, .ref xb, .ref xv, .int (nI bd), .int (nI rd)])), (xs, aI G 5 fs)] H := hP
      have hD : va_D A [(qm, .inr (6, [.int (nI 1), .int (nI ul), .ref xt, .int (nI pt), .ref xh, .ref xi, .ref xl, .ref xo, .ref xg, .ref xd, .int (zB ld), .ref xs, .int (nI stt), .int (nI sts), .int (nI drw), .ref xn, .ref xb, .ref xv, .int (nI bd), .int (nI rd)])), (xs, aI G 5 fs)] := hD
      refine lv_aload_n hx hb dM_circuit_16 rfl (lv_at hl 0 rfl) ?_
      refine va_get (D := gD G) (ci := 6) (v := .int (zB ld)) (C := "CircuitProverModel") (T := TM) (N := 20) hx hb htb inM hown hK hP 0 rfl rfl 10 (by decide) (htb _ b681) (fun _ h9 => h9) rfl dM_circuit_17 ?_
      refine lv_if_ne (tgt := 27) hx hb dM_circuit_20 rfl (fun h20 => absurd (zB_t h20) (by rw [h5]; decide)) (fun _ => ?_)
      refine lv_iconst (v := nI 0) hx hb dM_circuit_23 (by decide) ?_
      refine lv_goto (tgt := 58) hx hb dM_circuit_24 rfl ?_
      -- end 0
      rw [← hQ]
      exact k_iret hx hb hr hlocks rfl (u := 1) (Or.inl ⟨h5, rfl, rfl⟩) hP hD hK hS dM_circuit_58
    · have h5 : ld = true := zB_t h5
      refine lv_iconst (v := nI 0) hx hb dM_circuit_8 (by decide) ?_
      refine lv_goto (tgt := 13) hx hb dM_circuit_9 rfl ?_
      refine va_put (D := gD G) (ci := 6) (v := .int (nI 0)) (ty := tyM 0) (C := "CircuitProverModel") (T := TM) (N := 20) hx hb htb inM tyM tyM_ok nmM hown hK hP hD hS 0 rfl rfl 0 (by decide) (htb _ b671) (fun _ h9 => h9) rfl (tyM_ok 0 (by decide)) rfl rfl (Nat.le_of_ble_eq_true rfl) dM_circuit_13 (fun H locs hP hD hS => ?_)
      have hP : va_P (gD G) vC [(qm, .inr (6, [.int (nI 0), .int (nI ul), .ref xt, .int (nI pt), .ref xh, .ref xi, .ref xl, .ref xo, .ref xg, .ref xd, .int (zB ld), .ref xs, .int (nI stt), .int (nI sts), .int (nI drw), .ref xn, .ref xb, .ref xv, .int (nI bd), .int (nI rd)])), (xs, aI G 5 fs)] H := hP
      have hD : va_D A [(qm, .inr (6, [.int (nI 0), .int (nI ul), .ref xt, .int (nI pt), .ref xh, .ref xi, .ref xl, .ref xo, .ref xg, .ref xd, .int (zB ld), .ref xs, .int (nI stt), .int (nI sts), .int (nI drw), .ref xn, .ref xb, .ref xv, .int (nI bd), .int (nI rd)])), (xs, aI G 5 fs)] := hD
      refine lv_aload_n hx hb dM_circuit_16 rfl (lv_at hl 0 rfl) ?_
      refine va_get (D := gD G) (ci := 6) (v := .int (zB ld)) (C := "CircuitProverModel") (T := TM) (N := 20) hx hb htb inM hown hK hP 0 rfl rfl 10 (by decide) (htb _ b681) (fun _ h9 => h9) rfl dM_circuit_17 ?_
      refine lv_if_ne (tgt := 27) hx hb dM_circuit_20 rfl (fun _ => ?_) (fun h20 => absurd (zB_f h20) (by rw [h5]; decide))
      refine lv_iload_n hx hb dM_circuit_27 rfl (lv_at hl 1 rfl) ?_
      refine lv_if_lt (tgt := 45) hx hb dM_circuit_28 rfl (fun h28 => ?_) (fun h28 => ?_)
      · skip
        refine lv_iload_n hx hb dM_circuit_45 rfl (lv_at hl 1 rfl) ?_
        refine lv_iconst (v := nI 5) hx hb dM_circuit_46 (by decide) ?_
        refine lv_icmp_ne (tgt := 57) hx hb dM_circuit_47 rfl (fun h47 => ?_) (fun h47 => ?_)
        · skip
          refine lv_iconst (v := (-1)) hx hb dM_circuit_57 (by decide) ?_
          -- end 1
          rw [← hQ]
          exact k_iret hx hb hr hlocks rfl (u := 0) (Or.inr (Or.inr (Or.inr ⟨h5, fun n hn e9 => (by rw [e9] at h28; exact nI_pos (by omega) h28), rfl, rfl⟩))) hP hD hK hS dM_circuit_58
        · skip
          refine lv_aload_n hx hb dM_circuit_50 rfl (lv_at hl 0 rfl) ?_
          refine va_get (D := gD G) (ci := 6) (v := .int (nI stt)) (C := "CircuitProverModel") (T := TM) (N := 20) hx hb htb inM hown hK hP 0 rfl rfl 12 (by decide) (htb _ b683) (fun _ h9 => h9) rfl dM_circuit_51 ?_
          refine lv_goto (tgt := 58) hx hb dM_circuit_54 rfl ?_
          -- end 2
          rw [← hQ]
          exact k_iret hx hb hr hlocks rfl (u := 0) (Or.inr (Or.inr (Or.inl ⟨h5, h47, rfl, rfl⟩))) hP hD hK hS dM_circuit_58
      · skip
        refine lv_iload_n hx hb dM_circuit_31 rfl (lv_at hl 1 rfl) ?_
        refine lv_iconst (v := nI 5) hx hb dM_circuit_32 (by decide) ?_
        refine lv_icmp_ge (tgt := 45) hx hb dM_circuit_33 rfl (fun h33 => ?_) (fun h33 => ?_)
        · skip
          refine lv_iload_n hx hb dM_circuit_45 rfl (lv_at hl 1 rfl) ?_
          refine lv_iconst (v := nI 5) hx hb dM_circuit_46 (by decide) ?_
          refine lv_icmp_ne (tgt := 57) hx hb dM_circuit_47 rfl (fun h47 => ?_) (fun h47 => ?_)
          · skip
            refine lv_iconst (v := (-1)) hx hb dM_circuit_57 (by decide) ?_
            -- end 3
            rw [← hQ]
            exact k_iret hx hb hr hlocks rfl (u := 0) (Or.inr (Or.inr (Or.inr ⟨h5, fun n hn e9 => (by by_cases e5 : n = 5; (subst e5; exact h47 e9); (rw [e9] at h33; exact nI_ge (show n < 5 by omega) (by omega) h33)), rfl, rfl⟩))) hP hD hK hS dM_circuit_58
          · skip
            refine lv_aload_n hx hb dM_circuit_50 rfl (lv_at hl 0 rfl) ?_
            refine va_get (D := gD G) (ci := 6) (v := .int (nI stt)) (C := "CircuitProverModel") (T := TM) (N := 20) hx hb htb inM hown hK hP 0 rfl rfl 12 (by decide) (htb _ b683) (fun _ h9 => h9) rfl dM_circuit_51 ?_
            refine lv_goto (tgt := 58) hx hb dM_circuit_54 rfl ?_
            -- end 4
            rw [← hQ]
            exact k_iret hx hb hr hlocks rfl (u := 0) (Or.inr (Or.inr (Or.inl ⟨h5, h47, rfl, rfl⟩))) hP hD hK hS dM_circuit_58
        · skip
          obtain ⟨n, hn5, rfl⟩ : ∃ n, n < 5 ∧ x = nI n := by rcases pk_ix x (n := 5) (by omega) with h | h | h; (exact absurd h h28); (exact absurd h h33); exact h
          refine lv_aload_n hx hb dM_circuit_36 rfl (lv_at hl 0 rfl) ?_
          refine va_get (D := gD G) (ci := 6) (v := .ref xs) (C := "CircuitProverModel") (T := TM) (N := 20) hx hb htb inM hown hK hP 0 rfl rfl 11 (by decide) (htb _ b682) (fun _ h9 => h9) rfl dM_circuit_37 ?_
          refine lv_iload_n hx hb dM_circuit_40 rfl (lv_at hl 1 rfl) ?_
          refine k_iald hx hb hK hP 1 rfl (k := n) (by omega) (by decide) dM_circuit_41 ?_
          refine lv_goto (tgt := 58) hx hb dM_circuit_42 rfl ?_
          -- end 5
          rw [← hQ]
          exact k_iret hx hb hr hlocks rfl (u := 0) (Or.inr (Or.inl ⟨n, h5, ⟨hn5, rfl⟩, rfl, rfl⟩)) hP hD hK hS dM_circuit_58
  rw [hH, hlc] at hgo
  exact hgo
set_option maxRecDepth 100000 in
set_option maxHeartbeats 4000000 in
theorem k_M_go (l : Launch) (G : GG) (sz : Nat) (qm : Nat) (xt : Nat) (xh : Nat) (xi : Nat) (xl : Nat) (xo : Nat) (xg : Nat) (xd : Nat) (xs : Nat) (xn : Nat) (xb : Nat) (xv : Nat) (th : Nat) (ul : Nat) (pt : Nat) (ld : Bool) (stt : Nat) (sts : Nat) (drw : Nat) (bd : Nat) (rd : Nat) (fx : Nat → Nat) (x : Int32) (y : Int32) (hz : sts ≤ 64) (hdw : 1 ≤ drw ∧ drw ≤ 8) : Ki l yM_go cM_go 3 .int 1 22 G [.ref qm, .int x, .int y] [(qm, .inr (6, [.int (nI th), .int (nI ul), .ref xt, .int (nI pt), .ref xh, .ref xi, .ref xl, .ref xo, .ref xg, .ref xd, .int (zB ld), .ref xs, .int (nI stt), .int (nI sts), .int (nI drw), .ref xn, .ref xb, .ref xv, .int (nI bd), .int (nI rd)])), (xn, aI G 512 fx)] sz (fun (r : Int32) (u : Nat) => (ld = false ∧ nI 0 = r ∧ 1 = u) ∨ (ld = true ∧ (∀ j i, j < sts → i < drw → x = nI j → ¬ y = nI i) ∧ nI 0 = r ∧ 2 = u) ∨ (∃ (j : Nat), ∃ (i : Nat), ld = true ∧ (j < sts ∧ i < drw ∧ x = nI j ∧ y = nI i) ∧ nI (fx (8 * j + i)) = r ∧ 0 = u)) (fun (u : Nat) => [(qm, .inr (6, [.int (nI u), .int (nI ul), .ref xt, .int (nI pt), .ref xh, .ref xi, .ref xl, .ref xo, .ref xg, .ref xd, .int (zB ld), .ref xs, .int (nI stt), .int (nI sts), .int (nI drw), .ref xn, .ref xb, .ref xv, .int (nI bd), .int (nI rd)])), (xn, aI G 512 fx)]) := by
  refine Met.ofW (cc := cM_go) (maxL := 3) (ret := (some .int)) (by decide) rfl ?_
  intro p e s m args below meth c s₁ B hml hv
  obtain ⟨hav, hsz, hP, hK, hD0, hE⟩ := hv
  have hx := B.exec
  have hb := B.bytes
  have hr := B.returns
  have htb : ∀ w ∈ TB, w.before args s = true := fun w h => atoms_spec (ws := Cond.code yM_go cM_go 3 (some .int) :: TB) B.pre w (List.mem_cons_of_mem _ h)
  have hown : s.vm.findClass "CircuitProverModel" = some m.cls := findClass_of_methodNamed B.named
  have hlocks := B.notSynchronized
  subst hsz
  have hD := hD0.self (sz := s.heap.size)
  clear hD0
  generalize hRm : (headSpec (Cond.code yM_go cM_go 3 (some .int) :: TB) { frames := 1, cells := 0, slots := 0, locals := 22 }).room = R
  have hRf : R.frames = 1 := by rw [← hRm]; rfl
  have hRl : R.locals = 22 := by rw [← hRm]; rfl
  have hRc : R.cells = 0 := by rw [← hRm]; rfl
  have hRs : R.slots = 0 := by rw [← hRm]; rfl
  clear hRm
  generalize hAe : va_A [(qm, .inr (6, [.int (nI th), .int (nI ul), .ref xt, .int (nI pt), .ref xh, .ref xi, .ref xl, .ref xo, .ref xg, .ref xd, .int (zB ld), .ref xs, .int (nI stt), .int (nI sts), .int (nI drw), .ref xn, .ref xb, .ref xv, .int (nI bd), .int (nI rd)])), (xn, aI G 512 fx)] s.heap.size = A at hD hE ⊢
  have hA : ∀ q : Nat, s.heap.size ≤ q → A q := fun q h => by rw [← hAe]; exact Or.inr h
  clear hAe
  have hS : va_S A s.heap s.heap [] := va_S.rf
  have hl := lv_entry ([.ref qm, .int x, .int y]) (n := 3) (Nat.le_of_ble_eq_true rfl)
  have hent := lg_entry_eq m ([.ref qm, .int x, .int y]) 3
  rw [← hav] at hent
  rw [hent]
  clear hent hav
  generalize (lg_sl ([.ref qm, .int x, .int y]) ++ List.replicate (3 - (lg_sl ([.ref qm, .int x, .int y])).length) Slot.unset).toArray = ls at hl ⊢
  have hl : lv_has ls 3 [(0, .ref qm), (1, .int x), (2, .int y)] := hl
  generalize hQ : MQ below _ args s 0 0 _ = Q
  have hP : va_P (gD G) vC [(qm, .inr (6, [.int (nI th), .int (nI ul), .ref xt, .int (nI pt), .ref xh, .ref xi, .ref xl, .ref xo, .ref xg, .ref xd, .int (zB ld), .ref xs, .int (nI stt), .int (nI sts), .int (nI drw), .ref xn, .ref xb, .ref xv, .int (nI bd), .int (nI rd)])), (xn, aI G 512 fx)] s.heap := hP
  obtain ⟨H, hH⟩ : ∃ H : Heap, H = s.heap := ⟨_, rfl⟩
  obtain ⟨locs, hlc⟩ : ∃ L : List Loc, L = [] := ⟨_, rfl⟩
  have hS : va_S A s.heap H locs := by rw [hH, hlc]; exact hS
  have hP : va_P (gD G) vC [(qm, .inr (6, [.int (nI th), .int (nI ul), .ref xt, .int (nI pt), .ref xh, .ref xi, .ref xl, .ref xo, .ref xg, .ref xd, .int (zB ld), .ref xs, .int (nI stt), .int (nI sts), .int (nI drw), .ref xn, .ref xb, .ref xv, .int (nI bd), .int (nI rd)])), (xn, aI G 512 fx)] H := by rw [hH]; exact hP
  have hgo : W p l e R s m args below meth c H locs 0 0 Q (F0 m 0 ls []) := by
    clear hH hlc
    refine lv_aload_n hx hb dM_go_0 rfl (lv_at hl 0 rfl) ?_
    refine lv_aload_n hx hb dM_go_1 rfl (lv_at hl 0 rfl) ?_
    refine va_get (D := gD G) (ci := 6) (v := .int (zB ld)) (C := "CircuitProverModel") (T := TM) (N := 20) hx hb htb inM hown hK hP 0 rfl rfl 10 (by decide) (htb _ b681) (fun _ h9 => h9) rfl dM_go_2 ?_
    refine lv_if_ne (tgt := 12) hx hb dM_go_5 rfl (fun h5 => ?_) (fun h5 => ?_)
    · have h5 : ld = true := zB_t h5
      refine lv_aload_n hx hb dM_go_12 rfl (lv_at hl 0 rfl) ?_
      refine lv_iload_n hx hb dM_go_13 rfl (lv_at hl 1 rfl) ?_
      refine lv_iload_n hx hb dM_go_14 rfl (lv_at hl 2 rfl) ?_
      refine k_i (ws2 := fun u => [(qm, .inr (6, [.int (nI th), .int (nI ul), .ref xt, .int (nI pt), .ref xh, .ref xi, .ref xl, .ref xo, .ref xg, .ref xd, .int (zB ld), .ref xs, .int (nI stt), .int (nI sts), .int (nI drw), .ref xn, .ref xb, .ref xv, .int (nI bd), .int (nI rd)])), (xn, aI G 512 fx)]) (wr := [(xn, aI G 512 fx)]) (k_runV (n := 2) (As := [.int x, .int y]) (rest := [.ref qm]) hx hb hml hown htb hP hD hK hS hA hE (k_M_isPlace l G H.size qm xt xh xi xl xo xg xd xs xn xb xv th ul pt ld stt sts drw bd rd x y (show sts ≤ 64 from by omega) (show 1 ≤ drw ∧ drw ≤ 8 from by omega)) b800 b802 s39 b7 b803 (by decide +kernel) rfl rfl ⟨by rw [hRf]; exact Nat.le_of_ble_eq_true rfl, by rw [hRl]; exact Nat.le_of_ble_eq_true rfl⟩ [0] rfl (by decide) 0 rfl rfl rfl rfl hl.1 rfl (Nat.le_of_ble_eq_true rfl) dM_go_15 ⟨Nat.zero_le _, Nat.zero_le _⟩) hP hD hS hA [0] [1] [1, 0] rfl rfl (by decide) (by decide) (fun u => rfl) (by decide) (fun r u H locs hw hP hD hS => ?_)
      rcases hw with ⟨j15, i15, hc15_e, rfl, rfl⟩ | ⟨hc15_e, rfl, rfl⟩
      · skip
        have hP : va_P (gD G) vC [(qm, .inr (6, [.int (nI th), .int (nI ul), .ref xt, .int (nI pt), .ref xh, .ref xi, .ref xl, .ref xo, .ref xg, .ref xd, .int (zB ld), .ref xs, .int (nI stt), .int (nI sts), .int (nI drw), .ref xn, .ref xb, .ref xv, .int (nI bd), .int (nI rd)])), (xn, aI G 512 fx)] H := hP
        have hD : va_D A [(qm, .inr (6, [.int (nI th), .int (nI ul), .ref xt, .int (nI pt), .ref xh, .ref xi, .ref xl, .ref xo, .ref xg, .ref xd, .int (zB ld), .ref xs, .int (nI stt), .int (nI sts), .int (nI drw), .ref xn, .ref xb, .ref xv, .int (nI bd), .int (nI rd)])), (xn, aI G 512 fx)] := hD
        obtain ⟨hjs, hid, rfl, rfl⟩ := hc15_e
        refine lv_if_ne (tgt := 25) hx hb dM_go_18 rfl (fun _ => ?_) (fun h18 => (by revert h18; first | decide | exact fun z => absurd z (by decide) | exact fun z => z.elim (by decide)))
        refine lv_iconst (v := nI 0) hx hb dM_go_25 (by decide) ?_
        refine va_put (D := gD G) (ci := 6) (v := .int (nI 0)) (ty := tyM 0) (C := "CircuitProverModel") (T := TM) (N := 20) hx hb htb inM tyM tyM_ok nmM hown hK hP hD hS 0 rfl rfl 0 (by decide) (htb _ b671) (fun _ h9 => h9) rfl (tyM_ok 0 (by decide)) rfl rfl (Nat.le_of_ble_eq_true rfl) dM_go_26 (fun H locs hP hD hS => ?_)
        have hP : va_P (gD G) vC [(qm, .inr (6, [.int (nI 0), .int (nI ul), .ref xt, .int (nI pt), .ref xh, .ref xi, .ref xl, .ref xo, .ref xg, .ref xd, .int (zB ld), .ref xs, .int (nI stt), .int (nI sts), .int (nI drw), .ref xn, .ref xb, .ref xv, .int (nI bd), .int (nI rd)])), (xn, aI G 512 fx)] H := hP
        have hD : va_D A [(qm, .inr (6, [.int (nI 0), .int (nI ul), .ref xt, .int (nI pt), .ref xh, .ref xi, .ref xl, .ref xo, .ref xg, .ref xd, .int (zB ld), .ref xs, .int (nI stt), .int (nI sts), .int (nI drw), .ref xn, .ref xb, .ref xv, .int (nI bd), .int (nI rd)])), (xn, aI G 512 fx)] := hD
        refine lv_aload_n hx hb dM_go_29 rfl (lv_at hl 0 rfl) ?_
        refine va_get (D := gD G) (ci := 6) (v := .int (nI 0)) (C := "CircuitProverModel") (T := TM) (N := 20) hx hb htb inM hown hK hP 0 rfl rfl 0 (by decide) (htb _ b671) (fun _ h9 => h9) rfl dM_go_30 ?_
        refine lv_if_le (tgt := 40) hx hb dM_go_33 rfl (fun _ => ?_) (fun h33 => (by revert h33; first | decide | exact fun z => absurd z (by decide) | exact fun z => z.elim (by decide)))
        refine lv_aload_n hx hb dM_go_40 rfl (lv_at hl 0 rfl) ?_
        refine va_get (D := gD G) (ci := 6) (v := .ref xn) (C := "CircuitProverModel") (T := TM) (N := 20) hx hb htb inM hown hK hP 0 rfl rfl 15 (by decide) (htb _ b686) (fun _ h9 => h9) rfl dM_go_41 ?_
        refine lv_bipush (v := nI 8) hx hb dM_go_44 (by decide) ?_
        refine lv_iload_n hx hb dM_go_46 rfl (lv_at hl 1 rfl) ?_
        refine lv_imul hx hb dM_go_47 ?_
        refine k_toi (y := nI (8 * j15)) (pk_mul _ _) ?_
        refine lv_iload_n hx hb dM_go_48 rfl (lv_at hl 2 rfl) ?_
        refine lv_iadd hx hb dM_go_49 ?_
        refine k_toi (y := nI ((8 * j15) + i15)) (nI_add _ _) ?_
        refine k_iald hx hb hK hP 1 rfl (k := (8 * j15) + i15) (by omega) (by decide) dM_go_50 ?_
        -- end 0
        rw [← hQ]
        exact k_iret hx hb hr hlocks rfl (u := 0) (Or.inr (Or.inr ⟨j15, i15, h5, ⟨hjs, hid, rfl, rfl⟩, rfl, rfl⟩)) hP hD hK hS dM_go_51
      · skip
        have hP : va_P (gD G) vC [(qm, .inr (6, [.int (nI th), .int (nI ul), .ref xt, .int (nI pt), .ref xh, .ref xi, .ref xl, .ref xo, .ref xg, .ref xd, .int (zB ld), .ref xs, .int (nI stt), .int (nI sts), .int (nI drw), .ref xn, .ref xb, .ref xv, .int (nI bd), .int (nI rd)])), (xn, aI G 512 fx)] H := hP
        have hD : va_D A [(qm, .inr (6, [.int (nI th), .int (nI ul), .ref xt, .int (nI pt), .ref xh, .ref xi, .ref xl, .ref xo, .ref xg, .ref xd, .int (zB ld), .ref xs, .int (nI stt), .int (nI sts), .int (nI drw), .ref xn, .ref xb, .ref xv, .int (nI bd), .int (nI rd)])), (xn, aI G 512 fx)] := hD
        refine lv_if_ne (tgt := 25) hx hb dM_go_18 rfl (fun h18 => (by revert h18; first | decide | exact fun z => absurd z (by decide) | exact fun z => z.elim (by decide))) (fun _ => ?_)
        refine lv_iconst (v := nI 2) hx hb dM_go_21 (by decide) ?_
        refine lv_goto (tgt := 26) hx hb dM_go_22 rfl ?_
        refine va_put (D := gD G) (ci := 6) (v := .int (nI 2)) (ty := tyM 0) (C := "CircuitProverModel") (T := TM) (N := 20) hx hb htb inM tyM tyM_ok nmM hown hK hP hD hS 0 rfl rfl 0 (by decide) (htb _ b671) (fun _ h9 => h9) rfl (tyM_ok 0 (by decide)) rfl rfl (Nat.le_of_ble_eq_true rfl) dM_go_26 (fun H locs hP hD hS => ?_)
        have hP : va_P (gD G) vC [(qm, .inr (6, [.int (nI 2), .int (nI ul), .ref xt, .int (nI pt), .ref xh, .ref xi, .ref xl, .ref xo, .ref xg, .ref xd, .int (zB ld), .ref xs, .int (nI stt), .int (nI sts), .int (nI drw), .ref xn, .ref xb, .ref xv, .int (nI bd), .int (nI rd)])), (xn, aI G 512 fx)] H := hP
        have hD : va_D A [(qm, .inr (6, [.int (nI 2), .int (nI ul), .ref xt, .int (nI pt), .ref xh, .ref xi, .ref xl, .ref xo, .ref xg, .ref xd, .int (zB ld), .ref xs, .int (nI stt), .int (nI sts), .int (nI drw), .ref xn, .ref xb, .ref xv, .int (nI bd), .int (nI rd)])), (xn, aI G 512 fx)] := hD
        refine lv_aload_n hx hb dM_go_29 rfl (lv_at hl 0 rfl) ?_
        refine va_get (D := gD G) (ci := 6) (v := .int (nI 2)) (C := "CircuitProverModel") (T := TM) (N := 20) hx hb htb inM hown hK hP 0 rfl rfl 0 (by decide) (htb _ b671) (fun _ h9 => h9) rfl dM_go_30 ?_
        refine lv_if_le (tgt := 40) hx hb dM_go_33 rfl (fun h33 => (by revert h33; first | decide | exact fun z => absurd z (by decide) | exact fun z => z.elim (by decide))) (fun _ => ?_)
        refine lv_iconst (v := nI 0) hx hb dM_go_36 (by decide) ?_
        refine lv_goto (tgt := 51) hx hb dM_go_37 rfl ?_
        -- end 1
        rw [← hQ]
        exact k_iret hx hb hr hlocks rfl (u := 2) (Or.inr (Or.inl ⟨h5, hc15_e, rfl, rfl⟩)) hP hD hK hS dM_go_51
    · have h5 : ld = false := zB_f h5
      refine lv_iconst (v := nI 1) hx hb dM_go_8 (by decide) ?_
      refine lv_goto (tgt := 26) hx hb dM_go_9 rfl ?_
      refine va_put (D := gD G) (ci := 6) (v := .int (nI 1)) (ty := tyM 0) (C := "CircuitProverModel") (T := TM) (N := 20) hx hb htb inM tyM tyM_ok nmM hown hK hP hD hS 0 rfl rfl 0 (by decide) (htb _ b671) (fun _ h9 => h9) rfl (tyM_ok 0 (by decide)) rfl rfl (Nat.le_of_ble_eq_true rfl) dM_go_26 (fun H locs hP hD hS => ?_)
      have hP : va_P (gD G) vC [(qm, .inr (6, [.int (nI 1), .int (nI ul), .ref xt, .int (nI pt), .ref xh, .ref xi, .ref xl, .ref xo, .ref xg, .ref xd, .int (zB ld), .ref xs, .int (nI stt), .int (nI sts), .int (nI drw), .ref xn, .ref xb, .ref xv, .int (nI bd), .int (nI rd)])), (xn, aI G 512 fx)] H := hP
      have hD : va_D A [(qm, .inr (6, [.int (nI 1), .int (nI ul), .ref xt, .int (nI pt), .ref xh, .ref xi, .ref xl, .ref xo, .ref xg, .ref xd, .int (zB ld), .ref xs, .int (nI stt), .int (nI sts), .int (nI drw), .ref xn, .ref xb, .ref xv, .int (nI bd), .int (nI rd)])), (xn, aI G 512 fx)] := hD
      refine lv_aload_n hx hb dM_go_29 rfl (lv_at hl 0 rfl) ?_
      refine va_get (D := gD G) (ci := 6) (v := .int (nI 1)) (C := "CircuitProverModel") (T := TM) (N := 20) hx hb htb inM hown hK hP 0 rfl rfl 0 (by decide) (htb _ b671) (fun _ h9 => h9) rfl dM_go_30 ?_
      refine lv_if_le (tgt := 40) hx hb dM_go_33 rfl (fun h33 => (by revert h33; first | decide | exact fun z => absurd z (by decide) | exact fun z => z.elim (by decide))) (fun _ => ?_)
      refine lv_iconst (v := nI 0) hx hb dM_go_36 (by decide) ?_
      refine lv_goto (tgt := 51) hx hb dM_go_37 rfl ?_
      -- end 2
      rw [← hQ]
      exact k_iret hx hb hr hlocks rfl (u := 1) (Or.inl ⟨h5, rfl, rfl⟩) hP hD hK hS dM_go_51
  rw [hH, hlc] at hgo
  exact hgo
set_option maxRecDepth 100000 in
set_option maxHeartbeats 4000000 in
theorem k_M_output (l : Launch) (G : GG) (sz : Nat) (qm : Nat) (xt : Nat) (xh : Nat) (xi : Nat) (xl : Nat) (xo : Nat) (xg : Nat) (xd : Nat) (xs : Nat) (xn : Nat) (xb : Nat) (xv : Nat) (th : Nat) (ul : Nat) (pt : Nat) (ld : Bool) (stt : Nat) (sts : Nat) (drw : Nat) (bd : Nat) (rd : Nat) (fb : Nat → Bool) (x : Int32) (y : Int32) (hz : sts ≤ 64) (hdw : 1 ≤ drw ∧ drw ≤ 8) : Ki l yM_output cM_output 3 .boolean 1 22 G [.ref qm, .int x, .int y] [(qm, .inr (6, [.int (nI th), .int (nI ul), .ref xt, .int (nI pt), .ref xh, .ref xi, .ref xl, .ref xo, .ref xg, .ref xd, .int (zB ld), .ref xs, .int (nI stt), .int (nI sts), .int (nI drw), .ref xn, .ref xb, .ref xv, .int (nI bd), .int (nI rd)])), (xb, aZ G 512 fb)] sz (fun (r : Int32) (u : Nat) => (ld = false ∧ nI 0 = r ∧ 1 = u) ∨ (ld = true ∧ (∀ j i, j < sts → i < drw → x = nI j → ¬ y = nI i) ∧ nI 0 = r ∧ 2 = u) ∨ (∃ (j : Nat), ∃ (i : Nat), ld = true ∧ (j < sts ∧ i < drw ∧ x = nI j ∧ y = nI i) ∧ zB (fb (8 * j + i)) = r ∧ 0 = u)) (fun (u : Nat) => [(qm, .inr (6, [.int (nI u), .int (nI ul), .ref xt, .int (nI pt), .ref xh, .ref xi, .ref xl, .ref xo, .ref xg, .ref xd, .int (zB ld), .ref xs, .int (nI stt), .int (nI sts), .int (nI drw), .ref xn, .ref xb, .ref xv, .int (nI bd), .int (nI rd)])), (xb, aZ G 512 fb)]) := by
  refine Met.ofW (cc := cM_output) (maxL := 3) (ret := (some .boolean)) (by decide) rfl ?_
  intro p e s m args below meth c s₁ B hml hv
  obtain ⟨hav, hsz, hP, hK, hD0, hE⟩ := hv
  have hx := B.exec
  have hb := B.bytes
  have hr := B.returns
  have htb : ∀ w ∈ TB, w.before args s = true := fun w h => atoms_spec (ws := Cond.code yM_output cM_output 3 (some .boolean) :: TB) B.pre w (List.mem_cons_of_mem _ h)
  have hown : s.vm.findClass "CircuitProverModel" = some m.cls := findClass_of_methodNamed B.named
  have hlocks := B.notSynchronized
  subst hsz
  have hD := hD0.self (sz := s.heap.size)
  clear hD0
  generalize hRm : (headSpec (Cond.code yM_output cM_output 3 (some .boolean) :: TB) { frames := 1, cells := 0, slots := 0, locals := 22 }).room = R
  have hRf : R.frames = 1 := by rw [← hRm]; rfl
  have hRl : R.locals = 22 := by rw [← hRm]; rfl
  have hRc : R.cells = 0 := by rw [← hRm]; rfl
  have hRs : R.slots = 0 := by rw [← hRm]; rfl
  clear hRm
  generalize hAe : va_A [(qm, .inr (6, [.int (nI th), .int (nI ul), .ref xt, .int (nI pt), .ref xh, .ref xi, .ref xl, .ref xo, .ref xg, .ref xd, .int (zB ld), .ref xs, .int (nI stt), .int (nI sts), .int (nI drw), .ref xn, .ref xb, .ref xv, .int (nI bd), .int (nI rd)])), (xb, aZ G 512 fb)] s.heap.size = A at hD hE ⊢
  have hA : ∀ q : Nat, s.heap.size ≤ q → A q := fun q h => by rw [← hAe]; exact Or.inr h
  clear hAe
  have hS : va_S A s.heap s.heap [] := va_S.rf
  have hl := lv_entry ([.ref qm, .int x, .int y]) (n := 3) (Nat.le_of_ble_eq_true rfl)
  have hent := lg_entry_eq m ([.ref qm, .int x, .int y]) 3
  rw [← hav] at hent
  rw [hent]
  clear hent hav
  generalize (lg_sl ([.ref qm, .int x, .int y]) ++ List.replicate (3 - (lg_sl ([.ref qm, .int x, .int y])).length) Slot.unset).toArray = ls at hl ⊢
  have hl : lv_has ls 3 [(0, .ref qm), (1, .int x), (2, .int y)] := hl
  generalize hQ : MQ below _ args s 0 0 _ = Q
  have hP : va_P (gD G) vC [(qm, .inr (6, [.int (nI th), .int (nI ul), .ref xt, .int (nI pt), .ref xh, .ref xi, .ref xl, .ref xo, .ref xg, .ref xd, .int (zB ld), .ref xs, .int (nI stt), .int (nI sts), .int (nI drw), .ref xn, .ref xb, .ref xv, .int (nI bd), .int (nI rd)])), (xb, aZ G 512 fb)] s.heap := hP
  obtain ⟨H, hH⟩ : ∃ H : Heap, H = s.heap := ⟨_, rfl⟩
  obtain ⟨locs, hlc⟩ : ∃ L : List Loc, L = [] := ⟨_, rfl⟩
  have hS : va_S A s.heap H locs := by rw [hH, hlc]; exact hS
  have hP : va_P (gD G) vC [(qm, .inr (6, [.int (nI th), .int (nI ul), .ref xt, .int (nI pt), .ref xh, .ref xi, .ref xl, .ref xo, .ref xg, .ref xd, .int (zB ld), .ref xs, .int (nI stt), .int (nI sts), .int (nI drw), .ref xn, .ref xb, .ref xv, .int (nI bd), .int (nI rd)])), (xb, aZ G 512 fb)] H := by rw [hH]; exact hP
  have hgo : W p l e R s m args below meth c H locs 0 0 Q (F0 m 0 ls []) := by
    clear hH hlc
    refine lv_aload_n hx hb dM_output_0 rfl (lv_at hl 0 rfl) ?_
    refine lv_aload_n hx hb dM_output_1 rfl (lv_at hl 0 rfl) ?_
    refine va_get (D := gD G) (ci := 6) (v := .int (zB ld)) (C := "CircuitProverModel") (T := TM) (N := 20) hx hb htb inM hown hK hP 0 rfl rfl 10 (by decide) (htb _ b681) (fun _ h9 => h9) rfl dM_output_2 ?_
    refine lv_if_ne (tgt := 12) hx hb dM_output_5 rfl (fun h5 => ?_) (fun h5 => ?_)
    · have h5 : ld = true := zB_t h5
      refine lv_aload_n hx hb dM_output_12 rfl (lv_at hl 0 rfl) ?_
      refine lv_iload_n hx hb dM_output_13 rfl (lv_at hl 1 rfl) ?_
      refine lv_iload_n hx hb dM_output_14 rfl (lv_at hl 2 rfl) ?_
      refine k_i (ws2 := fun u => [(qm, .inr (6, [.int (nI th), .int (nI ul), .ref xt, .int (nI pt), .ref xh, .ref xi, .ref xl, .ref xo, .ref xg, .ref xd, .int (zB ld), .ref xs, .int (nI stt), .int (nI sts), .int (nI drw), .ref xn, .ref xb, .ref xv, .int (nI bd), .int (nI rd)])), (xb, aZ G 512 fb)]) (wr := [(xb, aZ G 512 fb)]) (k_runV (n := 2) (As := [.int x, .int y]) (rest := [.ref qm]) hx hb hml hown htb hP hD hK hS hA hE (k_M_isPlace l G H.size qm xt xh xi xl xo xg xd xs xn xb xv th ul pt ld stt sts drw bd rd x y (show sts ≤ 64 from by omega) (show 1 ≤ drw ∧ drw ≤ 8 from by omega)) b800 b802 s39 b7 b803 (by decide +kernel) rfl rfl ⟨by rw [hRf]; exact Nat.le_of_ble_eq_true rfl, by rw [hRl]; exact Nat.le_of_ble_eq_true rfl⟩ [0] rfl (by decide) 0 rfl rfl rfl rfl hl.1 rfl (Nat.le_of_ble_eq_true rfl) dM_output_15 ⟨Nat.zero_le _, Nat.zero_le _⟩) hP hD hS hA [0] [1] [1, 0] rfl rfl (by decide) (by decide) (fun u => rfl) (by decide) (fun r u H locs hw hP hD hS => ?_)
      rcases hw with ⟨j15, i15, hc15_e, rfl, rfl⟩ | ⟨hc15_e, rfl, rfl⟩
      · skip
        have hP : va_P (gD G) vC [(qm, .inr (6, [.int (nI th), .int (nI ul), .ref xt, .int (nI pt), .ref xh, .ref xi, .ref xl, .ref xo, .ref xg, .ref xd, .int (zB ld), .ref xs, .int (nI stt), .int (nI sts), .int (nI drw), .ref xn, .ref xb, .ref xv, .int (nI bd), .int (nI rd)])), (xb, aZ G 512 fb)] H := hP
        have hD : va_D A [(qm, .inr (6, [.int (nI th), .int (nI ul), .ref xt, .int (nI pt), .ref xh, .ref xi, .ref xl, .ref xo, .ref xg, .ref xd, .int (zB ld), .ref xs, .int (nI stt), .int (nI sts), .int (nI drw), .ref xn, .ref xb, .ref xv, .int (nI bd), .int (nI rd)])), (xb, aZ G 512 fb)] := hD
        obtain ⟨hjs, hid, rfl, rfl⟩ := hc15_e
        refine lv_if_ne (tgt := 25) hx hb dM_output_18 rfl (fun _ => ?_) (fun h18 => (by revert h18; first | decide | exact fun z => absurd z (by decide) | exact fun z => z.elim (by decide)))
        refine lv_iconst (v := nI 0) hx hb dM_output_25 (by decide) ?_
        refine va_put (D := gD G) (ci := 6) (v := .int (nI 0)) (ty := tyM 0) (C := "CircuitProverModel") (T := TM) (N := 20) hx hb htb inM tyM tyM_ok nmM hown hK hP hD hS 0 rfl rfl 0 (by decide) (htb _ b671) (fun _ h9 => h9) rfl (tyM_ok 0 (by decide)) rfl rfl (Nat.le_of_ble_eq_true rfl) dM_output_26 (fun H locs hP hD hS => ?_)
        have hP : va_P (gD G) vC [(qm, .inr (6, [.int (nI 0), .int (nI ul), .ref xt, .int (nI pt), .ref xh, .ref xi, .ref xl, .ref xo, .ref xg, .ref xd, .int (zB ld), .ref xs, .int (nI stt), .int (nI sts), .int (nI drw), .ref xn, .ref xb, .ref xv, .int (nI bd), .int (nI rd)])), (xb, aZ G 512 fb)] H := hP
        have hD : va_D A [(qm, .inr (6, [.int (nI 0), .int (nI ul), .ref xt, .int (nI pt), .ref xh, .ref xi, .ref xl, .ref xo, .ref xg, .ref xd, .int (zB ld), .ref xs, .int (nI stt), .int (nI sts), .int (nI drw), .ref xn, .ref xb, .ref xv, .int (nI bd), .int (nI rd)])), (xb, aZ G 512 fb)] := hD
        refine lv_aload_n hx hb dM_output_29 rfl (lv_at hl 0 rfl) ?_
        refine va_get (D := gD G) (ci := 6) (v := .int (nI 0)) (C := "CircuitProverModel") (T := TM) (N := 20) hx hb htb inM hown hK hP 0 rfl rfl 0 (by decide) (htb _ b671) (fun _ h9 => h9) rfl dM_output_30 ?_
        refine lv_if_ne (tgt := 65) hx hb dM_output_33 rfl (fun h33 => (by revert h33; first | decide | exact fun z => absurd z (by decide) | exact fun z => z.elim (by decide))) (fun _ => ?_)
        refine lv_aload_n hx hb dM_output_36 rfl (lv_at hl 0 rfl) ?_
        refine va_get (D := gD G) (ci := 6) (v := .ref xb) (C := "CircuitProverModel") (T := TM) (N := 20) hx hb htb inM hown hK hP 0 rfl rfl 16 (by decide) (htb _ b687) (fun _ h9 => h9) rfl dM_output_37 ?_
        refine lv_aload_n hx hb dM_output_40 rfl (lv_at hl 0 rfl) ?_
        refine va_get (D := gD G) (ci := 6) (v := .int (nI 0)) (C := "CircuitProverModel") (T := TM) (N := 20) hx hb htb inM hown hK hP 0 rfl rfl 0 (by decide) (htb _ b671) (fun _ h9 => h9) rfl dM_output_41 ?_
        refine lv_if_ne (tgt := 56) hx hb dM_output_44 rfl (fun h44 => (by revert h44; first | decide | exact fun z => absurd z (by decide) | exact fun z => z.elim (by decide))) (fun _ => ?_)
        refine lv_bipush (v := nI 8) hx hb dM_output_47 (by decide) ?_
        refine lv_iload_n hx hb dM_output_49 rfl (lv_at hl 1 rfl) ?_
        refine lv_imul hx hb dM_output_50 ?_
        refine k_toi (y := nI (8 * j15)) (pk_mul _ _) ?_
        refine lv_iload_n hx hb dM_output_51 rfl (lv_at hl 2 rfl) ?_
        refine lv_iadd hx hb dM_output_52 ?_
        refine k_toi (y := nI ((8 * j15) + i15)) (nI_add _ _) ?_
        refine lv_goto (tgt := 57) hx hb dM_output_53 rfl ?_
        refine k_zald hx hb hK hP 1 rfl (k := (8 * j15) + i15) (by omega) (by decide) dM_output_57 ?_
        refine lv_if_eq (tgt := 65) hx hb dM_output_58 rfl (fun h58 => ?_) (fun h58 => ?_)
        · have h58 : fb ((8 * j15) + i15) = false := zB_f h58
          refine lv_iconst (v := nI 0) hx hb dM_output_65 (by decide) ?_
          -- end 0
          rw [← hQ]
          exact k_iret hx hb hr hlocks (by decide) (u := 0) (Or.inr (Or.inr ⟨j15, i15, h5, ⟨hjs, hid, rfl, rfl⟩, by rw [h58]; rfl, rfl⟩)) hP hD hK hS dM_output_66
        · have h58 : fb ((8 * j15) + i15) = true := zB_t h58
          refine lv_iconst (v := nI 1) hx hb dM_output_61 (by decide) ?_
          refine lv_goto (tgt := 66) hx hb dM_output_62 rfl ?_
          -- end 1
          rw [← hQ]
          exact k_iret hx hb hr hlocks (by decide) (u := 0) (Or.inr (Or.inr ⟨j15, i15, h5, ⟨hjs, hid, rfl, rfl⟩, by rw [h58]; rfl, rfl⟩)) hP hD hK hS dM_output_66
      · skip
        have hP : va_P (gD G) vC [(qm, .inr (6, [.int (nI th), .int (nI ul), .ref xt, .int (nI pt), .ref xh, .ref xi, .ref xl, .ref xo, .ref xg, .ref xd, .int (zB ld), .ref xs, .int (nI stt), .int (nI sts), .int (nI drw), .ref xn, .ref xb, .ref xv, .int (nI bd), .int (nI rd)])), (xb, aZ G 512 fb)] H := hP
        have hD : va_D A [(qm, .inr (6, [.int (nI th), .int (nI ul), .ref xt, .int (nI pt), .ref xh, .ref xi, .ref xl, .ref xo, .ref xg, .ref xd, .int (zB ld), .ref xs, .int (nI stt), .int (nI sts), .int (nI drw), .ref xn, .ref xb, .ref xv, .int (nI bd), .int (nI rd)])), (xb, aZ G 512 fb)] := hD
        refine lv_if_ne (tgt := 25) hx hb dM_output_18 rfl (fun h18 => (by revert h18; first | decide | exact fun z => absurd z (by decide) | exact fun z => z.elim (by decide))) (fun _ => ?_)
        refine lv_iconst (v := nI 2) hx hb dM_output_21 (by decide) ?_
        refine lv_goto (tgt := 26) hx hb dM_output_22 rfl ?_
        refine va_put (D := gD G) (ci := 6) (v := .int (nI 2)) (ty := tyM 0) (C := "CircuitProverModel") (T := TM) (N := 20) hx hb htb inM tyM tyM_ok nmM hown hK hP hD hS 0 rfl rfl 0 (by decide) (htb _ b671) (fun _ h9 => h9) rfl (tyM_ok 0 (by decide)) rfl rfl (Nat.le_of_ble_eq_true rfl) dM_output_26 (fun H locs hP hD hS => ?_)
        have hP : va_P (gD G) vC [(qm, .inr (6, [.int (nI 2), .int (nI ul), .ref xt, .int (nI pt), .ref xh, .ref xi, .ref xl, .ref xo, .ref xg, .ref xd, .int (zB ld), .ref xs, .int (nI stt), .int (nI sts), .int (nI drw), .ref xn, .ref xb, .ref xv, .int (nI bd), .int (nI rd)])), (xb, aZ G 512 fb)] H := hP
        have hD : va_D A [(qm, .inr (6, [.int (nI 2), .int (nI ul), .ref xt, .int (nI pt), .ref xh, .ref xi, .ref xl, .ref xo, .ref xg, .ref xd, .int (zB ld), .ref xs, .int (nI stt), .int (nI sts), .int (nI drw), .ref xn, .ref xb, .ref xv, .int (nI bd), .int (nI rd)])), (xb, aZ G 512 fb)] := hD
        refine lv_aload_n hx hb dM_output_29 rfl (lv_at hl 0 rfl) ?_
        refine va_get (D := gD G) (ci := 6) (v := .int (nI 2)) (C := "CircuitProverModel") (T := TM) (N := 20) hx hb htb inM hown hK hP 0 rfl rfl 0 (by decide) (htb _ b671) (fun _ h9 => h9) rfl dM_output_30 ?_
        refine lv_if_ne (tgt := 65) hx hb dM_output_33 rfl (fun _ => ?_) (fun h33 => (by revert h33; first | decide | exact fun z => absurd z (by decide) | exact fun z => z.elim (by decide)))
        refine lv_iconst (v := nI 0) hx hb dM_output_65 (by decide) ?_
        -- end 2
        rw [← hQ]
        exact k_iret hx hb hr hlocks (by decide) (u := 2) (Or.inr (Or.inl ⟨h5, hc15_e, rfl, rfl⟩)) hP hD hK hS dM_output_66
    · have h5 : ld = false := zB_f h5
      refine lv_iconst (v := nI 1) hx hb dM_output_8 (by decide) ?_
      refine lv_goto (tgt := 26) hx hb dM_output_9 rfl ?_
      refine va_put (D := gD G) (ci := 6) (v := .int (nI 1)) (ty := tyM 0) (C := "CircuitProverModel") (T := TM) (N := 20) hx hb htb inM tyM tyM_ok nmM hown hK hP hD hS 0 rfl rfl 0 (by decide) (htb _ b671) (fun _ h9 => h9) rfl (tyM_ok 0 (by decide)) rfl rfl (Nat.le_of_ble_eq_true rfl) dM_output_26 (fun H locs hP hD hS => ?_)
      have hP : va_P (gD G) vC [(qm, .inr (6, [.int (nI 1), .int (nI ul), .ref xt, .int (nI pt), .ref xh, .ref xi, .ref xl, .ref xo, .ref xg, .ref xd, .int (zB ld), .ref xs, .int (nI stt), .int (nI sts), .int (nI drw), .ref xn, .ref xb, .ref xv, .int (nI bd), .int (nI rd)])), (xb, aZ G 512 fb)] H := hP
      have hD : va_D A [(qm, .inr (6, [.int (nI 1), .int (nI ul), .ref xt, .int (nI pt), .ref xh, .ref xi, .ref xl, .ref xo, .ref xg, .ref xd, .int (zB ld), .ref xs, .int (nI stt), .int (nI sts), .int (nI drw), .ref xn, .ref xb, .ref xv, .int (nI bd), .int (nI rd)])), (xb, aZ G 512 fb)] := hD
      refine lv_aload_n hx hb dM_output_29 rfl (lv_at hl 0 rfl) ?_
      refine va_get (D := gD G) (ci := 6) (v := .int (nI 1)) (C := "CircuitProverModel") (T := TM) (N := 20) hx hb htb inM hown hK hP 0 rfl rfl 0 (by decide) (htb _ b671) (fun _ h9 => h9) rfl dM_output_30 ?_
      refine lv_if_ne (tgt := 65) hx hb dM_output_33 rfl (fun _ => ?_) (fun h33 => (by revert h33; first | decide | exact fun z => absurd z (by decide) | exact fun z => z.elim (by decide)))
      refine lv_iconst (v := nI 0) hx hb dM_output_65 (by decide) ?_
      -- end 3
      rw [← hQ]
      exact k_iret hx hb hr hlocks (by decide) (u := 1) (Or.inl ⟨h5, rfl, rfl⟩) hP hD hK hS dM_output_66
  rw [hH, hlc] at hgo
  exact hgo
set_option maxRecDepth 100000 in
set_option maxHeartbeats 4000000 in
theorem k_M_safe (l : Launch) (G : GG) (sz : Nat) (qm : Nat) (xt : Nat) (xh : Nat) (xi : Nat) (xl : Nat) (xo : Nat) (xg : Nat) (xd : Nat) (xs : Nat) (xn : Nat) (xb : Nat) (xv : Nat) (th : Nat) (ul : Nat) (pt : Nat) (ld : Bool) (stt : Nat) (sts : Nat) (drw : Nat) (bd : Nat) (rd : Nat) (fx : Nat → Nat) (fb : Nat → Bool) (hz : sts ≤ 64) (hdw : 1 ≤ drw ∧ drw ≤ 8) (hst : stt < 64) : Ki l yM_safe cM_safe 1 .boolean 3 69 G [.ref qm] [(qm, .inr (6, [.int (nI th), .int (nI ul), .ref xt, .int (nI pt), .ref xh, .ref xi, .ref xl, .ref xo, .ref xg, .ref xd, .int (zB ld), .ref xs, .int (nI stt), .int (nI sts), .int (nI drw), .ref xn, .ref xb, .ref xv, .int (nI bd), .int (nI rd)])), (xn, aI G 512 fx), (xb, aZ G 512 fb)] sz (fun (r : Int32) (u : Nat) => (ld = false ∧ nI 0 = r ∧ 1 = u) ∨ (ld = true ∧ (gr (postOf sts drw (nxF fx)) 64 (sg stt) &&& (badOf sts drw (bdF fb))) = 0 ∧ nI 1 = r ∧ 0 = u) ∨ (ld = true ∧ ¬ (gr (postOf sts drw (nxF fx)) 64 (sg stt) &&& (badOf sts drw (bdF fb))) = 0 ∧ nI 0 = r ∧ 0 = u)) (fun (u : Nat) => [(qm, .inr (6, [.int (nI u), .int (nI ul), .ref xt, .int (nI pt), .ref xh, .ref xi, .ref xl, .ref xo, .ref xg, .ref xd, .int (zB ld), .ref xs, .int (nI stt), .int (nI sts), .int (nI drw), .ref xn, .ref xb, .ref xv, .int (nI bd), .int (nI rd)])), (xn, aI G 512 fx), (xb, aZ G 512 fb)]) := by
  refine Met.ofW (cc := cM_safe) (maxL := 1) (ret := (some .boolean)) (by decide) rfl ?_
  intro p e s m args below meth c s₁ B hml hv
  obtain ⟨hav, hsz, hP, hK, hD0, hE⟩ := hv
  have hx := B.exec
  have hb := B.bytes
  have hr := B.returns
  have htb : ∀ w ∈ TB, w.before args s = true := fun w h => atoms_spec (ws := Cond.code yM_safe cM_safe 1 (some .boolean) :: TB) B.pre w (List.mem_cons_of_mem _ h)
  have hown : s.vm.findClass "CircuitProverModel" = some m.cls := findClass_of_methodNamed B.named
  have hlocks := B.notSynchronized
  subst hsz
  have hD := hD0.self (sz := s.heap.size)
  clear hD0
  generalize hRm : (headSpec (Cond.code yM_safe cM_safe 1 (some .boolean) :: TB) { frames := 3, cells := 0, slots := 0, locals := 69 }).room = R
  have hRf : R.frames = 3 := by rw [← hRm]; rfl
  have hRl : R.locals = 69 := by rw [← hRm]; rfl
  have hRc : R.cells = 0 := by rw [← hRm]; rfl
  have hRs : R.slots = 0 := by rw [← hRm]; rfl
  clear hRm
  generalize hAe : va_A [(qm, .inr (6, [.int (nI th), .int (nI ul), .ref xt, .int (nI pt), .ref xh, .ref xi, .ref xl, .ref xo, .ref xg, .ref xd, .int (zB ld), .ref xs, .int (nI stt), .int (nI sts), .int (nI drw), .ref xn, .ref xb, .ref xv, .int (nI bd), .int (nI rd)])), (xn, aI G 512 fx), (xb, aZ G 512 fb)] s.heap.size = A at hD hE ⊢
  have hA : ∀ q : Nat, s.heap.size ≤ q → A q := fun q h => by rw [← hAe]; exact Or.inr h
  clear hAe
  have hS : va_S A s.heap s.heap [] := va_S.rf
  have hl := lv_entry ([.ref qm]) (n := 1) (Nat.le_of_ble_eq_true rfl)
  have hent := lg_entry_eq m ([.ref qm]) 1
  rw [← hav] at hent
  rw [hent]
  clear hent hav
  generalize (lg_sl ([.ref qm]) ++ List.replicate (1 - (lg_sl ([.ref qm])).length) Slot.unset).toArray = ls at hl ⊢
  have hl : lv_has ls 1 [(0, .ref qm)] := hl
  generalize hQ : MQ below _ args s 0 0 _ = Q
  have hP : va_P (gD G) vC [(qm, .inr (6, [.int (nI th), .int (nI ul), .ref xt, .int (nI pt), .ref xh, .ref xi, .ref xl, .ref xo, .ref xg, .ref xd, .int (zB ld), .ref xs, .int (nI stt), .int (nI sts), .int (nI drw), .ref xn, .ref xb, .ref xv, .int (nI bd), .int (nI rd)])), (xn, aI G 512 fx), (xb, aZ G 512 fb)] s.heap := hP
  obtain ⟨H, hH⟩ : ∃ H : Heap, H = s.heap := ⟨_, rfl⟩
  obtain ⟨locs, hlc⟩ : ∃ L : List Loc, L = [] := ⟨_, rfl⟩
  have hS : va_S A s.heap H locs := by rw [hH, hlc]; exact hS
  have hP : va_P (gD G) vC [(qm, .inr (6, [.int (nI th), .int (nI ul), .ref xt, .int (nI pt), .ref xh, .ref xi, .ref xl, .ref xo, .ref xg, .ref xd, .int (zB ld), .ref xs, .int (nI stt), .int (nI sts), .int (nI drw), .ref xn, .ref xb, .ref xv, .int (nI bd), .int (nI rd)])), (xn, aI G 512 fx), (xb, aZ G 512 fb)] H := by rw [hH]; exact hP
  have hgo : W p l e R s m args below meth c H locs 0 0 Q (F0 m 0 ls []) := by
    clear hH hlc
    refine lv_aload_n hx hb dM_safe_0 rfl (lv_at hl 0 rfl) ?_
    refine lv_aload_n hx hb dM_safe_1 rfl (lv_at hl 0 rfl) ?_
    refine va_get (D := gD G) (ci := 6) (v := .int (zB ld)) (C := "CircuitProverModel") (T := TM) (N := 20) hx hb htb inM hown hK hP 0 rfl rfl 10 (by decide) (htb _ b681) (fun _ h9 => h9) rfl dM_safe_2 ?_
    refine lv_if_eq (tgt := 12) hx hb dM_safe_5 rfl (fun h5 => ?_) (fun h5 => ?_)
    · have h5 : ld = false := zB_f h5
      refine lv_iconst (v := nI 1) hx hb dM_safe_12 (by decide) ?_
      refine va_put (D := gD G) (ci := 6) (v := .int (nI 1)) (ty := tyM 0) (C := "CircuitProverModel") (T := TM) (N := 20) hx hb htb inM tyM tyM_ok nmM hown hK hP hD hS 0 rfl rfl 0 (by decide) (htb _ b671) (fun _ h9 => h9) rfl (tyM_ok 0 (by decide)) rfl rfl (Nat.le_of_ble_eq_true rfl) dM_safe_13 (fun H locs hP hD hS => ?_)
      have hP : va_P (gD G) vC [(qm, .inr (6, [.int (nI 1), .int (nI ul), .ref xt, .int (nI pt), .ref xh, .ref xi, .ref xl, .ref xo, .ref xg, .ref xd, .int (zB ld), .ref xs, .int (nI stt), .int (nI sts), .int (nI drw), .ref xn, .ref xb, .ref xv, .int (nI bd), .int (nI rd)])), (xn, aI G 512 fx), (xb, aZ G 512 fb)] H := hP
      have hD : va_D A [(qm, .inr (6, [.int (nI 1), .int (nI ul), .ref xt, .int (nI pt), .ref xh, .ref xi, .ref xl, .ref xo, .ref xg, .ref xd, .int (zB ld), .ref xs, .int (nI stt), .int (nI sts), .int (nI drw), .ref xn, .ref xb, .ref xv, .int (nI bd), .int (nI rd)])), (xn, aI G 512 fx), (xb, aZ G 512 fb)] := hD
      refine lv_aload_n hx hb dM_safe_16 rfl (lv_at hl 0 rfl) ?_
      refine va_get (D := gD G) (ci := 6) (v := .int (zB ld)) (C := "CircuitProverModel") (T := TM) (N := 20) hx hb htb inM hown hK hP 0 rfl rfl 10 (by decide) (htb _ b681) (fun _ h9 => h9) rfl dM_safe_17 ?_
      refine lv_if_eq (tgt := 34) hx hb dM_safe_20 rfl (fun _ => ?_) (fun h20 => absurd (zB_t h20) (by rw [h5]; decide))
      refine lv_iconst (v := nI 0) hx hb dM_safe_34 (by decide) ?_
      -- end 0
      rw [← hQ]
      exact k_iret hx hb hr hlocks (by decide) (u := 1) (Or.inl ⟨h5, rfl, rfl⟩) hP hD hK hS dM_safe_35
    · have h5 : ld = true := zB_t h5
      refine lv_iconst (v := nI 0) hx hb dM_safe_8 (by decide) ?_
      refine lv_goto (tgt := 13) hx hb dM_safe_9 rfl ?_
      refine va_put (D := gD G) (ci := 6) (v := .int (nI 0)) (ty := tyM 0) (C := "CircuitProverModel") (T := TM) (N := 20) hx hb htb inM tyM tyM_ok nmM hown hK hP hD hS 0 rfl rfl 0 (by decide) (htb _ b671) (fun _ h9 => h9) rfl (tyM_ok 0 (by decide)) rfl rfl (Nat.le_of_ble_eq_true rfl) dM_safe_13 (fun H locs hP hD hS => ?_)
      have hP : va_P (gD G) vC [(qm, .inr (6, [.int (nI 0), .int (nI ul), .ref xt, .int (nI pt), .ref xh, .ref xi, .ref xl, .ref xo, .ref xg, .ref xd, .int (zB ld), .ref xs, .int (nI stt), .int (nI sts), .int (nI drw), .ref xn, .ref xb, .ref xv, .int (nI bd), .int (nI rd)])), (xn, aI G 512 fx), (xb, aZ G 512 fb)] H := hP
      have hD : va_D A [(qm, .inr (6, [.int (nI 0), .int (nI ul), .ref xt, .int (nI pt), .ref xh, .ref xi, .ref xl, .ref xo, .ref xg, .ref xd, .int (zB ld), .ref xs, .int (nI stt), .int (nI sts), .int (nI drw), .ref xn, .ref xb, .ref xv, .int (nI bd), .int (nI rd)])), (xn, aI G 512 fx), (xb, aZ G 512 fb)] := hD
      refine lv_aload_n hx hb dM_safe_16 rfl (lv_at hl 0 rfl) ?_
      refine va_get (D := gD G) (ci := 6) (v := .int (zB ld)) (C := "CircuitProverModel") (T := TM) (N := 20) hx hb htb inM hown hK hP 0 rfl rfl 10 (by decide) (htb _ b681) (fun _ h9 => h9) rfl dM_safe_17 ?_
      refine lv_if_eq (tgt := 34) hx hb dM_safe_20 rfl (fun h20 => absurd (zB_f h20) (by rw [h5]; decide)) (fun _ => ?_)
      refine lv_aload_n hx hb dM_safe_23 rfl (lv_at hl 0 rfl) ?_
      refine k_i (ws2 := fun u => [(qm, .inr (6, [.int (nI 0), .int (nI ul), .ref xt, .int (nI pt), .ref xh, .ref xi, .ref xl, .ref xo, .ref xg, .ref xd, .int (zB ld), .ref xs, .int (nI stt), .int (nI sts), .int (nI drw), .ref xn, .ref xb, .ref xv, .int (nI bd), .int (nI rd)])), (xn, aI G 512 fx), (xb, aZ G 512 fb)]) (wr := []) (k_runV (n := 0) (As := []) (rest := []) hx hb hml hown htb hP hD hK hS hA hE (k_M_isSafe l G H.size qm xt xh xi xl xo xg xd xs xn xb xv 0 ul pt ld stt sts drw bd rd fx fb (show sts ≤ 64 from by omega) (show 1 ≤ drw ∧ drw ≤ 8 from by omega) (show stt < 64 from by omega)) b812 b814 s40 b7 b815 (by decide +kernel) rfl rfl ⟨by rw [hRf]; exact Nat.le_of_ble_eq_true rfl, by rw [hRl]; exact Nat.le_of_ble_eq_true rfl⟩ [0, 1, 2] rfl (by decide) 0 rfl rfl rfl rfl hl.1 rfl (Nat.le_of_ble_eq_true rfl) dM_safe_24 ⟨Nat.zero_le _, Nat.zero_le _⟩) hP hD hS hA [0, 1, 2] [] [0, 1, 2] rfl rfl (by decide) (by decide) (fun u => rfl) (by decide) (fun r u H locs hw hP hD hS => ?_)
      rcases hw with ⟨hc24_e, rfl, rfl⟩ | ⟨hc24_e, rfl, rfl⟩
      · skip
        have hP : va_P (gD G) vC [(qm, .inr (6, [.int (nI 0), .int (nI ul), .ref xt, .int (nI pt), .ref xh, .ref xi, .ref xl, .ref xo, .ref xg, .ref xd, .int (zB ld), .ref xs, .int (nI stt), .int (nI sts), .int (nI drw), .ref xn, .ref xb, .ref xv, .int (nI bd), .int (nI rd)])), (xn, aI G 512 fx), (xb, aZ G 512 fb)] H := hP
        have hD : va_D A [(qm, .inr (6, [.int (nI 0), .int (nI ul), .ref xt, .int (nI pt), .ref xh, .ref xi, .ref xl, .ref xo, .ref xg, .ref xd, .int (zB ld), .ref xs, .int (nI stt), .int (nI sts), .int (nI drw), .ref xn, .ref xb, .ref xv, .int (nI bd), .int (nI rd)])), (xn, aI G 512 fx), (xb, aZ G 512 fb)] := hD
        refine lv_if_eq (tgt := 34) hx hb dM_safe_27 rfl (fun h27 => (by revert h27; first | decide | exact fun z => absurd z (by decide) | exact fun z => z.elim (by decide))) (fun _ => ?_)
        refine lv_iconst (v := nI 1) hx hb dM_safe_30 (by decide) ?_
        refine lv_goto (tgt := 35) hx hb dM_safe_31 rfl ?_
        -- end 1
        rw [← hQ]
        exact k_iret hx hb hr hlocks (by decide) (u := 0) (Or.inr (Or.inl ⟨h5, hc24_e, rfl, rfl⟩)) hP hD hK hS dM_safe_35
      · skip
        have hP : va_P (gD G) vC [(qm, .inr (6, [.int (nI 0), .int (nI ul), .ref xt, .int (nI pt), .ref xh, .ref xi, .ref xl, .ref xo, .ref xg, .ref xd, .int (zB ld), .ref xs, .int (nI stt), .int (nI sts), .int (nI drw), .ref xn, .ref xb, .ref xv, .int (nI bd), .int (nI rd)])), (xn, aI G 512 fx), (xb, aZ G 512 fb)] H := hP
        have hD : va_D A [(qm, .inr (6, [.int (nI 0), .int (nI ul), .ref xt, .int (nI pt), .ref xh, .ref xi, .ref xl, .ref xo, .ref xg, .ref xd, .int (zB ld), .ref xs, .int (nI stt), .int (nI sts), .int (nI drw), .ref xn, .ref xb, .ref xv, .int (nI bd), .int (nI rd)])), (xn, aI G 512 fx), (xb, aZ G 512 fb)] := hD
        refine lv_if_eq (tgt := 34) hx hb dM_safe_27 rfl (fun _ => ?_) (fun h27 => (by revert h27; first | decide | exact fun z => absurd z (by decide) | exact fun z => z.elim (by decide)))
        refine lv_iconst (v := nI 0) hx hb dM_safe_34 (by decide) ?_
        -- end 2
        rw [← hQ]
        exact k_iret hx hb hr hlocks (by decide) (u := 0) (Or.inr (Or.inr ⟨h5, hc24_e, rfl, rfl⟩)) hP hD hK hS dM_safe_35
  rw [hH, hlc] at hgo
  exact hgo
set_option maxRecDepth 100000 in
set_option maxHeartbeats 4000000 in
theorem k_M_depth (l : Launch) (G : GG) (sz : Nat) (qm : Nat) (xt : Nat) (xh : Nat) (xi : Nat) (xl : Nat) (xo : Nat) (xg : Nat) (xd : Nat) (xs : Nat) (xn : Nat) (xb : Nat) (xv : Nat) (th : Nat) (ul : Nat) (pt : Nat) (ld : Bool) (stt : Nat) (sts : Nat) (drw : Nat) (bd : Nat) (rd : Nat) (fx : Nat → Nat) (fb : Nat → Bool) (hz : sts ≤ 64) (hdw : 1 ≤ drw ∧ drw ≤ 8) (hn6 : ∀ a b, a < sts → b < drw → fx (8 * a + b) < 64) (hst : stt < 64) : Ki l yM_depth cM_depth 1 .int 3 69 G [.ref qm] [(qm, .inr (6, [.int (nI th), .int (nI ul), .ref xt, .int (nI pt), .ref xh, .ref xi, .ref xl, .ref xo, .ref xg, .ref xd, .int (zB ld), .ref xs, .int (nI stt), .int (nI sts), .int (nI drw), .ref xn, .ref xb, .ref xv, .int (nI bd), .int (nI rd)])), (xn, aI G 512 fx), (xb, aZ G 512 fb)] sz (fun (r : Int32) (u : Nat) => (ld = false ∧ nI 0 = r ∧ 1 = u) ∨ (ld = true ∧ (gr (postOf sts drw (nxF fx)) 64 (sg stt) &&& (badOf sts drw (bdF fb))) = 0 ∧ (-1) = r ∧ 0 = u) ∨ (ld = true ∧ ¬ (gr (postOf sts drw (nxF fx)) 64 (sg stt) &&& (badOf sts drw (bdF fb))) = 0 ∧ nI (lst (fun j => lb ((nF sts drw (nxF fx) (badOf sts drw (bdF fb))) j) stt) 64) = r ∧ 0 = u)) (fun (u : Nat) => [(qm, .inr (6, [.int (nI u), .int (nI ul), .ref xt, .int (nI pt), .ref xh, .ref xi, .ref xl, .ref xo, .ref xg, .ref xd, .int (zB ld), .ref xs, .int (nI stt), .int (nI sts), .int (nI drw), .ref xn, .ref xb, .ref xv, .int (nI bd), .int (nI rd)])), (xn, aI G 512 fx), (xb, aZ G 512 fb)]) := by
  refine Met.ofW (cc := cM_depth) (maxL := 1) (ret := (some .int)) (by decide) rfl ?_
  intro p e s m args below meth c s₁ B hml hv
  obtain ⟨hav, hsz, hP, hK, hD0, hE⟩ := hv
  have hx := B.exec
  have hb := B.bytes
  have hr := B.returns
  have htb : ∀ w ∈ TB, w.before args s = true := fun w h => atoms_spec (ws := Cond.code yM_depth cM_depth 1 (some .int) :: TB) B.pre w (List.mem_cons_of_mem _ h)
  have hown : s.vm.findClass "CircuitProverModel" = some m.cls := findClass_of_methodNamed B.named
  have hlocks := B.notSynchronized
  subst hsz
  have hD := hD0.self (sz := s.heap.size)
  clear hD0
  generalize hRm : (headSpec (Cond.code yM_depth cM_depth 1 (some .int) :: TB) { frames := 3, cells := 0, slots := 0, locals := 69 }).room = R
  have hRf : R.frames = 3 := by rw [← hRm]; rfl
  have hRl : R.locals = 69 := by rw [← hRm]; rfl
  have hRc : R.cells = 0 := by rw [← hRm]; rfl
  have hRs : R.slots = 0 := by rw [← hRm]; rfl
  clear hRm
  generalize hAe : va_A [(qm, .inr (6, [.int (nI th), .int (nI ul), .ref xt, .int (nI pt), .ref xh, .ref xi, .ref xl, .ref xo, .ref xg, .ref xd, .int (zB ld), .ref xs, .int (nI stt), .int (nI sts), .int (nI drw), .ref xn, .ref xb, .ref xv, .int (nI bd), .int (nI rd)])), (xn, aI G 512 fx), (xb, aZ G 512 fb)] s.heap.size = A at hD hE ⊢
  have hA : ∀ q : Nat, s.heap.size ≤ q → A q := fun q h => by rw [← hAe]; exact Or.inr h
  clear hAe
  have hS : va_S A s.heap s.heap [] := va_S.rf
  have hl := lv_entry ([.ref qm]) (n := 1) (Nat.le_of_ble_eq_true rfl)
  have hent := lg_entry_eq m ([.ref qm]) 1
  rw [← hav] at hent
  rw [hent]
  clear hent hav
  generalize (lg_sl ([.ref qm]) ++ List.replicate (1 - (lg_sl ([.ref qm])).length) Slot.unset).toArray = ls at hl ⊢
  have hl : lv_has ls 1 [(0, .ref qm)] := hl
  generalize hQ : MQ below _ args s 0 0 _ = Q
  have hP : va_P (gD G) vC [(qm, .inr (6, [.int (nI th), .int (nI ul), .ref xt, .int (nI pt), .ref xh, .ref xi, .ref xl, .ref xo, .ref xg, .ref xd, .int (zB ld), .ref xs, .int (nI stt), .int (nI sts), .int (nI drw), .ref xn, .ref xb, .ref xv, .int (nI bd), .int (nI rd)])), (xn, aI G 512 fx), (xb, aZ G 512 fb)] s.heap := hP
  obtain ⟨H, hH⟩ : ∃ H : Heap, H = s.heap := ⟨_, rfl⟩
  obtain ⟨locs, hlc⟩ : ∃ L : List Loc, L = [] := ⟨_, rfl⟩
  have hS : va_S A s.heap H locs := by rw [hH, hlc]; exact hS
  have hP : va_P (gD G) vC [(qm, .inr (6, [.int (nI th), .int (nI ul), .ref xt, .int (nI pt), .ref xh, .ref xi, .ref xl, .ref xo, .ref xg, .ref xd, .int (zB ld), .ref xs, .int (nI stt), .int (nI sts), .int (nI drw), .ref xn, .ref xb, .ref xv, .int (nI bd), .int (nI rd)])), (xn, aI G 512 fx), (xb, aZ G 512 fb)] H := by rw [hH]; exact hP
  have hgo : W p l e R s m args below meth c H locs 0 0 Q (F0 m 0 ls []) := by
    clear hH hlc
    refine lv_aload_n hx hb dM_depth_0 rfl (lv_at hl 0 rfl) ?_
    refine lv_aload_n hx hb dM_depth_1 rfl (lv_at hl 0 rfl) ?_
    refine va_get (D := gD G) (ci := 6) (v := .int (zB ld)) (C := "CircuitProverModel") (T := TM) (N := 20) hx hb htb inM hown hK hP 0 rfl rfl 10 (by decide) (htb _ b681) (fun _ h9 => h9) rfl dM_depth_2 ?_
    refine lv_if_eq (tgt := 12) hx hb dM_depth_5 rfl (fun h5 => ?_) (fun h5 => ?_)
    · have h5 : ld = false := zB_f h5
      refine lv_iconst (v := nI 1) hx hb dM_depth_12 (by decide) ?_
      refine va_put (D := gD G) (ci := 6) (v := .int (nI 1)) (ty := tyM 0) (C := "CircuitProverModel") (T := TM) (N := 20) hx hb htb inM tyM tyM_ok nmM hown hK hP hD hS 0 rfl rfl 0 (by decide) (htb _ b671) (fun _ h9 => h9) rfl (tyM_ok 0 (by decide)) rfl rfl (Nat.le_of_ble_eq_true rfl) dM_depth_13 (fun H locs hP hD hS => ?_)
      have hP : va_P (gD G) vC [(qm, .inr (6, [.int (nI 1), .int (nI ul), .ref xt, .int (nI pt), .ref xh, .ref xi, .ref xl, .ref xo, .ref xg, .ref xd, .int (zB ld), .ref xs, .int (nI stt), .int (nI sts), .int (nI drw), .ref xn, .ref xb, .ref xv, .int (nI bd), .int (nI rd)])), (xn, aI G 512 fx), (xb, aZ G 512 fb)] H := hP
      have hD : va_D A [(qm, .inr (6, [.int (nI 1), .int (nI ul), .ref xt, .int (nI pt), .ref xh, .ref xi, .ref xl, .ref xo, .ref xg, .ref xd, .int (zB ld), .ref xs, .int (nI stt), .int (nI sts), .int (nI drw), .ref xn, .ref xb, .ref xv, .int (nI bd), .int (nI rd)])), (xn, aI G 512 fx), (xb, aZ G 512 fb)] := hD
      refine lv_aload_n hx hb dM_depth_16 rfl (lv_at hl 0 rfl) ?_
      refine va_get (D := gD G) (ci := 6) (v := .int (zB ld)) (C := "CircuitProverModel") (T := TM) (N := 20) hx hb htb inM hown hK hP 0 rfl rfl 10 (by decide) (htb _ b681) (fun _ h9 => h9) rfl dM_depth_17 ?_
      refine lv_if_ne (tgt := 27) hx hb dM_depth_20 rfl (fun h20 => absurd (zB_t h20) (by rw [h5]; decide)) (fun _ => ?_)
      refine lv_iconst (v := nI 0) hx hb dM_depth_23 (by decide) ?_
      refine lv_goto (tgt := 46) hx hb dM_depth_24 rfl ?_
      -- end 0
      rw [← hQ]
      exact k_iret hx hb hr hlocks rfl (u := 1) (Or.inl ⟨h5, rfl, rfl⟩) hP hD hK hS dM_depth_46
    · have h5 : ld = true := zB_t h5
      refine lv_iconst (v := nI 0) hx hb dM_depth_8 (by decide) ?_
      refine lv_goto (tgt := 13) hx hb dM_depth_9 rfl ?_
      refine va_put (D := gD G) (ci := 6) (v := .int (nI 0)) (ty := tyM 0) (C := "CircuitProverModel") (T := TM) (N := 20) hx hb htb inM tyM tyM_ok nmM hown hK hP hD hS 0 rfl rfl 0 (by decide) (htb _ b671) (fun _ h9 => h9) rfl (tyM_ok 0 (by decide)) rfl rfl (Nat.le_of_ble_eq_true rfl) dM_depth_13 (fun H locs hP hD hS => ?_)
      have hP : va_P (gD G) vC [(qm, .inr (6, [.int (nI 0), .int (nI ul), .ref xt, .int (nI pt), .ref xh, .ref xi, .ref xl, .ref xo, .ref xg, .ref xd, .int (zB ld), .ref xs, .int (nI stt), .int (nI sts), .int (nI drw), .ref xn, .ref xb, .ref xv, .int (nI bd), .int (nI rd)])), (xn, aI G 512 fx), (xb, aZ G 512 fb)] H := hP
      have hD : va_D A [(qm, .inr (6, [.int (nI 0), .int (nI ul), .ref xt, .int (nI pt), .ref xh, .ref xi, .ref xl, .ref xo, .ref xg, .ref xd, .int (zB ld), .ref xs, .int (nI stt), .int (nI sts), .int (nI drw), .ref xn, .ref xb, .ref xv, .int (nI bd), .int (nI rd)])), (xn, aI G 512 fx), (xb, aZ G 512 fb)] := hD
      refine lv_aload_n hx hb dM_depth_16 rfl (lv_at hl 0 rfl) ?_
      refine va_get (D := gD G) (ci := 6) (v := .int (zB ld)) (C := "CircuitProverModel") (T := TM) (N := 20) hx hb htb inM hown hK hP 0 rfl rfl 10 (by decide) (htb _ b681) (fun _ h9 => h9) rfl dM_depth_17 ?_
      refine lv_if_ne (tgt := 27) hx hb dM_depth_20 rfl (fun _ => ?_) (fun h20 => absurd (zB_f h20) (by rw [h5]; decide))
      refine lv_aload_n hx hb dM_depth_27 rfl (lv_at hl 0 rfl) ?_
      refine k_i (ws2 := fun u => [(qm, .inr (6, [.int (nI 0), .int (nI ul), .ref xt, .int (nI pt), .ref xh, .ref xi, .ref xl, .ref xo, .ref xg, .ref xd, .int (zB ld), .ref xs, .int (nI stt), .int (nI sts), .int (nI drw), .ref xn, .ref xb, .ref xv, .int (nI bd), .int (nI rd)])), (xn, aI G 512 fx), (xb, aZ G 512 fb)]) (wr := []) (k_runV (n := 0) (As := []) (rest := []) hx hb hml hown htb hP hD hK hS hA hE (k_M_isSafe l G H.size qm xt xh xi xl xo xg xd xs xn xb xv 0 ul pt ld stt sts drw bd rd fx fb (show sts ≤ 64 from by omega) (show 1 ≤ drw ∧ drw ≤ 8 from by omega) (show stt < 64 from by omega)) b812 b814 s40 b7 b815 (by decide +kernel) rfl rfl ⟨by rw [hRf]; exact Nat.le_of_ble_eq_true rfl, by rw [hRl]; exact Nat.le_of_ble_eq_true rfl⟩ [0, 1, 2] rfl (by decide) 0 rfl rfl rfl rfl hl.1 rfl (Nat.le_of_ble_eq_true rfl) dM_depth_28 ⟨Nat.zero_le _, Nat.zero_le _⟩) hP hD hS hA [0, 1, 2] [] [0, 1, 2] rfl rfl (by decide) (by decide) (fun u => rfl) (by decide) (fun r u H locs hw hP hD hS => ?_)
      rcases hw with ⟨hc28_e, rfl, rfl⟩ | ⟨hc28_e, rfl, rfl⟩
      · skip
        have hP : va_P (gD G) vC [(qm, .inr (6, [.int (nI 0), .int (nI ul), .ref xt, .int (nI pt), .ref xh, .ref xi, .ref xl, .ref xo, .ref xg, .ref xd, .int (zB ld), .ref xs, .int (nI stt), .int (nI sts), .int (nI drw), .ref xn, .ref xb, .ref xv, .int (nI bd), .int (nI rd)])), (xn, aI G 512 fx), (xb, aZ G 512 fb)] H := hP
        have hD : va_D A [(qm, .inr (6, [.int (nI 0), .int (nI ul), .ref xt, .int (nI pt), .ref xh, .ref xi, .ref xl, .ref xo, .ref xg, .ref xd, .int (zB ld), .ref xs, .int (nI stt), .int (nI sts), .int (nI drw), .ref xn, .ref xb, .ref xv, .int (nI bd), .int (nI rd)])), (xn, aI G 512 fx), (xb, aZ G 512 fb)] := hD
        refine lv_if_eq (tgt := 38) hx hb dM_depth_31 rfl (fun h31 => (by revert h31; first | decide | exact fun z => absurd z (by decide) | exact fun z => z.elim (by decide))) (fun _ => ?_)
        refine lv_iconst (v := (-1)) hx hb dM_depth_34 (by decide) ?_
        refine lv_goto (tgt := 46) hx hb dM_depth_35 rfl ?_
        -- end 1
        rw [← hQ]
        exact k_iret hx hb hr hlocks rfl (u := 0) (Or.inr (Or.inl ⟨h5, hc28_e, rfl, rfl⟩)) hP hD hK hS dM_depth_46
      · skip
        have hP : va_P (gD G) vC [(qm, .inr (6, [.int (nI 0), .int (nI ul), .ref xt, .int (nI pt), .ref xh, .ref xi, .ref xl, .ref xo, .ref xg, .ref xd, .int (zB ld), .ref xs, .int (nI stt), .int (nI sts), .int (nI drw), .ref xn, .ref xb, .ref xv, .int (nI bd), .int (nI rd)])), (xn, aI G 512 fx), (xb, aZ G 512 fb)] H := hP
        have hD : va_D A [(qm, .inr (6, [.int (nI 0), .int (nI ul), .ref xt, .int (nI pt), .ref xh, .ref xi, .ref xl, .ref xo, .ref xg, .ref xd, .int (zB ld), .ref xs, .int (nI stt), .int (nI sts), .int (nI drw), .ref xn, .ref xb, .ref xv, .int (nI bd), .int (nI rd)])), (xn, aI G 512 fx), (xb, aZ G 512 fb)] := hD
        refine lv_if_eq (tgt := 38) hx hb dM_depth_31 rfl (fun _ => ?_) (fun h31 => (by revert h31; first | decide | exact fun z => absurd z (by decide) | exact fun z => z.elim (by decide)))
        refine lv_aload_n hx hb dM_depth_38 rfl (lv_at hl 0 rfl) ?_
        refine lv_aload_n hx hb dM_depth_39 rfl (lv_at hl 0 rfl) ?_
        refine va_get (D := gD G) (ci := 6) (v := .int (nI stt)) (C := "CircuitProverModel") (T := TM) (N := 20) hx hb htb inM hown hK hP 0 rfl rfl 12 (by decide) (htb _ b683) (fun _ h9 => h9) rfl dM_depth_40 ?_
        refine k_i (ws2 := fun u => [(qm, .inr (6, [.int (nI 0), .int (nI ul), .ref xt, .int (nI pt), .ref xh, .ref xi, .ref xl, .ref xo, .ref xg, .ref xd, .int (zB ld), .ref xs, .int (nI stt), .int (nI sts), .int (nI drw), .ref xn, .ref xb, .ref xv, .int (nI bd), .int (nI rd)])), (xn, aI G 512 fx), (xb, aZ G 512 fb)]) (wr := []) (k_runV (n := 1) (As := [.int (nI stt)]) (rest := []) hx hb hml hown htb hP hD hK hS hA hE (k_M_distance l G H.size qm xt xh xi xl xo xg xd xs xn xb xv 0 ul pt ld stt sts drw bd rd fx fb stt (show sts ≤ 64 from by omega) (show 1 ≤ drw ∧ drw ≤ 8 from by omega) (show ∀ a b, a < sts → b < drw → fx (8 * a + b) < 64 from hn6) (show stt < 64 from by omega)) b832 b834 s44 b7 b835 (by decide +kernel) rfl rfl ⟨by rw [hRf]; exact Nat.le_of_ble_eq_true rfl, by rw [hRl]; exact Nat.le_of_ble_eq_true rfl⟩ [0, 1, 2] rfl (by decide) 0 rfl rfl rfl rfl hl.1 rfl (Nat.le_of_ble_eq_true rfl) dM_depth_43 ⟨Nat.zero_le _, Nat.zero_le _⟩) hP hD hS hA [0, 1, 2] [] [0, 1, 2] rfl rfl (by decide) (by decide) (fun u => rfl) (by decide) (fun r u H locs hw hP hD hS => ?_)
        obtain ⟨rfl, rfl⟩ := hw
        have hP : va_P (gD G) vC [(qm, .inr (6, [.int (nI 0), .int (nI ul), .ref xt, .int (nI pt), .ref xh, .ref xi, .ref xl, .ref xo, .ref xg, .ref xd, .int (zB ld), .ref xs, .int (nI stt), .int (nI sts), .int (nI drw), .ref xn, .ref xb, .ref xv, .int (nI bd), .int (nI rd)])), (xn, aI G 512 fx), (xb, aZ G 512 fb)] H := hP
        have hD : va_D A [(qm, .inr (6, [.int (nI 0), .int (nI ul), .ref xt, .int (nI pt), .ref xh, .ref xi, .ref xl, .ref xo, .ref xg, .ref xd, .int (zB ld), .ref xs, .int (nI stt), .int (nI sts), .int (nI drw), .ref xn, .ref xb, .ref xv, .int (nI bd), .int (nI rd)])), (xn, aI G 512 fx), (xb, aZ G 512 fb)] := hD
        -- end 2
        rw [← hQ]
        exact k_iret hx hb hr hlocks rfl (u := 0) (Or.inr (Or.inr ⟨h5, hc28_e, rfl, rfl⟩)) hP hD hK hS dM_depth_46
  rw [hH, hlc] at hgo
  exact hgo
set_option maxRecDepth 100000 in
set_option maxHeartbeats 4000000 in
theorem k_M_bound (l : Launch) (G : GG) (sz : Nat) (qm : Nat) (xt : Nat) (xh : Nat) (xi : Nat) (xl : Nat) (xo : Nat) (xg : Nat) (xd : Nat) (xs : Nat) (xn : Nat) (xb : Nat) (xv : Nat) (th : Nat) (ul : Nat) (pt : Nat) (ld : Bool) (stt : Nat) (sts : Nat) (drw : Nat) (bd : Nat) (rd : Nat) (fs : Nat → Nat) (fx : Nat → Nat) (fb : Nat → Bool) (hz : sts ≤ 64) (hdw : 1 ≤ drw ∧ drw ≤ 8) (hn6 : ∀ a b, a < sts → b < drw → fx (8 * a + b) < 64) (hst : stt < 64) (hla : fs 2 ≤ 6) : Ki l yM_bound cM_bound 3 .int 3 80 G [.ref qm] [(qm, .inr (6, [.int (nI th), .int (nI ul), .ref xt, .int (nI pt), .ref xh, .ref xi, .ref xl, .ref xo, .ref xg, .ref xd, .int (zB ld), .ref xs, .int (nI stt), .int (nI sts), .int (nI drw), .ref xn, .ref xb, .ref xv, .int (nI bd), .int (nI rd)])), (xs, aI G 5 fs), (xn, aI G 512 fx), (xb, aZ G 512 fb)] sz (fun (r : Int32) (u : Nat × Nat × Nat) => (ld = false ∧ nI 0 = r ∧ (1, bd, rd) = u) ∨ (ld = true ∧ ¬ (gr (postOf sts drw (nxF fx)) 64 (sg stt) &&& (badOf sts drw (bdF fb))) = 0 ∧ (-1) = r ∧ (0, bd, rd) = u) ∨ (ld = true ∧ (gr (postOf sts drw (nxF fx)) 64 (sg stt) &&& (badOf sts drw (bdF fb))) = 0 ∧ nI ((prf (postOf sts drw (nxF fx)) (nrF (nF sts drw (nxF fx) (badOf sts drw (bdF fb)))) (widM sts) (fs 2) (sg stt) 10000 1 (sg stt) 0).1) = r ∧ (0, (prf (postOf sts drw (nxF fx)) (nrF (nF sts drw (nxF fx) (badOf sts drw (bdF fb)))) (widM sts) (fs 2) (sg stt) 10000 1 (sg stt) 0).1, (prf (postOf sts drw (nxF fx)) (nrF (nF sts drw (nxF fx) (badOf sts drw (bdF fb)))) (widM sts) (fs 2) (sg stt) 10000 1 (sg stt) 0).2.2) = u)) (fun (u : Nat × Nat × Nat) => [(qm, .inr (6, [.int (nI u.1), .int (nI ul), .ref xt, .int (nI pt), .ref xh, .ref xi, .ref xl, .ref xo, .ref xg, .ref xd, .int (zB ld), .ref xs, .int (nI stt), .int (nI sts), .int (nI drw), .ref xn, .ref xb, .ref xv, .int (nI u.2.1), .int (nI u.2.2)])), (xs, aI G 5 fs), (xn, aI G 512 fx), (xb, aZ G 512 fb)]) := by
  refine Met.ofW (cc := cM_bound) (maxL := 3) (ret := (some .int)) (by decide) rfl ?_
  intro p e s m args below meth c s₁ B hml hv
  obtain ⟨hav, hsz, hP, hK, hD0, hE⟩ := hv
  have hx := B.exec
  have hb := B.bytes
  have hr := B.returns
  have htb : ∀ w ∈ TB, w.before args s = true := fun w h => atoms_spec (ws := Cond.code yM_bound cM_bound 3 (some .int) :: TB) B.pre w (List.mem_cons_of_mem _ h)
  have hown : s.vm.findClass "CircuitProverModel" = some m.cls := findClass_of_methodNamed B.named
  have hlocks := B.notSynchronized
  subst hsz
  have hD := hD0.self (sz := s.heap.size)
  clear hD0
  generalize hRm : (headSpec (Cond.code yM_bound cM_bound 3 (some .int) :: TB) { frames := 3, cells := 0, slots := 0, locals := 80 }).room = R
  have hRf : R.frames = 3 := by rw [← hRm]; rfl
  have hRl : R.locals = 80 := by rw [← hRm]; rfl
  have hRc : R.cells = 0 := by rw [← hRm]; rfl
  have hRs : R.slots = 0 := by rw [← hRm]; rfl
  clear hRm
  generalize hAe : va_A [(qm, .inr (6, [.int (nI th), .int (nI ul), .ref xt, .int (nI pt), .ref xh, .ref xi, .ref xl, .ref xo, .ref xg, .ref xd, .int (zB ld), .ref xs, .int (nI stt), .int (nI sts), .int (nI drw), .ref xn, .ref xb, .ref xv, .int (nI bd), .int (nI rd)])), (xs, aI G 5 fs), (xn, aI G 512 fx), (xb, aZ G 512 fb)] s.heap.size = A at hD hE ⊢
  have hA : ∀ q : Nat, s.heap.size ≤ q → A q := fun q h => by rw [← hAe]; exact Or.inr h
  clear hAe
  have hS : va_S A s.heap s.heap [] := va_S.rf
  have hl := lv_entry ([.ref qm]) (n := 3) (Nat.le_of_ble_eq_true rfl)
  have hent := lg_entry_eq m ([.ref qm]) 3
  rw [← hav] at hent
  rw [hent]
  clear hent hav
  generalize (lg_sl ([.ref qm]) ++ List.replicate (3 - (lg_sl ([.ref qm])).length) Slot.unset).toArray = ls at hl ⊢
  have hl : lv_has ls 3 [(0, .ref qm)] := hl
  generalize hQ : MQ below _ args s 0 0 _ = Q
  have hP : va_P (gD G) vC [(qm, .inr (6, [.int (nI th), .int (nI ul), .ref xt, .int (nI pt), .ref xh, .ref xi, .ref xl, .ref xo, .ref xg, .ref xd, .int (zB ld), .ref xs, .int (nI stt), .int (nI sts), .int (nI drw), .ref xn, .ref xb, .ref xv, .int (nI bd), .int (nI rd)])), (xs, aI G 5 fs), (xn, aI G 512 fx), (xb, aZ G 512 fb)] s.heap := hP
  obtain ⟨H, hH⟩ : ∃ H : Heap, H = s.heap := ⟨_, rfl⟩
  obtain ⟨locs, hlc⟩ : ∃ L : List Loc, L = [] := ⟨_, rfl⟩
  have hS : va_S A s.heap H locs := by rw [hH, hlc]; exact hS
  have hP : va_P (gD G) vC [(qm, .inr (6, [.int (nI th), .int (nI ul), .ref xt, .int (nI pt), .ref xh, .ref xi, .ref xl, .ref xo, .ref xg, .ref xd, .int (zB ld), .ref xs, .int (nI stt), .int (nI sts), .int (nI drw), .ref xn, .ref xb, .ref xv, .int (nI bd), .int (nI rd)])), (xs, aI G 5 fs), (xn, aI G 512 fx), (xb, aZ G 512 fb)] H := by rw [hH]; exact hP
  have hgo : W p l e R s m args below meth c H locs 0 0 Q (F0 m 0 ls []) := by
    clear hH hlc
    refine lv_aload_n hx hb dM_bound_0 rfl (lv_at hl 0 rfl) ?_
    refine lv_aload_n hx hb dM_bound_1 rfl (lv_at hl 0 rfl) ?_
    refine va_get (D := gD G) (ci := 6) (v := .int (zB ld)) (C := "CircuitProverModel") (T := TM) (N := 20) hx hb htb inM hown hK hP 0 rfl rfl 10 (by decide) (htb _ b681) (fun _ h9 => h9) rfl dM_bound_2 ?_
    refine lv_if_eq (tgt := 12) hx hb dM_bound_5 rfl (fun h5 => ?_) (fun h5 => ?_)
    · have h5 : ld = false := zB_f h5
      refine lv_iconst (v := nI 1) hx hb dM_bound_12 (by decide) ?_
      refine va_put (D := gD G) (ci := 6) (v := .int (nI 1)) (ty := tyM 0) (C := "CircuitProverModel") (T := TM) (N := 20) hx hb htb inM tyM tyM_ok nmM hown hK hP hD hS 0 rfl rfl 0 (by decide) (htb _ b671) (fun _ h9 => h9) rfl (tyM_ok 0 (by decide)) rfl rfl (Nat.le_of_ble_eq_true rfl) dM_bound_13 (fun H locs hP hD hS => ?_)
      have hP : va_P (gD G) vC [(qm, .inr (6, [.int (nI 1), .int (nI ul), .ref xt, .int (nI pt), .ref xh, .ref xi, .ref xl, .ref xo, .ref xg, .ref xd, .int (zB ld), .ref xs, .int (nI stt), .int (nI sts), .int (nI drw), .ref xn, .ref xb, .ref xv, .int (nI bd), .int (nI rd)])), (xs, aI G 5 fs), (xn, aI G 512 fx), (xb, aZ G 512 fb)] H := hP
      have hD : va_D A [(qm, .inr (6, [.int (nI 1), .int (nI ul), .ref xt, .int (nI pt), .ref xh, .ref xi, .ref xl, .ref xo, .ref xg, .ref xd, .int (zB ld), .ref xs, .int (nI stt), .int (nI sts), .int (nI drw), .ref xn, .ref xb, .ref xv, .int (nI bd), .int (nI rd)])), (xs, aI G 5 fs), (xn, aI G 512 fx), (xb, aZ G 512 fb)] := hD
      refine lv_aload_n hx hb dM_bound_16 rfl (lv_at hl 0 rfl) ?_
      refine va_get (D := gD G) (ci := 6) (v := .int (zB ld)) (C := "CircuitProverModel") (T := TM) (N := 20) hx hb htb inM hown hK hP 0 rfl rfl 10 (by decide) (htb _ b681) (fun _ h9 => h9) rfl dM_bound_17 ?_
      refine lv_if_eq (tgt := 30) hx hb dM_bound_20 rfl (fun _ => ?_) (fun h20 => absurd (zB_t h20) (by rw [h5]; decide))
      refine lv_aload_n hx hb dM_bound_30 rfl (lv_at hl 0 rfl) ?_
      refine va_get (D := gD G) (ci := 6) (v := .int (zB ld)) (C := "CircuitProverModel") (T := TM) (N := 20) hx hb htb inM hown hK hP 0 rfl rfl 10 (by decide) (htb _ b681) (fun _ h9 => h9) rfl dM_bound_31 ?_
      refine lv_if_eq (tgt := 41) hx hb dM_bound_34 rfl (fun _ => ?_) (fun h34 => absurd (zB_t h34) (by rw [h5]; decide))
      refine lv_iconst (v := nI 0) hx hb dM_bound_41 (by decide) ?_
      -- end 0
      rw [← hQ]
      exact k_iret hx hb hr hlocks rfl (u := (1, bd, rd)) (Or.inl ⟨h5, rfl, rfl⟩) hP hD hK hS dM_bound_42
    · have h5 : ld = true := zB_t h5
      refine lv_iconst (v := nI 0) hx hb dM_bound_8 (by decide) ?_
      refine lv_goto (tgt := 13) hx hb dM_bound_9 rfl ?_
      refine va_put (D := gD G) (ci := 6) (v := .int (nI 0)) (ty := tyM 0) (C := "CircuitProverModel") (T := TM) (N := 20) hx hb htb inM tyM tyM_ok nmM hown hK hP hD hS 0 rfl rfl 0 (by decide) (htb _ b671) (fun _ h9 => h9) rfl (tyM_ok 0 (by decide)) rfl rfl (Nat.le_of_ble_eq_true rfl) dM_bound_13 (fun H locs hP hD hS => ?_)
      have hP : va_P (gD G) vC [(qm, .inr (6, [.int (nI 0), .int (nI ul), .ref xt, .int (nI pt), .ref xh, .ref xi, .ref xl, .ref xo, .ref xg, .ref xd, .int (zB ld), .ref xs, .int (nI stt), .int (nI sts), .int (nI drw), .ref xn, .ref xb, .ref xv, .int (nI bd), .int (nI rd)])), (xs, aI G 5 fs), (xn, aI G 512 fx), (xb, aZ G 512 fb)] H := hP
      have hD : va_D A [(qm, .inr (6, [.int (nI 0), .int (nI ul), .ref xt, .int (nI pt), .ref xh, .ref xi, .ref xl, .ref xo, .ref xg, .ref xd, .int (zB ld), .ref xs, .int (nI stt), .int (nI sts), .int (nI drw), .ref xn, .ref xb, .ref xv, .int (nI bd), .int (nI rd)])), (xs, aI G 5 fs), (xn, aI G 512 fx), (xb, aZ G 512 fb)] := hD
      refine lv_aload_n hx hb dM_bound_16 rfl (lv_at hl 0 rfl) ?_
      refine va_get (D := gD G) (ci := 6) (v := .int (zB ld)) (C := "CircuitProverModel") (T := TM) (N := 20) hx hb htb inM hown hK hP 0 rfl rfl 10 (by decide) (htb _ b681) (fun _ h9 => h9) rfl dM_bound_17 ?_
      refine lv_if_eq (tgt := 30) hx hb dM_bound_20 rfl (fun h20 => absurd (zB_f h20) (by rw [h5]; decide)) (fun _ => ?_)
      refine lv_aload_n hx hb dM_bound_23 rfl (lv_at hl 0 rfl) ?_
      refine k_i (ws2 := fun u => [(qm, .inr (6, [.int (nI 0), .int (nI ul), .ref xt, .int (nI pt), .ref xh, .ref xi, .ref xl, .ref xo, .ref xg, .ref xd, .int (zB ld), .ref xs, .int (nI stt), .int (nI sts), .int (nI drw), .ref xn, .ref xb, .ref xv, .int (nI bd), .int (nI rd)])), (xs, aI G 5 fs), (xn, aI G 512 fx), (xb, aZ G 512 fb)]) (wr := [(xs, aI G 5 fs)]) (k_runV (n := 0) (As := []) (rest := []) hx hb hml hown htb hP hD hK hS hA hE (k_M_isSafe l G H.size qm xt xh xi xl xo xg xd xs xn xb xv 0 ul pt ld stt sts drw bd rd fx fb (show sts ≤ 64 from by omega) (show 1 ≤ drw ∧ drw ≤ 8 from by omega) (show stt < 64 from by omega)) b812 b814 s40 b7 b815 (by decide +kernel) rfl rfl ⟨by rw [hRf]; exact Nat.le_of_ble_eq_true rfl, by rw [hRl]; exact Nat.le_of_ble_eq_true rfl⟩ [0, 2, 3] rfl (by decide) 0 rfl rfl rfl rfl hl.1 rfl (Nat.le_of_ble_eq_true rfl) dM_bound_24 ⟨Nat.zero_le _, Nat.zero_le _⟩) hP hD hS hA [0, 2, 3] [1] [1, 0, 2, 3] rfl rfl (by decide) (by decide) (fun u => rfl) (by decide) (fun r u H locs hw hP hD hS => ?_)
      rcases hw with ⟨hc24_e, rfl, rfl⟩ | ⟨hc24_e, rfl, rfl⟩
      · skip
        have hP : va_P (gD G) vC [(qm, .inr (6, [.int (nI 0), .int (nI ul), .ref xt, .int (nI pt), .ref xh, .ref xi, .ref xl, .ref xo, .ref xg, .ref xd, .int (zB ld), .ref xs, .int (nI stt), .int (nI sts), .int (nI drw), .ref xn, .ref xb, .ref xv, .int (nI bd), .int (nI rd)])), (xs, aI G 5 fs), (xn, aI G 512 fx), (xb, aZ G 512 fb)] H := hP
        have hD : va_D A [(qm, .inr (6, [.int (nI 0), .int (nI ul), .ref xt, .int (nI pt), .ref xh, .ref xi, .ref xl, .ref xo, .ref xg, .ref xd, .int (zB ld), .ref xs, .int (nI stt), .int (nI sts), .int (nI drw), .ref xn, .ref xb, .ref xv, .int (nI bd), .int (nI rd)])), (xs, aI G 5 fs), (xn, aI G 512 fx), (xb, aZ G 512 fb)] := hD
        refine lv_if_ne (tgt := 43) hx hb dM_bound_27 rfl (fun _ => ?_) (fun h27 => (by revert h27; first | decide | exact fun z => absurd z (by decide) | exact fun z => z.elim (by decide)))
        refine lv_aload_n hx hb dM_bound_43 rfl (lv_at hl 0 rfl) ?_
        refine k_l (ws2 := fun u => [(qm, .inr (6, [.int (nI 0), .int (nI ul), .ref xt, .int (nI pt), .ref xh, .ref xi, .ref xl, .ref xo, .ref xg, .ref xd, .int (zB ld), .ref xs, .int (nI stt), .int (nI sts), .int (nI drw), .ref xn, .ref xb, .ref xv, .int (nI (u.1)), .int (nI (u.2))])), (xs, aI G 5 fs), (xn, aI G 512 fx), (xb, aZ G 512 fb)]) (wr := []) (k_runV (n := 0) (As := []) (rest := []) hx hb hml hown htb hP hD hK hS hA hE (k_M_prove l G H.size qm xt xh xi xl xo xg xd xs xn xb xv 0 ul pt ld stt sts drw bd rd fs fx fb (show sts ≤ 64 from by omega) (show 1 ≤ drw ∧ drw ≤ 8 from by omega) (show ∀ a b, a < sts → b < drw → fx (8 * a + b) < 64 from hn6) (show stt < 64 from by omega) (show fs 2 ≤ 6 from by omega)) b848 b850 s46 b7 b851 (by decide +kernel) rfl rfl ⟨by rw [hRf]; exact Nat.le_of_ble_eq_true rfl, by rw [hRl]; exact Nat.le_of_ble_eq_true rfl⟩ [0, 1, 2, 3] rfl (by decide) 0 rfl rfl rfl rfl hl.1 rfl (Nat.le_of_ble_eq_true rfl) dM_bound_44 ⟨Nat.zero_le _, Nat.zero_le _⟩) hP hD hS hA [0, 1, 2, 3] [] [0, 1, 2, 3] rfl rfl (by decide) (by decide) (fun u => rfl) (by decide) (fun r u H locs hw hP hD hS => ?_)
        obtain ⟨rfl, rfl⟩ := hw
        have hP : va_P (gD G) vC [(qm, .inr (6, [.int (nI 0), .int (nI ul), .ref xt, .int (nI pt), .ref xh, .ref xi, .ref xl, .ref xo, .ref xg, .ref xd, .int (zB ld), .ref xs, .int (nI stt), .int (nI sts), .int (nI drw), .ref xn, .ref xb, .ref xv, .int (nI ((prf (postOf sts drw (nxF fx)) (nrF (nF sts drw (nxF fx) (badOf sts drw (bdF fb)))) (widM sts) (fs 2) (sg stt) 10000 1 (sg stt) 0).1)), .int (nI ((prf (postOf sts drw (nxF fx)) (nrF (nF sts drw (nxF fx) (badOf sts drw (bdF fb)))) (widM sts) (fs 2) (sg stt) 10000 1 (sg stt) 0).2.2))])), (xs, aI G 5 fs), (xn, aI G 512 fx), (xb, aZ G 512 fb)] H := hP
        have hD : va_D A [(qm, .inr (6, [.int (nI 0), .int (nI ul), .ref xt, .int (nI pt), .ref xh, .ref xi, .ref xl, .ref xo, .ref xg, .ref xd, .int (zB ld), .ref xs, .int (nI stt), .int (nI sts), .int (nI drw), .ref xn, .ref xb, .ref xv, .int (nI ((prf (postOf sts drw (nxF fx)) (nrF (nF sts drw (nxF fx) (badOf sts drw (bdF fb)))) (widM sts) (fs 2) (sg stt) 10000 1 (sg stt) 0).1)), .int (nI ((prf (postOf sts drw (nxF fx)) (nrF (nF sts drw (nxF fx) (badOf sts drw (bdF fb)))) (widM sts) (fs 2) (sg stt) 10000 1 (sg stt) 0).2.2))])), (xs, aI G 5 fs), (xn, aI G 512 fx), (xb, aZ G 512 fb)] := hD
        refine lv_lstore_n (lv' := [(1, .long ((prf (postOf sts drw (nxF fx)) (nrF (nF sts drw (nxF fx) (badOf sts drw (bdF fb)))) (widM sts) (fs 2) (sg stt) 10000 1 (sg stt) 0).2.1)), (0, .ref qm)]) hx hb dM_bound_47 rfl hl (by decide) rfl (fun ls hl => ?_)
        refine lv_aload_n hx hb dM_bound_48 rfl (lv_at hl 1 rfl) ?_
        refine va_get (D := gD G) (ci := 6) (v := .int (nI ((prf (postOf sts drw (nxF fx)) (nrF (nF sts drw (nxF fx) (badOf sts drw (bdF fb)))) (widM sts) (fs 2) (sg stt) 10000 1 (sg stt) 0).1))) (C := "CircuitProverModel") (T := TM) (N := 20) hx hb htb inM hown hK hP 0 rfl rfl 18 (by decide) (htb _ b689) (fun _ h9 => h9) rfl dM_bound_49 ?_
        -- end 1
        rw [← hQ]
        exact k_iret hx hb hr hlocks rfl (u := (0, ((prf (postOf sts drw (nxF fx)) (nrF (nF sts drw (nxF fx) (badOf sts drw (bdF fb)))) (widM sts) (fs 2) (sg stt) 10000 1 (sg stt) 0).1), ((prf (postOf sts drw (nxF fx)) (nrF (nF sts drw (nxF fx) (badOf sts drw (bdF fb)))) (widM sts) (fs 2) (sg stt) 10000 1 (sg stt) 0).2.2))) (Or.inr (Or.inr ⟨h5, hc24_e, rfl, rfl⟩)) hP hD hK hS dM_bound_52
      · skip
        have hP : va_P (gD G) vC [(qm, .inr (6, [.int (nI 0), .int (nI ul), .ref xt, .int (nI pt), .ref xh, .ref xi, .ref xl, .ref xo, .ref xg, .ref xd, .int (zB ld), .ref xs, .int (nI stt), .int (nI sts), .int (nI drw), .ref xn, .ref xb, .ref xv, .int (nI bd), .int (nI rd)])), (xs, aI G 5 fs), (xn, aI G 512 fx), (xb, aZ G 512 fb)] H := hP
        have hD : va_D A [(qm, .inr (6, [.int (nI 0), .int (nI ul), .ref xt, .int (nI pt), .ref xh, .ref xi, .ref xl, .ref xo, .ref xg, .ref xd, .int (zB ld), .ref xs, .int (nI stt), .int (nI sts), .int (nI drw), .ref xn, .ref xb, .ref xv, .int (nI bd), .int (nI rd)])), (xs, aI G 5 fs), (xn, aI G 512 fx), (xb, aZ G 512 fb)] := hD
        refine lv_if_ne (tgt := 43) hx hb dM_bound_27 rfl (fun h27 => (by revert h27; first | decide | exact fun z => absurd z (by decide) | exact fun z => z.elim (by decide))) (fun _ => ?_)
        refine lv_aload_n hx hb dM_bound_30 rfl (lv_at hl 0 rfl) ?_
        refine va_get (D := gD G) (ci := 6) (v := .int (zB ld)) (C := "CircuitProverModel") (T := TM) (N := 20) hx hb htb inM hown hK hP 0 rfl rfl 10 (by decide) (htb _ b681) (fun _ h9 => h9) rfl dM_bound_31 ?_
        refine lv_if_eq (tgt := 41) hx hb dM_bound_34 rfl (fun h34 => absurd (zB_f h34) (by rw [h5]; decide)) (fun _ => ?_)
        refine lv_iconst (v := (-1)) hx hb dM_bound_37 (by decide) ?_
        refine lv_goto (tgt := 42) hx hb dM_bound_38 rfl ?_
        -- end 2
        rw [← hQ]
        exact k_iret hx hb hr hlocks rfl (u := (0, bd, rd)) (Or.inr (Or.inl ⟨h5, hc24_e, rfl, rfl⟩)) hP hD hK hS dM_bound_42
  rw [hH, hlc] at hgo
  exact hgo
set_option maxRecDepth 100000 in
set_option maxHeartbeats 4000000 in
theorem k_M_rounds (l : Launch) (G : GG) (sz : Nat) (qm : Nat) (xt : Nat) (xh : Nat) (xi : Nat) (xl : Nat) (xo : Nat) (xg : Nat) (xd : Nat) (xs : Nat) (xn : Nat) (xb : Nat) (xv : Nat) (th : Nat) (ul : Nat) (pt : Nat) (ld : Bool) (stt : Nat) (sts : Nat) (drw : Nat) (bd : Nat) (rd : Nat) (fs : Nat → Nat) (fx : Nat → Nat) (fb : Nat → Bool) (hz : sts ≤ 64) (hdw : 1 ≤ drw ∧ drw ≤ 8) (hn6 : ∀ a b, a < sts → b < drw → fx (8 * a + b) < 64) (hst : stt < 64) (hla : fs 2 ≤ 6) : Ki l yM_rounds cM_rounds 3 .int 3 80 G [.ref qm] [(qm, .inr (6, [.int (nI th), .int (nI ul), .ref xt, .int (nI pt), .ref xh, .ref xi, .ref xl, .ref xo, .ref xg, .ref xd, .int (zB ld), .ref xs, .int (nI stt), .int (nI sts), .int (nI drw), .ref xn, .ref xb, .ref xv, .int (nI bd), .int (nI rd)])), (xs, aI G 5 fs), (xn, aI G 512 fx), (xb, aZ G 512 fb)] sz (fun (r : Int32) (u : Nat × Nat × Nat) => (ld = false ∧ nI 0 = r ∧ (1, bd, rd) = u) ∨ (ld = true ∧ ¬ (gr (postOf sts drw (nxF fx)) 64 (sg stt) &&& (badOf sts drw (bdF fb))) = 0 ∧ (-1) = r ∧ (0, bd, rd) = u) ∨ (ld = true ∧ (gr (postOf sts drw (nxF fx)) 64 (sg stt) &&& (badOf sts drw (bdF fb))) = 0 ∧ nI ((prf (postOf sts drw (nxF fx)) (nrF (nF sts drw (nxF fx) (badOf sts drw (bdF fb)))) (widM sts) (fs 2) (sg stt) 10000 1 (sg stt) 0).2.2) = r ∧ (0, (prf (postOf sts drw (nxF fx)) (nrF (nF sts drw (nxF fx) (badOf sts drw (bdF fb)))) (widM sts) (fs 2) (sg stt) 10000 1 (sg stt) 0).1, (prf (postOf sts drw (nxF fx)) (nrF (nF sts drw (nxF fx) (badOf sts drw (bdF fb)))) (widM sts) (fs 2) (sg stt) 10000 1 (sg stt) 0).2.2) = u)) (fun (u : Nat × Nat × Nat) => [(qm, .inr (6, [.int (nI u.1), .int (nI ul), .ref xt, .int (nI pt), .ref xh, .ref xi, .ref xl, .ref xo, .ref xg, .ref xd, .int (zB ld), .ref xs, .int (nI stt), .int (nI sts), .int (nI drw), .ref xn, .ref xb, .ref xv, .int (nI u.2.1), .int (nI u.2.2)])), (xs, aI G 5 fs), (xn, aI G 512 fx), (xb, aZ G 512 fb)]) := by
  refine Met.ofW (cc := cM_rounds) (maxL := 3) (ret := (some .int)) (by decide) rfl ?_
  intro p e s m args below meth c s₁ B hml hv
  obtain ⟨hav, hsz, hP, hK, hD0, hE⟩ := hv
  have hx := B.exec
  have hb := B.bytes
  have hr := B.returns
  have htb : ∀ w ∈ TB, w.before args s = true := fun w h => atoms_spec (ws := Cond.code yM_rounds cM_rounds 3 (some .int) :: TB) B.pre w (List.mem_cons_of_mem _ h)
  have hown : s.vm.findClass "CircuitProverModel" = some m.cls := findClass_of_methodNamed B.named
  have hlocks := B.notSynchronized
  subst hsz
  have hD := hD0.self (sz := s.heap.size)
  clear hD0
  generalize hRm : (headSpec (Cond.code yM_rounds cM_rounds 3 (some .int) :: TB) { frames := 3, cells := 0, slots := 0, locals := 80 }).room = R
  have hRf : R.frames = 3 := by rw [← hRm]; rfl
  have hRl : R.locals = 80 := by rw [← hRm]; rfl
  have hRc : R.cells = 0 := by rw [← hRm]; rfl
  have hRs : R.slots = 0 := by rw [← hRm]; rfl
  clear hRm
  generalize hAe : va_A [(qm, .inr (6, [.int (nI th), .int (nI ul), .ref xt, .int (nI pt), .ref xh, .ref xi, .ref xl, .ref xo, .ref xg, .ref xd, .int (zB ld), .ref xs, .int (nI stt), .int (nI sts), .int (nI drw), .ref xn, .ref xb, .ref xv, .int (nI bd), .int (nI rd)])), (xs, aI G 5 fs), (xn, aI G 512 fx), (xb, aZ G 512 fb)] s.heap.size = A at hD hE ⊢
  have hA : ∀ q : Nat, s.heap.size ≤ q → A q := fun q h => by rw [← hAe]; exact Or.inr h
  clear hAe
  have hS : va_S A s.heap s.heap [] := va_S.rf
  have hl := lv_entry ([.ref qm]) (n := 3) (Nat.le_of_ble_eq_true rfl)
  have hent := lg_entry_eq m ([.ref qm]) 3
  rw [← hav] at hent
  rw [hent]
  clear hent hav
  generalize (lg_sl ([.ref qm]) ++ List.replicate (3 - (lg_sl ([.ref qm])).length) Slot.unset).toArray = ls at hl ⊢
  have hl : lv_has ls 3 [(0, .ref qm)] := hl
  generalize hQ : MQ below _ args s 0 0 _ = Q
  have hP : va_P (gD G) vC [(qm, .inr (6, [.int (nI th), .int (nI ul), .ref xt, .int (nI pt), .ref xh, .ref xi, .ref xl, .ref xo, .ref xg, .ref xd, .int (zB ld), .ref xs, .int (nI stt), .int (nI sts), .int (nI drw), .ref xn, .ref xb, .ref xv, .int (nI bd), .int (nI rd)])), (xs, aI G 5 fs), (xn, aI G 512 fx), (xb, aZ G 512 fb)] s.heap := hP
  obtain ⟨H, hH⟩ : ∃ H : Heap, H = s.heap := ⟨_, rfl⟩
  obtain ⟨locs, hlc⟩ : ∃ L : List Loc, L = [] := ⟨_, rfl⟩
  have hS : va_S A s.heap H locs := by rw [hH, hlc]; exact hS
  have hP : va_P (gD G) vC [(qm, .inr (6, [.int (nI th), .int (nI ul), .ref xt, .int (nI pt), .ref xh, .ref xi, .ref xl, .ref xo, .ref xg, .ref xd, .int (zB ld), .ref xs, .int (nI stt), .int (nI sts), .int (nI drw), .ref xn, .ref xb, .ref xv, .int (nI bd), .int (nI rd)])), (xs, aI G 5 fs), (xn, aI G 512 fx), (xb, aZ G 512 fb)] H := by rw [hH]; exact hP
  have hgo : W p l e R s m args below meth c H locs 0 0 Q (F0 m 0 ls []) := by
    clear hH hlc
    refine lv_aload_n hx hb dM_rounds_0 rfl (lv_at hl 0 rfl) ?_
    refine lv_aload_n hx hb dM_rounds_1 rfl (lv_at hl 0 rfl) ?_
    refine va_get (D := gD G) (ci := 6) (v := .int (zB ld)) (C := "CircuitProverModel") (T := TM) (N := 20) hx hb htb inM hown hK hP 0 rfl rfl 10 (by decide) (htb _ b681) (fun _ h9 => h9) rfl dM_rounds_2 ?_
    refine lv_if_eq (tgt := 12) hx hb dM_rounds_5 rfl (fun h5 => ?_) (fun h5 => ?_)
    · have h5 : ld = false := zB_f h5
      refine lv_iconst (v := nI 1) hx hb dM_rounds_12 (by decide) ?_
      refine va_put (D := gD G) (ci := 6) (v := .int (nI 1)) (ty := tyM 0) (C := "CircuitProverModel") (T := TM) (N := 20) hx hb htb inM tyM tyM_ok nmM hown hK hP hD hS 0 rfl rfl 0 (by decide) (htb _ b671) (fun _ h9 => h9) rfl (tyM_ok 0 (by decide)) rfl rfl (Nat.le_of_ble_eq_true rfl) dM_rounds_13 (fun H locs hP hD hS => ?_)
      have hP : va_P (gD G) vC [(qm, .inr (6, [.int (nI 1), .int (nI ul), .ref xt, .int (nI pt), .ref xh, .ref xi, .ref xl, .ref xo, .ref xg, .ref xd, .int (zB ld), .ref xs, .int (nI stt), .int (nI sts), .int (nI drw), .ref xn, .ref xb, .ref xv, .int (nI bd), .int (nI rd)])), (xs, aI G 5 fs), (xn, aI G 512 fx), (xb, aZ G 512 fb)] H := hP
      have hD : va_D A [(qm, .inr (6, [.int (nI 1), .int (nI ul), .ref xt, .int (nI pt), .ref xh, .ref xi, .ref xl, .ref xo, .ref xg, .ref xd, .int (zB ld), .ref xs, .int (nI stt), .int (nI sts), .int (nI drw), .ref xn, .ref xb, .ref xv, .int (nI bd), .int (nI rd)])), (xs, aI G 5 fs), (xn, aI G 512 fx), (xb, aZ G 512 fb)] := hD
      refine lv_aload_n hx hb dM_rounds_16 rfl (lv_at hl 0 rfl) ?_
      refine va_get (D := gD G) (ci := 6) (v := .int (zB ld)) (C := "CircuitProverModel") (T := TM) (N := 20) hx hb htb inM hown hK hP 0 rfl rfl 10 (by decide) (htb _ b681) (fun _ h9 => h9) rfl dM_rounds_17 ?_
      refine lv_if_eq (tgt := 30) hx hb dM_rounds_20 rfl (fun _ => ?_) (fun h20 => absurd (zB_t h20) (by rw [h5]; decide))
      refine lv_aload_n hx hb dM_rounds_30 rfl (lv_at hl 0 rfl) ?_
      refine va_get (D := gD G) (ci := 6) (v := .int (zB ld)) (C := "CircuitProverModel") (T := TM) (N := 20) hx hb htb inM hown hK hP 0 rfl rfl 10 (by decide) (htb _ b681) (fun _ h9 => h9) rfl dM_rounds_31 ?_
      refine lv_if_eq (tgt := 41) hx hb dM_rounds_34 rfl (fun _ => ?_) (fun h34 => absurd (zB_t h34) (by rw [h5]; decide))
      refine lv_iconst (v := nI 0) hx hb dM_rounds_41 (by decide) ?_
      -- end 0
      rw [← hQ]
      exact k_iret hx hb hr hlocks rfl (u := (1, bd, rd)) (Or.inl ⟨h5, rfl, rfl⟩) hP hD hK hS dM_rounds_42
    · have h5 : ld = true := zB_t h5
      refine lv_iconst (v := nI 0) hx hb dM_rounds_8 (by decide) ?_
      refine lv_goto (tgt := 13) hx hb dM_rounds_9 rfl ?_
      refine va_put (D := gD G) (ci := 6) (v := .int (nI 0)) (ty := tyM 0) (C := "CircuitProverModel") (T := TM) (N := 20) hx hb htb inM tyM tyM_ok nmM hown hK hP hD hS 0 rfl rfl 0 (by decide) (htb _ b671) (fun _ h9 => h9) rfl (tyM_ok 0 (by decide)) rfl rfl (Nat.le_of_ble_eq_true rfl) dM_rounds_13 (fun H locs hP hD hS => ?_)
      have hP : va_P (gD G) vC [(qm, .inr (6, [.int (nI 0), .int (nI ul), .ref xt, .int (nI pt), .ref xh, .ref xi, .ref xl, .ref xo, .ref xg, .ref xd, .int (zB ld), .ref xs, .int (nI stt), .int (nI sts), .int (nI drw), .ref xn, .ref xb, .ref xv, .int (nI bd), .int (nI rd)])), (xs, aI G 5 fs), (xn, aI G 512 fx), (xb, aZ G 512 fb)] H := hP
      have hD : va_D A [(qm, .inr (6, [.int (nI 0), .int (nI ul), .ref xt, .int (nI pt), .ref xh, .ref xi, .ref xl, .ref xo, .ref xg, .ref xd, .int (zB ld), .ref xs, .int (nI stt), .int (nI sts), .int (nI drw), .ref xn, .ref xb, .ref xv, .int (nI bd), .int (nI rd)])), (xs, aI G 5 fs), (xn, aI G 512 fx), (xb, aZ G 512 fb)] := hD
      refine lv_aload_n hx hb dM_rounds_16 rfl (lv_at hl 0 rfl) ?_
      refine va_get (D := gD G) (ci := 6) (v := .int (zB ld)) (C := "CircuitProverModel") (T := TM) (N := 20) hx hb htb inM hown hK hP 0 rfl rfl 10 (by decide) (htb _ b681) (fun _ h9 => h9) rfl dM_rounds_17 ?_
      refine lv_if_eq (tgt := 30) hx hb dM_rounds_20 rfl (fun h20 => absurd (zB_f h20) (by rw [h5]; decide)) (fun _ => ?_)
      refine lv_aload_n hx hb dM_rounds_23 rfl (lv_at hl 0 rfl) ?_
      refine k_i (ws2 := fun u => [(qm, .inr (6, [.int (nI 0), .int (nI ul), .ref xt, .int (nI pt), .ref xh, .ref xi, .ref xl, .ref xo, .ref xg, .ref xd, .int (zB ld), .ref xs, .int (nI stt), .int (nI sts), .int (nI drw), .ref xn, .ref xb, .ref xv, .int (nI bd), .int (nI rd)])), (xs, aI G 5 fs), (xn, aI G 512 fx), (xb, aZ G 512 fb)]) (wr := [(xs, aI G 5 fs)]) (k_runV (n := 0) (As := []) (rest := []) hx hb hml hown htb hP hD hK hS hA hE (k_M_isSafe l G H.size qm xt xh xi xl xo xg xd xs xn xb xv 0 ul pt ld stt sts drw bd rd fx fb (show sts ≤ 64 from by omega) (show 1 ≤ drw ∧ drw ≤ 8 from by omega) (show stt < 64 from by omega)) b812 b814 s40 b7 b815 (by decide +kernel) rfl rfl ⟨by rw [hRf]; exact Nat.le_of_ble_eq_true rfl, by rw [hRl]; exact Nat.le_of_ble_eq_true rfl⟩ [0, 2, 3] rfl (by decide) 0 rfl rfl rfl rfl hl.1 rfl (Nat.le_of_ble_eq_true rfl) dM_rounds_24 ⟨Nat.zero_le _, Nat.zero_le _⟩) hP hD hS hA [0, 2, 3] [1] [1, 0, 2, 3] rfl rfl (by decide) (by decide) (fun u => rfl) (by decide) (fun r u H locs hw hP hD hS => ?_)
      rcases hw with ⟨hc24_e, rfl, rfl⟩ | ⟨hc24_e, rfl, rfl⟩
      · skip
        have hP : va_P (gD G) vC [(qm, .inr (6, [.int (nI 0), .int (nI ul), .ref xt, .int (nI pt), .ref xh, .ref xi, .ref xl, .ref xo, .ref xg, .ref xd, .int (zB ld), .ref xs, .int (nI stt), .int (nI sts), .int (nI drw), .ref xn, .ref xb, .ref xv, .int (nI bd), .int (nI rd)])), (xs, aI G 5 fs), (xn, aI G 512 fx), (xb, aZ G 512 fb)] H := hP
        have hD : va_D A [(qm, .inr (6, [.int (nI 0), .int (nI ul), .ref xt, .int (nI pt), .ref xh, .ref xi, .ref xl, .ref xo, .ref xg, .ref xd, .int (zB ld), .ref xs, .int (nI stt), .int (nI sts), .int (nI drw), .ref xn, .ref xb, .ref xv, .int (nI bd), .int (nI rd)])), (xs, aI G 5 fs), (xn, aI G 512 fx), (xb, aZ G 512 fb)] := hD
        refine lv_if_ne (tgt := 43) hx hb dM_rounds_27 rfl (fun _ => ?_) (fun h27 => (by revert h27; first | decide | exact fun z => absurd z (by decide) | exact fun z => z.elim (by decide)))
        refine lv_aload_n hx hb dM_rounds_43 rfl (lv_at hl 0 rfl) ?_
        refine k_l (ws2 := fun u => [(qm, .inr (6, [.int (nI 0), .int (nI ul), .ref xt, .int (nI pt), .ref xh, .ref xi, .ref xl, .ref xo, .ref xg, .ref xd, .int (zB ld), .ref xs, .int (nI stt), .int (nI sts), .int (nI drw), .ref xn, .ref xb, .ref xv, .int (nI (u.1)), .int (nI (u.2))])), (xs, aI G 5 fs), (xn, aI G 512 fx), (xb, aZ G 512 fb)]) (wr := []) (k_runV (n := 0) (As := []) (rest := []) hx hb hml hown htb hP hD hK hS hA hE (k_M_prove l G H.size qm xt xh xi xl xo xg xd xs xn xb xv 0 ul pt ld stt sts drw bd rd fs fx fb (show sts ≤ 64 from by omega) (show 1 ≤ drw ∧ drw ≤ 8 from by omega) (show ∀ a b, a < sts → b < drw → fx (8 * a + b) < 64 from hn6) (show stt < 64 from by omega) (show fs 2 ≤ 6 from by omega)) b848 b850 s46 b7 b851 (by decide +kernel) rfl rfl ⟨by rw [hRf]; exact Nat.le_of_ble_eq_true rfl, by rw [hRl]; exact Nat.le_of_ble_eq_true rfl⟩ [0, 1, 2, 3] rfl (by decide) 0 rfl rfl rfl rfl hl.1 rfl (Nat.le_of_ble_eq_true rfl) dM_rounds_44 ⟨Nat.zero_le _, Nat.zero_le _⟩) hP hD hS hA [0, 1, 2, 3] [] [0, 1, 2, 3] rfl rfl (by decide) (by decide) (fun u => rfl) (by decide) (fun r u H locs hw hP hD hS => ?_)
        obtain ⟨rfl, rfl⟩ := hw
        have hP : va_P (gD G) vC [(qm, .inr (6, [.int (nI 0), .int (nI ul), .ref xt, .int (nI pt), .ref xh, .ref xi, .ref xl, .ref xo, .ref xg, .ref xd, .int (zB ld), .ref xs, .int (nI stt), .int (nI sts), .int (nI drw), .ref xn, .ref xb, .ref xv, .int (nI ((prf (postOf sts drw (nxF fx)) (nrF (nF sts drw (nxF fx) (badOf sts drw (bdF fb)))) (widM sts) (fs 2) (sg stt) 10000 1 (sg stt) 0).1)), .int (nI ((prf (postOf sts drw (nxF fx)) (nrF (nF sts drw (nxF fx) (badOf sts drw (bdF fb)))) (widM sts) (fs 2) (sg stt) 10000 1 (sg stt) 0).2.2))])), (xs, aI G 5 fs), (xn, aI G 512 fx), (xb, aZ G 512 fb)] H := hP
        have hD : va_D A [(qm, .inr (6, [.int (nI 0), .int (nI ul), .ref xt, .int (nI pt), .ref xh, .ref xi, .ref xl, .ref xo, .ref xg, .ref xd, .int (zB ld), .ref xs, .int (nI stt), .int (nI sts), .int (nI drw), .ref xn, .ref xb, .ref xv, .int (nI ((prf (postOf sts drw (nxF fx)) (nrF (nF sts drw (nxF fx) (badOf sts drw (bdF fb)))) (widM sts) (fs 2) (sg stt) 10000 1 (sg stt) 0).1)), .int (nI ((prf (postOf sts drw (nxF fx)) (nrF (nF sts drw (nxF fx) (badOf sts drw (bdF fb)))) (widM sts) (fs 2) (sg stt) 10000 1 (sg stt) 0).2.2))])), (xs, aI G 5 fs), (xn, aI G 512 fx), (xb, aZ G 512 fb)] := hD
        refine lv_lstore_n (lv' := [(1, .long ((prf (postOf sts drw (nxF fx)) (nrF (nF sts drw (nxF fx) (badOf sts drw (bdF fb)))) (widM sts) (fs 2) (sg stt) 10000 1 (sg stt) 0).2.1)), (0, .ref qm)]) hx hb dM_rounds_47 rfl hl (by decide) rfl (fun ls hl => ?_)
        refine lv_aload_n hx hb dM_rounds_48 rfl (lv_at hl 1 rfl) ?_
        refine va_get (D := gD G) (ci := 6) (v := .int (nI ((prf (postOf sts drw (nxF fx)) (nrF (nF sts drw (nxF fx) (badOf sts drw (bdF fb)))) (widM sts) (fs 2) (sg stt) 10000 1 (sg stt) 0).2.2))) (C := "CircuitProverModel") (T := TM) (N := 20) hx hb htb inM hown hK hP 0 rfl rfl 19 (by decide) (htb _ b690) (fun _ h9 => h9) rfl dM_rounds_49 ?_
        -- end 1
        rw [← hQ]
        exact k_iret hx hb hr hlocks rfl (u := (0, ((prf (postOf sts drw (nxF fx)) (nrF (nF sts drw (nxF fx) (badOf sts drw (bdF fb)))) (widM sts) (fs 2) (sg stt) 10000 1 (sg stt) 0).1), ((prf (postOf sts drw (nxF fx)) (nrF (nF sts drw (nxF fx) (badOf sts drw (bdF fb)))) (widM sts) (fs 2) (sg stt) 10000 1 (sg stt) 0).2.2))) (Or.inr (Or.inr ⟨h5, hc24_e, rfl, rfl⟩)) hP hD hK hS dM_rounds_52
      · skip
        have hP : va_P (gD G) vC [(qm, .inr (6, [.int (nI 0), .int (nI ul), .ref xt, .int (nI pt), .ref xh, .ref xi, .ref xl, .ref xo, .ref xg, .ref xd, .int (zB ld), .ref xs, .int (nI stt), .int (nI sts), .int (nI drw), .ref xn, .ref xb, .ref xv, .int (nI bd), .int (nI rd)])), (xs, aI G 5 fs), (xn, aI G 512 fx), (xb, aZ G 512 fb)] H := hP
        have hD : va_D A [(qm, .inr (6, [.int (nI 0), .int (nI ul), .ref xt, .int (nI pt), .ref xh, .ref xi, .ref xl, .ref xo, .ref xg, .ref xd, .int (zB ld), .ref xs, .int (nI stt), .int (nI sts), .int (nI drw), .ref xn, .ref xb, .ref xv, .int (nI bd), .int (nI rd)])), (xs, aI G 5 fs), (xn, aI G 512 fx), (xb, aZ G 512 fb)] := hD
        refine lv_if_ne (tgt := 43) hx hb dM_rounds_27 rfl (fun h27 => (by revert h27; first | decide | exact fun z => absurd z (by decide) | exact fun z => z.elim (by decide))) (fun _ => ?_)
        refine lv_aload_n hx hb dM_rounds_30 rfl (lv_at hl 0 rfl) ?_
        refine va_get (D := gD G) (ci := 6) (v := .int (zB ld)) (C := "CircuitProverModel") (T := TM) (N := 20) hx hb htb inM hown hK hP 0 rfl rfl 10 (by decide) (htb _ b681) (fun _ h9 => h9) rfl dM_rounds_31 ?_
        refine lv_if_eq (tgt := 41) hx hb dM_rounds_34 rfl (fun h34 => absurd (zB_f h34) (by rw [h5]; decide)) (fun _ => ?_)
        refine lv_iconst (v := (-1)) hx hb dM_rounds_37 (by decide) ?_
        refine lv_goto (tgt := 42) hx hb dM_rounds_38 rfl ?_
        -- end 2
        rw [← hQ]
        exact k_iret hx hb hr hlocks rfl (u := (0, bd, rd)) (Or.inr (Or.inl ⟨h5, hc24_e, rfl, rfl⟩)) hP hD hK hS dM_rounds_42
  rw [hH, hlc] at hgo
  exact hgo
set_option maxRecDepth 100000 in
set_option maxHeartbeats 4000000 in
theorem k_M_holds (l : Launch) (G : GG) (sz : Nat) (qm : Nat) (xt : Nat) (xh : Nat) (xi : Nat) (xl : Nat) (xo : Nat) (xg : Nat) (xd : Nat) (xs : Nat) (xn : Nat) (xb : Nat) (xv : Nat) (th : Nat) (ul : Nat) (pt : Nat) (ld : Bool) (stt : Nat) (sts : Nat) (drw : Nat) (bd : Nat) (rd : Nat) (fs : Nat → Nat) (fx : Nat → Nat) (fb : Nat → Bool) (x : Int32) (hz : sts ≤ 64) (hdw : 1 ≤ drw ∧ drw ≤ 8) (hn6 : ∀ a b, a < sts → b < drw → fx (8 * a + b) < 64) (hst : stt < 64) (hla : fs 2 ≤ 6) : Ki l yM_holds cM_holds 4 .boolean 3 80 G [.ref qm, .int x] [(qm, .inr (6, [.int (nI th), .int (nI ul), .ref xt, .int (nI pt), .ref xh, .ref xi, .ref xl, .ref xo, .ref xg, .ref xd, .int (zB ld), .ref xs, .int (nI stt), .int (nI sts), .int (nI drw), .ref xn, .ref xb, .ref xv, .int (nI bd), .int (nI rd)])), (xs, aI G 5 fs), (xn, aI G 512 fx), (xb, aZ G 512 fb)] sz (fun (r : Int32) (u : Nat × Nat × Nat) => (ld = false ∧ nI 0 = r ∧ (1, bd, rd) = u) ∨ (ld = true ∧ (∀ j, j < sts → ¬ x = nI j) ∧ nI 0 = r ∧ (0, bd, rd) = u) ∨ (ld = true ∧ ¬ (gr (postOf sts drw (nxF fx)) 64 (sg stt) &&& (badOf sts drw (bdF fb))) = 0 ∧ nI 0 = r ∧ (0, bd, rd) = u) ∨ (∃ (j : Nat), ld = true ∧ (gr (postOf sts drw (nxF fx)) 64 (sg stt) &&& (badOf sts drw (bdF fb))) = 0 ∧ (j < sts ∧ x = nI j) ∧ zB (lb (prf (postOf sts drw (nxF fx)) (nrF (nF sts drw (nxF fx) (badOf sts drw (bdF fb)))) (widM sts) (fs 2) (sg stt) 10000 1 (sg stt) 0).2.1 j) = r ∧ (0, (prf (postOf sts drw (nxF fx)) (nrF (nF sts drw (nxF fx) (badOf sts drw (bdF fb)))) (widM sts) (fs 2) (sg stt) 10000 1 (sg stt) 0).1, (prf (postOf sts drw (nxF fx)) (nrF (nF sts drw (nxF fx) (badOf sts drw (bdF fb)))) (widM sts) (fs 2) (sg stt) 10000 1 (sg stt) 0).2.2) = u)) (fun (u : Nat × Nat × Nat) => [(qm, .inr (6, [.int (nI u.1), .int (nI ul), .ref xt, .int (nI pt), .ref xh, .ref xi, .ref xl, .ref xo, .ref xg, .ref xd, .int (zB ld), .ref xs, .int (nI stt), .int (nI sts), .int (nI drw), .ref xn, .ref xb, .ref xv, .int (nI u.2.1), .int (nI u.2.2)])), (xs, aI G 5 fs), (xn, aI G 512 fx), (xb, aZ G 512 fb)]) := by
  refine Met.ofW (cc := cM_holds) (maxL := 4) (ret := (some .boolean)) (by decide) rfl ?_
  intro p e s m args below meth c s₁ B hml hv
  obtain ⟨hav, hsz, hP, hK, hD0, hE⟩ := hv
  have hx := B.exec
  have hb := B.bytes
  have hr := B.returns
  have htb : ∀ w ∈ TB, w.before args s = true := fun w h => atoms_spec (ws := Cond.code yM_holds cM_holds 4 (some .boolean) :: TB) B.pre w (List.mem_cons_of_mem _ h)
  have hown : s.vm.findClass "CircuitProverModel" = some m.cls := findClass_of_methodNamed B.named
  have hlocks := B.notSynchronized
  subst hsz
  have hD := hD0.self (sz := s.heap.size)
  clear hD0
  generalize hRm : (headSpec (Cond.code yM_holds cM_holds 4 (some .boolean) :: TB) { frames := 3, cells := 0, slots := 0, locals := 80 }).room = R
  have hRf : R.frames = 3 := by rw [← hRm]; rfl
  have hRl : R.locals = 80 := by rw [← hRm]; rfl
  have hRc : R.cells = 0 := by rw [← hRm]; rfl
  have hRs : R.slots = 0 := by rw [← hRm]; rfl
  clear hRm
  generalize hAe : va_A [(qm, .inr (6, [.int (nI th), .int (nI ul), .ref xt, .int (nI pt), .ref xh, .ref xi, .ref xl, .ref xo, .ref xg, .ref xd, .int (zB ld), .ref xs, .int (nI stt), .int (nI sts), .int (nI drw), .ref xn, .ref xb, .ref xv, .int (nI bd), .int (nI rd)])), (xs, aI G 5 fs), (xn, aI G 512 fx), (xb, aZ G 512 fb)] s.heap.size = A at hD hE ⊢
  have hA : ∀ q : Nat, s.heap.size ≤ q → A q := fun q h => by rw [← hAe]; exact Or.inr h
  clear hAe
  have hS : va_S A s.heap s.heap [] := va_S.rf
  have hl := lv_entry ([.ref qm, .int x]) (n := 4) (Nat.le_of_ble_eq_true rfl)
  have hent := lg_entry_eq m ([.ref qm, .int x]) 4
  rw [← hav] at hent
  rw [hent]
  clear hent hav
  generalize (lg_sl ([.ref qm, .int x]) ++ List.replicate (4 - (lg_sl ([.ref qm, .int x])).length) Slot.unset).toArray = ls at hl ⊢
  have hl : lv_has ls 4 [(0, .ref qm), (1, .int x)] := hl
  generalize hQ : MQ below _ args s 0 0 _ = Q
  have hP : va_P (gD G) vC [(qm, .inr (6, [.int (nI th), .int (nI ul), .ref xt, .int (nI pt), .ref xh, .ref xi, .ref xl, .ref xo, .ref xg, .ref xd, .int (zB ld), .ref xs, .int (nI stt), .int (nI sts), .int (nI drw), .ref xn, .ref xb, .ref xv, .int (nI bd), .int (nI rd)])), (xs, aI G 5 fs), (xn, aI G 512 fx), (xb, aZ G 512 fb)] s.heap := hP
  obtain ⟨H, hH⟩ : ∃ H : Heap, H = s.heap := ⟨_, rfl⟩
  obtain ⟨locs, hlc⟩ : ∃ L : List Loc, L = [] := ⟨_, rfl⟩
  have hS : va_S A s.heap H locs := by rw [hH, hlc]; exact hS
  have hP : va_P (gD G) vC [(qm, .inr (6, [.int (nI th), .int (nI ul), .ref xt, .int (nI pt), .ref xh, .ref xi, .ref xl, .ref xo, .ref xg, .ref xd, .int (zB ld), .ref xs, .int (nI stt), .int (nI sts), .int (nI drw), .ref xn, .ref xb, .ref xv, .int (nI bd), .int (nI rd)])), (xs, aI G 5 fs), (xn, aI G 512 fx), (xb, aZ G 512 fb)] H := by rw [hH]; exact hP
  have hgo : W p l e R s m args below meth c H locs 0 0 Q (F0 m 0 ls []) := by
    clear hH hlc
    refine lv_aload_n hx hb dM_holds_0 rfl (lv_at hl 0 rfl) ?_
    refine lv_aload_n hx hb dM_holds_1 rfl (lv_at hl 0 rfl) ?_
    refine va_get (D := gD G) (ci := 6) (v := .int (zB ld)) (C := "CircuitProverModel") (T := TM) (N := 20) hx hb htb inM hown hK hP 0 rfl rfl 10 (by decide) (htb _ b681) (fun _ h9 => h9) rfl dM_holds_2 ?_
    refine lv_if_eq (tgt := 12) hx hb dM_holds_5 rfl (fun h5 => ?_) (fun h5 => ?_)
    · have h5 : ld = false := zB_f h5
      refine lv_iconst (v := nI 1) hx hb dM_holds_12 (by decide) ?_
      refine va_put (D := gD G) (ci := 6) (v := .int (nI 1)) (ty := tyM 0) (C := "CircuitProverModel") (T := TM) (N := 20) hx hb htb inM tyM tyM_ok nmM hown hK hP hD hS 0 rfl rfl 0 (by decide) (htb _ b671) (fun _ h9 => h9) rfl (tyM_ok 0 (by decide)) rfl rfl (Nat.le_of_ble_eq_true rfl) dM_holds_13 (fun H locs hP hD hS => ?_)
      have hP : va_P (gD G) vC [(qm, .inr (6, [.int (nI 1), .int (nI ul), .ref xt, .int (nI pt), .ref xh, .ref xi, .ref xl, .ref xo, .ref xg, .ref xd, .int (zB ld), .ref xs, .int (nI stt), .int (nI sts), .int (nI drw), .ref xn, .ref xb, .ref xv, .int (nI bd), .int (nI rd)])), (xs, aI G 5 fs), (xn, aI G 512 fx), (xb, aZ G 512 fb)] H := hP
      have hD : va_D A [(qm, .inr (6, [.int (nI 1), .int (nI ul), .ref xt, .int (nI pt), .ref xh, .ref xi, .ref xl, .ref xo, .ref xg, .ref xd, .int (zB ld), .ref xs, .int (nI stt), .int (nI sts), .int (nI drw), .ref xn, .ref xb, .ref xv, .int (nI bd), .int (nI rd)])), (xs, aI G 5 fs), (xn, aI G 512 fx), (xb, aZ G 512 fb)] := hD
      refine lv_aload_n hx hb dM_holds_16 rfl (lv_at hl 0 rfl) ?_
      refine va_get (D := gD G) (ci := 6) (v := .int (zB ld)) (C := "CircuitProverModel") (T := TM) (N := 20) hx hb htb inM hown hK hP 0 rfl rfl 10 (by decide) (htb _ b681) (fun _ h9 => h9) rfl dM_holds_17 ?_
      refine lv_if_eq (tgt := 35) hx hb dM_holds_20 rfl (fun _ => ?_) (fun h20 => absurd (zB_t h20) (by rw [h5]; decide))
      refine lv_iconst (v := nI 0) hx hb dM_holds_35 (by decide) ?_
      -- end 0
      rw [← hQ]
      exact k_iret hx hb hr hlocks (by decide) (u := (1, bd, rd)) (Or.inl ⟨h5, rfl, rfl⟩) hP hD hK hS dM_holds_36
    · have h5 : ld = true := zB_t h5
      refine lv_iconst (v := nI 0) hx hb dM_holds_8 (by decide) ?_
      refine lv_goto (tgt := 13) hx hb dM_holds_9 rfl ?_
      refine va_put (D := gD G) (ci := 6) (v := .int (nI 0)) (ty := tyM 0) (C := "CircuitProverModel") (T := TM) (N := 20) hx hb htb inM tyM tyM_ok nmM hown hK hP hD hS 0 rfl rfl 0 (by decide) (htb _ b671) (fun _ h9 => h9) rfl (tyM_ok 0 (by decide)) rfl rfl (Nat.le_of_ble_eq_true rfl) dM_holds_13 (fun H locs hP hD hS => ?_)
      have hP : va_P (gD G) vC [(qm, .inr (6, [.int (nI 0), .int (nI ul), .ref xt, .int (nI pt), .ref xh, .ref xi, .ref xl, .ref xo, .ref xg, .ref xd, .int (zB ld), .ref xs, .int (nI stt), .int (nI sts), .int (nI drw), .ref xn, .ref xb, .ref xv, .int (nI bd), .int (nI rd)])), (xs, aI G 5 fs), (xn, aI G 512 fx), (xb, aZ G 512 fb)] H := hP
      have hD : va_D A [(qm, .inr (6, [.int (nI 0), .int (nI ul), .ref xt, .int (nI pt), .ref xh, .ref xi, .ref xl, .ref xo, .ref xg, .ref xd, .int (zB ld), .ref xs, .int (nI stt), .int (nI sts), .int (nI drw), .ref xn, .ref xb, .ref xv, .int (nI bd), .int (nI rd)])), (xs, aI G 5 fs), (xn, aI G 512 fx), (xb, aZ G 512 fb)] := hD
      refine lv_aload_n hx hb dM_holds_16 rfl (lv_at hl 0 rfl) ?_
      refine va_get (D := gD G) (ci := 6) (v := .int (zB ld)) (C := "CircuitProverModel") (T := TM) (N := 20) hx hb htb inM hown hK hP 0 rfl rfl 10 (by decide) (htb _ b681) (fun _ h9 => h9) rfl dM_holds_17 ?_
      refine lv_if_eq (tgt := 35) hx hb dM_holds_20 rfl (fun h20 => absurd (zB_f h20) (by rw [h5]; decide)) (fun _ => ?_)
      refine lv_iload_n hx hb dM_holds_23 rfl (lv_at hl 1 rfl) ?_
      refine lv_if_lt (tgt := 35) hx hb dM_holds_24 rfl (fun h24 => ?_) (fun h24 => ?_)
      · skip
        refine lv_iconst (v := nI 0) hx hb dM_holds_35 (by decide) ?_
        -- end 1
        rw [← hQ]
        exact k_iret hx hb hr hlocks (by decide) (u := (0, bd, rd)) (Or.inr (Or.inl ⟨h5, fun j hj e9 => (by rw [e9] at h24; exact nI_pos (by omega) h24), rfl, rfl⟩)) hP hD hK hS dM_holds_36
      · skip
        refine lv_iload_n hx hb dM_holds_27 rfl (lv_at hl 1 rfl) ?_
        refine lv_aload_n hx hb dM_holds_28 rfl (lv_at hl 0 rfl) ?_
        refine va_get (D := gD G) (ci := 6) (v := .int (nI sts)) (C := "CircuitProverModel") (T := TM) (N := 20) hx hb htb inM hown hK hP 0 rfl rfl 13 (by decide) (htb _ b684) (fun _ h9 => h9) rfl dM_holds_29 ?_
        refine lv_icmp_lt (tgt := 37) hx hb dM_holds_32 rfl (fun h32 => ?_) (fun h32 => ?_)
        · skip
          obtain ⟨j, hjs, rfl⟩ : ∃ j, j < sts ∧ x = nI j := by rcases pk_ix x (n := sts) (by omega) with h | h | h; (exact absurd h h24); (exact absurd h32 (by intro z; exact nI_ge_lt h z)); exact h
          refine lv_aload_n hx hb dM_holds_37 rfl (lv_at hl 0 rfl) ?_
          refine k_i (ws2 := fun u => [(qm, .inr (6, [.int (nI 0), .int (nI ul), .ref xt, .int (nI pt), .ref xh, .ref xi, .ref xl, .ref xo, .ref xg, .ref xd, .int (zB ld), .ref xs, .int (nI stt), .int (nI sts), .int (nI drw), .ref xn, .ref xb, .ref xv, .int (nI bd), .int (nI rd)])), (xs, aI G 5 fs), (xn, aI G 512 fx), (xb, aZ G 512 fb)]) (wr := [(xs, aI G 5 fs)]) (k_runV (n := 0) (As := []) (rest := []) hx hb hml hown htb hP hD hK hS hA hE (k_M_isSafe l G H.size qm xt xh xi xl xo xg xd xs xn xb xv 0 ul pt ld stt sts drw bd rd fx fb (show sts ≤ 64 from by omega) (show 1 ≤ drw ∧ drw ≤ 8 from by omega) (show stt < 64 from by omega)) b812 b814 s40 b7 b815 (by decide +kernel) rfl rfl ⟨by rw [hRf]; exact Nat.le_of_ble_eq_true rfl, by rw [hRl]; exact Nat.le_of_ble_eq_true rfl⟩ [0, 2, 3] rfl (by decide) 0 rfl rfl rfl rfl hl.1 rfl (Nat.le_of_ble_eq_true rfl) dM_holds_38 ⟨Nat.zero_le _, Nat.zero_le _⟩) hP hD hS hA [0, 2, 3] [1] [1, 0, 2, 3] rfl rfl (by decide) (by decide) (fun u => rfl) (by decide) (fun r u H locs hw hP hD hS => ?_)
          rcases hw with ⟨hc38_e, rfl, rfl⟩ | ⟨hc38_e, rfl, rfl⟩
          · skip
            have hP : va_P (gD G) vC [(qm, .inr (6, [.int (nI 0), .int (nI ul), .ref xt, .int (nI pt), .ref xh, .ref xi, .ref xl, .ref xo, .ref xg, .ref xd, .int (zB ld), .ref xs, .int (nI stt), .int (nI sts), .int (nI drw), .ref xn, .ref xb, .ref xv, .int (nI bd), .int (nI rd)])), (xs, aI G 5 fs), (xn, aI G 512 fx), (xb, aZ G 512 fb)] H := hP
            have hD : va_D A [(qm, .inr (6, [.int (nI 0), .int (nI ul), .ref xt, .int (nI pt), .ref xh, .ref xi, .ref xl, .ref xo, .ref xg, .ref xd, .int (zB ld), .ref xs, .int (nI stt), .int (nI sts), .int (nI drw), .ref xn, .ref xb, .ref xv, .int (nI bd), .int (nI rd)])), (xs, aI G 5 fs), (xn, aI G 512 fx), (xb, aZ G 512 fb)] := hD
            refine lv_if_ne (tgt := 46) hx hb dM_holds_41 rfl (fun _ => ?_) (fun h41 => (by revert h41; first | decide | exact fun z => absurd z (by decide) | exact fun z => z.elim (by decide)))
            refine lv_aload_n hx hb dM_holds_46 rfl (lv_at hl 0 rfl) ?_
            refine k_l (ws2 := fun u => [(qm, .inr (6, [.int (nI 0), .int (nI ul), .ref xt, .int (nI pt), .ref xh, .ref xi, .ref xl, .ref xo, .ref xg, .ref xd, .int (zB ld), .ref xs, .int (nI stt), .int (nI sts), .int (nI drw), .ref xn, .ref xb, .ref xv, .int (nI (u.1)), .int (nI (u.2))])), (xs, aI G 5 fs), (xn, aI G 512 fx), (xb, aZ G 512 fb)]) (wr := []) (k_runV (n := 0) (As := []) (rest := []) hx hb hml hown htb hP hD hK hS hA hE (k_M_prove l G H.size qm xt xh xi xl xo xg xd xs xn xb xv 0 ul pt ld stt sts drw bd rd fs fx fb (show sts ≤ 64 from by omega) (show 1 ≤ drw ∧ drw ≤ 8 from by omega) (show ∀ a b, a < sts → b < drw → fx (8 * a + b) < 64 from hn6) (show stt < 64 from by omega) (show fs 2 ≤ 6 from by omega)) b848 b850 s46 b7 b851 (by decide +kernel) rfl rfl ⟨by rw [hRf]; exact Nat.le_of_ble_eq_true rfl, by rw [hRl]; exact Nat.le_of_ble_eq_true rfl⟩ [0, 1, 2, 3] rfl (by decide) 0 rfl rfl rfl rfl hl.1 rfl (Nat.le_of_ble_eq_true rfl) dM_holds_47 ⟨Nat.zero_le _, Nat.zero_le _⟩) hP hD hS hA [0, 1, 2, 3] [] [0, 1, 2, 3] rfl rfl (by decide) (by decide) (fun u => rfl) (by decide) (fun r u H locs hw hP hD hS => ?_)
            obtain ⟨rfl, rfl⟩ := hw
            have hP : va_P (gD G) vC [(qm, .inr (6, [.int (nI 0), .int (nI ul), .ref xt, .int (nI pt), .ref xh, .ref xi, .ref xl, .ref xo, .ref xg, .ref xd, .int (zB ld), .ref xs, .int (nI stt), .int (nI sts), .int (nI drw), .ref xn, .ref xb, .ref xv, .int (nI ((prf (postOf sts drw (nxF fx)) (nrF (nF sts drw (nxF fx) (badOf sts drw (bdF fb)))) (widM sts) (fs 2) (sg stt) 10000 1 (sg stt) 0).1)), .int (nI ((prf (postOf sts drw (nxF fx)) (nrF (nF sts drw (nxF fx) (badOf sts drw (bdF fb)))) (widM sts) (fs 2) (sg stt) 10000 1 (sg stt) 0).2.2))])), (xs, aI G 5 fs), (xn, aI G 512 fx), (xb, aZ G 512 fb)] H := hP
            have hD : va_D A [(qm, .inr (6, [.int (nI 0), .int (nI ul), .ref xt, .int (nI pt), .ref xh, .ref xi, .ref xl, .ref xo, .ref xg, .ref xd, .int (zB ld), .ref xs, .int (nI stt), .int (nI sts), .int (nI drw), .ref xn, .ref xb, .ref xv, .int (nI ((prf (postOf sts drw (nxF fx)) (nrF (nF sts drw (nxF fx) (badOf sts drw (bdF fb)))) (widM sts) (fs 2) (sg stt) 10000 1 (sg stt) 0).1)), .int (nI ((prf (postOf sts drw (nxF fx)) (nrF (nF sts drw (nxF fx) (badOf sts drw (bdF fb)))) (widM sts) (fs 2) (sg stt) 10000 1 (sg stt) 0).2.2))])), (xs, aI G 5 fs), (xn, aI G 512 fx), (xb, aZ G 512 fb)] := hD
            refine lv_lstore_n (lv' := [(2, .long ((prf (postOf sts drw (nxF fx)) (nrF (nF sts drw (nxF fx) (badOf sts drw (bdF fb)))) (widM sts) (fs 2) (sg stt) 10000 1 (sg stt) 0).2.1)), (0, .ref qm), (1, .int (nI j))]) hx hb dM_holds_50 rfl hl (by decide) rfl (fun ls hl => ?_)
            refine lv_lload_n hx hb dM_holds_51 rfl (lv_at hl 0 rfl) ?_
            refine lv_iload_n hx hb dM_holds_52 rfl (lv_at hl 2 rfl) ?_
            refine lv_lshr (v := sr ((prf (postOf sts drw (nxF fx)) (nrF (nF sts drw (nxF fx) (badOf sts drw (bdF fb)))) (widM sts) (fs 2) (sg stt) 10000 1 (sg stt) 0).2.1) j) hx hb dM_holds_53 rfl ?_
            refine lv_lconst (v := 1) hx hb dM_holds_54 (by decide) ?_
            refine lv_land hx hb dM_holds_55 ?_
            refine lv_lconst (v := 1) hx hb dM_holds_56 (by decide) ?_
            refine W.lcmp hx hb dM_holds_57 ?_
            refine lv_if_ne (tgt := 65) hx hb dM_holds_58 rfl (fun h58 => ?_) (fun h58 => ?_)
            · have h58 : ¬ ((sr ((prf (postOf sts drw (nxF fx)) (nrF (nF sts drw (nxF fx) (badOf sts drw (bdF fb)))) (widM sts) (fs 2) (sg stt) 10000 1 (sg stt) 0).2.1) j) &&& 1) = 1 := fun z => h58 ((lg_cmp_eq _ _).mpr z)
              refine lv_iconst (v := nI 0) hx hb dM_holds_65 (by decide) ?_
              -- end 2
              rw [← hQ]
              exact k_iret hx hb hr hlocks (by decide) (u := (0, ((prf (postOf sts drw (nxF fx)) (nrF (nF sts drw (nxF fx) (badOf sts drw (bdF fb)))) (widM sts) (fs 2) (sg stt) 10000 1 (sg stt) 0).1), ((prf (postOf sts drw (nxF fx)) (nrF (nF sts drw (nxF fx) (badOf sts drw (bdF fb)))) (widM sts) (fs 2) (sg stt) 10000 1 (sg stt) 0).2.2))) (Or.inr (Or.inr (Or.inr ⟨j, h5, hc38_e, ⟨hjs, rfl⟩, by rw [show lb (prf (postOf sts drw (nxF fx)) (nrF (nF sts drw (nxF fx) (badOf sts drw (bdF fb)))) (widM sts) (fs 2) (sg stt) 10000 1 (sg stt) 0).2.1 j = false from (by have h9 := fun z => h58 ((bit_s _ (by omega)).mpr z); simpa using h9)]; rfl, rfl⟩))) hP hD hK hS dM_holds_66
            · have h58 : ((sr ((prf (postOf sts drw (nxF fx)) (nrF (nF sts drw (nxF fx) (badOf sts drw (bdF fb)))) (widM sts) (fs 2) (sg stt) 10000 1 (sg stt) 0).2.1) j) &&& 1) = 1 := (lg_cmp_eq _ _).mp h58
              refine lv_iconst (v := nI 1) hx hb dM_holds_61 (by decide) ?_
              refine lv_goto (tgt := 66) hx hb dM_holds_62 rfl ?_
              -- end 3
              rw [← hQ]
              exact k_iret hx hb hr hlocks (by decide) (u := (0, ((prf (postOf sts drw (nxF fx)) (nrF (nF sts drw (nxF fx) (badOf sts drw (bdF fb)))) (widM sts) (fs 2) (sg stt) 10000 1 (sg stt) 0).1), ((prf (postOf sts drw (nxF fx)) (nrF (nF sts drw (nxF fx) (badOf sts drw (bdF fb)))) (widM sts) (fs 2) (sg stt) 10000 1 (sg stt) 0).2.2))) (Or.inr (Or.inr (Or.inr ⟨j, h5, hc38_e, ⟨hjs, rfl⟩, by rw [show lb (prf (postOf sts drw (nxF fx)) (nrF (nF sts drw (nxF fx) (badOf sts drw (bdF fb)))) (widM sts) (fs 2) (sg stt) 10000 1 (sg stt) 0).2.1 j = true from (bit_s _ (by omega)).mp h58]; rfl, rfl⟩))) hP hD hK hS dM_holds_66
          · skip
            have hP : va_P (gD G) vC [(qm, .inr (6, [.int (nI 0), .int (nI ul), .ref xt, .int (nI pt), .ref xh, .ref xi, .ref xl, .ref xo, .ref xg, .ref xd, .int (zB ld), .ref xs, .int (nI stt), .int (nI sts), .int (nI drw), .ref xn, .ref xb, .ref xv, .int (nI bd), .int (nI rd)])), (xs, aI G 5 fs), (xn, aI G 512 fx), (xb, aZ G 512 fb)] H := hP
            have hD : va_D A [(qm, .inr (6, [.int (nI 0), .int (nI ul), .ref xt, .int (nI pt), .ref xh, .ref xi, .ref xl, .ref xo, .ref xg, .ref xd, .int (zB ld), .ref xs, .int (nI stt), .int (nI sts), .int (nI drw), .ref xn, .ref xb, .ref xv, .int (nI bd), .int (nI rd)])), (xs, aI G 5 fs), (xn, aI G 512 fx), (xb, aZ G 512 fb)] := hD
            refine lv_if_ne (tgt := 46) hx hb dM_holds_41 rfl (fun h41 => (by revert h41; first | decide | exact fun z => absurd z (by decide) | exact fun z => z.elim (by decide))) (fun _ => ?_)
            refine lv_iconst (v := nI 0) hx hb dM_holds_44 (by decide) ?_
            -- end 4
            rw [← hQ]
            exact k_iret hx hb hr hlocks (by decide) (u := (0, bd, rd)) (Or.inr (Or.inr (Or.inl ⟨h5, hc38_e, rfl, rfl⟩))) hP hD hK hS dM_holds_45
        · skip
          refine lv_iconst (v := nI 0) hx hb dM_holds_35 (by decide) ?_
          -- end 5
          rw [← hQ]
          exact k_iret hx hb hr hlocks (by decide) (u := (0, bd, rd)) (Or.inr (Or.inl ⟨h5, fun j hj e9 => (by rw [e9] at h32; exact h32 ((nI_ltI (by omega) (by omega)).mpr hj)), rfl, rfl⟩)) hP hD hK hS dM_holds_36
  rw [hH, hlc] at hgo
  exact hgo
