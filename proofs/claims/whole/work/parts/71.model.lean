set_option maxRecDepth 100000 in
set_option maxHeartbeats 4000000 in
theorem k_M_circuit_n (l : Launch) (G : GG) (sz : Nat) (qm : Nat) (xt : Nat) (xh : Nat) (xi : Nat) (xl : Nat) (xo : Nat) (xg : Nat) (xd : Nat) (xs : Nat) (xn : Nat) (xb : Nat) (xv : Nat) (th : Nat) (ul : Nat) (pt : Nat) (stt : Nat) (sts : Nat) (drw : Nat) (bd : Nat) (rd : Nat) (x : Int32) : Ki l yM_circuit cM_circuit 2 .int 0 0 G [.ref qm, .int x] [(qm, .inr (6, [.int (nI th), .int (nI ul), .ref xt, .int (nI pt), .ref xh, .ref xi, .ref xl, .ref xo, .ref xg, .ref xd, .int (zB false), .ref xs, .int (nI stt), .int (nI sts), .int (nI drw), .ref xn, .ref xb, .ref xv, .int (nI bd), .int (nI rd)]))] sz (fun (r : Int32) (u : Nat) => (nI 0 = r ∧ 1 = u)) (fun (u : Nat) => [(qm, .inr (6, [.int (nI u), .int (nI ul), .ref xt, .int (nI pt), .ref xh, .ref xi, .ref xl, .ref xo, .ref xg, .ref xd, .int (zB false), .ref xs, .int (nI stt), .int (nI sts), .int (nI drw), .ref xn, .ref xb, .ref xv, .int (nI bd), .int (nI rd)]))]) := by
  refine Met.ofW (cc := cM_circuit) (maxL := 2) (ret := (some .int)) (by decide) rfl ?_
  intro p e s m args below meth c s₁ B hml hv
  obtain ⟨hav, hsz, hP, hK, hD0, hE⟩ := hv
  have hx := B.exec
  have hb := B.bytes
  have hr := B.returns
  have htb : ∀ w ∈ TB, w.before args s = true := fun w h => atoms_spec (ws := Cond.code yM_circuit cM_circuit 2 (some .int) :: TB) B.pre w (List.mem_cons_of_mem _ h)
  have hown : s.vm.findClass "CircuitProverModel" = some m.cls := findClass_of_methodNamed B.named
  have hlocks := B.notSynchronized
  subst hsz
  have hD := hD0.self (sz := s.heap.size)
  clear hD0
  generalize hRm : (headSpec (Cond.code yM_circuit cM_circuit 2 (some .int) :: TB) { frames := 0, cells := 0, slots := 0, locals := 0 }).room = R
  have hRf : R.frames = 0 := by rw [← hRm]; rfl
  have hRl : R.locals = 0 := by rw [← hRm]; rfl
  have hRc : R.cells = 0 := by rw [← hRm]; rfl
  have hRs : R.slots = 0 := by rw [← hRm]; rfl
  clear hRm
  generalize hAe : va_A [(qm, .inr (6, [.int (nI th), .int (nI ul), .ref xt, .int (nI pt), .ref xh, .ref xi, .ref xl, .ref xo, .ref xg, .ref xd, .int (zB false), .ref xs, .int (nI stt), .int (nI sts), .int (nI drw), .ref xn, .ref xb, .ref xv, .int (nI bd), .int (nI rd)]))] s.heap.size = A at hD hE ⊢
  have hA : ∀ q : Nat, s.heap.size ≤ q → A q := fun q h => by rw [← hAe]; exact Or.inr h
  clear hAe
  have hS : va_S A s.heap s.heap [] := va_S.rf
  have hl := lv_entry ([.ref qm, .int x]) (n := 2) (Nat.le_of_ble_eq_true rfl)
  have hent := lg_entry_eq m ([.ref qm, .int x]) 2
  rw [← hav] at hent
  rw [hent]
  clear hent hav
  generalize (lg_sl ([.ref qm, .int x]) ++ List.replicate (2 - (lg_sl ([.ref qm, .int x])).length) Slot.unset).toArray = ls at hl ⊢
  have hl : lv_has ls 2 [(0, .ref qm), (1, .int x)] := hl
  generalize hQ : MQ below _ args s 0 0 _ = Q
  have hP : va_P (gD G) vC [(qm, .inr (6, [.int (nI th), .int (nI ul), .ref xt, .int (nI pt), .ref xh, .ref xi, .ref xl, .ref xo, .ref xg, .ref xd, .int (zB false), .ref xs, .int (nI stt), .int (nI sts), .int (nI drw), .ref xn, .ref xb, .ref xv, .int (nI bd), .int (nI rd)]))] s.heap := hP
  obtain ⟨H, hH⟩ : ∃ H : Heap, H = s.heap := ⟨_, rfl⟩
  obtain ⟨locs, hlc⟩ : ∃ L : List Loc, L = [] := ⟨_, rfl⟩
  have hS : va_S A s.heap H locs := by rw [hH, hlc]; exact hS
  have hP : va_P (gD G) vC [(qm, .inr (6, [.int (nI th), .int (nI ul), .ref xt, .int (nI pt), .ref xh, .ref xi, .ref xl, .ref xo, .ref xg, .ref xd, .int (zB false), .ref xs, .int (nI stt), .int (nI sts), .int (nI drw), .ref xn, .ref xb, .ref xv, .int (nI bd), .int (nI rd)]))] H := by rw [hH]; exact hP
  have hgo : W p l e R s m args below meth c H locs 0 0 Q (F0 m 0 ls []) := by
    clear hH hlc
    refine lv_aload_n hx hb dM_circuit_0 rfl (lv_at hl 0 rfl) ?_
    refine lv_aload_n hx hb dM_circuit_1 rfl (lv_at hl 0 rfl) ?_
    refine va_get (D := gD G) (ci := 6) (v := .int (zB false)) (C := "CircuitProverModel") (T := TM) (N := 20) hx hb htb inM hown hK hP 0 rfl rfl 10 (by decide) (htb _ b681) (fun _ h9 => h9) rfl dM_circuit_2 ?_
    refine lv_if_eq (tgt := 12) hx hb dM_circuit_5 rfl (fun _ => ?_) (fun h5 => (by revert h5; first | decide | exact fun z => absurd z (by decide) | exact fun z => z.elim (by decide)))
    refine lv_iconst (v := nI 1) hx hb dM_circuit_12 (by decide) ?_
    refine va_put (D := gD G) (ci := 6) (v := .int (nI 1)) (ty := tyM 0) (C := "CircuitProverModel") (T := TM) (N := 20) hx hb htb inM tyM tyM_ok nmM hown hK hP hD hS 0 rfl rfl 0 (by decide) (htb _ b671) (fun _ h9 => h9) rfl (tyM_ok 0 (by decide)) rfl rfl (Nat.le_of_ble_eq_true rfl) dM_circuit_13 (fun H locs hP hD hS => ?_)
    have hP : va_P (gD G) vC [(qm, .inr (6, [.int (nI 1), .int (nI ul), .ref xt, .int (nI pt), .ref xh, .ref xi, .ref xl, .ref xo, .ref xg, .ref xd, .int (zB false), .ref xs, .int (nI stt), .int (nI sts), .int (nI drw), .ref xn, .ref xb, .ref xv, .int (nI bd), .int (nI rd)]))] H := hP
    have hD : va_D A [(qm, .inr (6, [.int (nI 1), .int (nI ul), .ref xt, .int (nI pt), .ref xh, .ref xi, .ref xl, .ref xo, .ref xg, .ref xd, .int (zB false), .ref xs, .int (nI stt), .int (nI sts), .int (nI drw), .ref xn, .ref xb, .ref xv, .int (nI bd), .int (nI rd)]))] := hD
    refine lv_aload_n hx hb dM_circuit_16 rfl (lv_at hl 0 rfl) ?_
    refine va_get (D := gD G) (ci := 6) (v := .int (zB false)) (C := "CircuitProverModel") (T := TM) (N := 20) hx hb htb inM hown hK hP 0 rfl rfl 10 (by decide) (htb _ b681) (fun _ h9 => h9) rfl dM_circuit_17 ?_
    refine lv_if_ne (tgt := 27) hx hb dM_circuit_20 rfl (fun h20 => (by revert h20; first | decide | exact fun z => absurd z (by decide) | exact fun z => z.elim (by decide))) (fun _ => ?_)
    refine lv_iconst (v := nI 0) hx hb dM_circuit_23 (by decide) ?_
    refine lv_goto (tgt := 58) hx hb dM_circuit_24 rfl ?_
    -- end 0
    rw [← hQ]
    exact k_iret hx hb hr hlocks rfl (u := 1) (⟨rfl, rfl⟩) hP hD hK hS dM_circuit_58
  rw [hH, hlc] at hgo
  exact hgo
set_option maxRecDepth 100000 in
set_option maxHeartbeats 4000000 in
theorem k_M_go_n (l : Launch) (G : GG) (sz : Nat) (qm : Nat) (xt : Nat) (xh : Nat) (xi : Nat) (xl : Nat) (xo : Nat) (xg : Nat) (xd : Nat) (xs : Nat) (xn : Nat) (xb : Nat) (xv : Nat) (th : Nat) (ul : Nat) (pt : Nat) (stt : Nat) (sts : Nat) (drw : Nat) (bd : Nat) (rd : Nat) (x : Int32) (y : Int32) : Ki l yM_go cM_go 3 .int 0 0 G [.ref qm, .int x, .int y] [(qm, .inr (6, [.int (nI th), .int (nI ul), .ref xt, .int (nI pt), .ref xh, .ref xi, .ref xl, .ref xo, .ref xg, .ref xd, .int (zB false), .ref xs, .int (nI stt), .int (nI sts), .int (nI drw), .ref xn, .ref xb, .ref xv, .int (nI bd), .int (nI rd)]))] sz (fun (r : Int32) (u : Nat) => (nI 0 = r ∧ 1 = u)) (fun (u : Nat) => [(qm, .inr (6, [.int (nI u), .int (nI ul), .ref xt, .int (nI pt), .ref xh, .ref xi, .ref xl, .ref xo, .ref xg, .ref xd, .int (zB false), .ref xs, .int (nI stt), .int (nI sts), .int (nI drw), .ref xn, .ref xb, .ref xv, .int (nI bd), .int (nI rd)]))]) := by
  refine Met.ofW (cc := cM_go) (maxL := 3) (ret := (some .int)) (by decide) rfl ?_
  intro p e s m args below meth c s₁ B hml hv
  obtain ⟨hav, hsz, hP, hK, hD0, hE⟩ := hv
  have hx := B.exec
  have hb := B.bytes
  have hr := B.returns
  have htb : ∀ w ∈ TB, w.before args s = true := fun w h => atoms_spec (ws := Cond.code yM_go cM_go 3 (some .int) :: TB) B.pre w (List.mem_cons_of_mem _ h)
  have hown : s.vm.findClass "CircuitProverModel" = some m.cls := findClass_of_methodNamed B.named
  have hlocks := B.notSynchronized
  subst hsz
  have hD := hD0.self (sz := s.heap.size)
  clear hD0
  generalize hRm : (headSpec (Cond.code yM_go cM_go 3 (some .int) :: TB) { frames := 0, cells := 0, slots := 0, locals := 0 }).room = R
  have hRf : R.frames = 0 := by rw [← hRm]; rfl
  have hRl : R.locals = 0 := by rw [← hRm]; rfl
  have hRc : R.cells = 0 := by rw [← hRm]; rfl
  have hRs : R.slots = 0 := by rw [← hRm]; rfl
  clear hRm
  generalize hAe : va_A [(qm, .inr (6, [.int (nI th), .int (nI ul), .ref xt, .int (nI pt), .ref xh, .ref xi, .ref xl, .ref xo, .ref xg, .ref xd, .int (zB false), .ref xs, .int (nI stt), .int (nI sts), .int (nI drw), .ref xn, .ref xb, .ref xv, .int (nI bd), .int (nI rd)]))] s.heap.size = A at hD hE ⊢
  have hA : ∀ q : Nat, s.heap.size ≤ q → A q := fun q h => by rw [← hAe]; exact Or.inr h
  clear hAe
  have hS : va_S A s.heap s.heap [] := va_S.rf
  have hl := lv_entry ([.ref qm, .int x, .int y]) (n := 3) (Nat.le_of_ble_eq_true rfl)
  have hent := lg_entry_eq m ([.ref qm, .int x, .int y]) 3
  rw [← hav] at hent
  rw [hent]
  clear hent hav
  generalize (lg_sl ([.ref qm, .int x, .int y]) ++ List.replicate (3 - (lg_sl ([.ref qm, .int x, .int y])).length) Slot.unset).toArray = ls at hl ⊢
  have hl : lv_has ls 3 [(0, .ref qm), (1, .int x), (2, .int y)] := hl
  generalize hQ : MQ below _ args s 0 0 _ = Q
  have hP : va_P (gD G) vC [(qm, .inr (6, [.int (nI th), .int (nI ul), .ref xt, .int (nI pt), .ref xh, .ref xi, .ref xl, .ref xo, .ref xg, .ref xd, .int (zB false), .ref xs, .int (nI stt), .int (nI sts), .int (nI drw), .ref xn, .ref xb, .ref xv, .int (nI bd), .int (nI rd)]))] s.heap := hP
  obtain ⟨H, hH⟩ : ∃ H : Heap, H = s.heap := ⟨_, rfl⟩
  obtain ⟨locs, hlc⟩ : ∃ L : List Loc, L = [] := ⟨_, rfl⟩
  have hS : va_S A s.heap H locs := by rw [hH, hlc]; exact hS
  have hP : va_P (gD G) vC [(qm, .inr (6, [.int (nI th), .int (nI ul), .ref xt, .int (nI pt), .ref xh, .ref xi, .ref xl, .ref xo, .ref xg, .ref xd, .int (zB false), .ref xs, .int (nI stt), .int (nI sts), .int (nI drw), .ref xn, .ref xb, .ref xv, .int (nI bd), .int (nI rd)]))] H := by rw [hH]; exact hP
  have hgo : W p l e R s m args below meth c H locs 0 0 Q (F0 m 0 ls []) := by
    clear hH hlc
    refine lv_aload_n hx hb dM_go_0 rfl (lv_at hl 0 rfl) ?_
    refine lv_aload_n hx hb dM_go_1 rfl (lv_at hl 0 rfl) ?_
    refine va_get (D := gD G) (ci := 6) (v := .int (zB false)) (C := "CircuitProverModel") (T := TM) (N := 20) hx hb htb inM hown hK hP 0 rfl rfl 10 (by decide) (htb _ b681) (fun _ h9 => h9) rfl dM_go_2 ?_
    refine lv_if_ne (tgt := 12) hx hb dM_go_5 rfl (fun h5 => (by revert h5; first | decide | exact fun z => absurd z (by decide) | exact fun z => z.elim (by decide))) (fun _ => ?_)
    refine lv_iconst (v := nI 1) hx hb dM_go_8 (by decide) ?_
    refine lv_goto (tgt := 26) hx hb dM_go_9 rfl ?_
    refine va_put (D := gD G) (ci := 6) (v := .int (nI 1)) (ty := tyM 0) (C := "CircuitProverModel") (T := TM) (N := 20) hx hb htb inM tyM tyM_ok nmM hown hK hP hD hS 0 rfl rfl 0 (by decide) (htb _ b671) (fun _ h9 => h9) rfl (tyM_ok 0 (by decide)) rfl rfl (Nat.le_of_ble_eq_true rfl) dM_go_26 (fun H locs hP hD hS => ?_)
    have hP : va_P (gD G) vC [(qm, .inr (6, [.int (nI 1), .int (nI ul), .ref xt, .int (nI pt), .ref xh, .ref xi, .ref xl, .ref xo, .ref xg, .ref xd, .int (zB false), .ref xs, .int (nI stt), .int (nI sts), .int (nI drw), .ref xn, .ref xb, .ref xv, .int (nI bd), .int (nI rd)]))] H := hP
    have hD : va_D A [(qm, .inr (6, [.int (nI 1), .int (nI ul), .ref xt, .int (nI pt), .ref xh, .ref xi, .ref xl, .ref xo, .ref xg, .ref xd, .int (zB false), .ref xs, .int (nI stt), .int (nI sts), .int (nI drw), .ref xn, .ref xb, .ref xv, .int (nI bd), .int (nI rd)]))] := hD
    refine lv_aload_n hx hb dM_go_29 rfl (lv_at hl 0 rfl) ?_
    refine va_get (D := gD G) (ci := 6) (v := .int (nI 1)) (C := "CircuitProverModel") (T := TM) (N := 20) hx hb htb inM hown hK hP 0 rfl rfl 0 (by decide) (htb _ b671) (fun _ h9 => h9) rfl dM_go_30 ?_
    refine lv_if_le (tgt := 40) hx hb dM_go_33 rfl (fun h33 => (by revert h33; first | decide | exact fun z => absurd z (by decide) | exact fun z => z.elim (by decide))) (fun _ => ?_)
    refine lv_iconst (v := nI 0) hx hb dM_go_36 (by decide) ?_
    refine lv_goto (tgt := 51) hx hb dM_go_37 rfl ?_
    -- end 0
    rw [← hQ]
    exact k_iret hx hb hr hlocks rfl (u := 1) (⟨rfl, rfl⟩) hP hD hK hS dM_go_51
  rw [hH, hlc] at hgo
  exact hgo
set_option maxRecDepth 100000 in
set_option maxHeartbeats 4000000 in
theorem k_M_output_n (l : Launch) (G : GG) (sz : Nat) (qm : Nat) (xt : Nat) (xh : Nat) (xi : Nat) (xl : Nat) (xo : Nat) (xg : Nat) (xd : Nat) (xs : Nat) (xn : Nat) (xb : Nat) (xv : Nat) (th : Nat) (ul : Nat) (pt : Nat) (stt : Nat) (sts : Nat) (drw : Nat) (bd : Nat) (rd : Nat) (x : Int32) (y : Int32) : Ki l yM_output cM_output 3 .boolean 0 0 G [.ref qm, .int x, .int y] [(qm, .inr (6, [.int (nI th), .int (nI ul), .ref xt, .int (nI pt), .ref xh, .ref xi, .ref xl, .ref xo, .ref xg, .ref xd, .int (zB false), .ref xs, .int (nI stt), .int (nI sts), .int (nI drw), .ref xn, .ref xb, .ref xv, .int (nI bd), .int (nI rd)]))] sz (fun (r : Int32) (u : Nat) => (nI 0 = r ∧ 1 = u)) (fun (u : Nat) => [(qm, .inr (6, [.int (nI u), .int (nI ul), .ref xt, .int (nI pt), .ref xh, .ref xi, .ref xl, .ref xo, .ref xg, .ref xd, .int (zB false), .ref xs, .int (nI stt), .int (nI sts), .int (nI drw), .ref xn, .ref xb, .ref xv, .int (nI bd), .int (nI rd)]))]) := by
  refine Met.ofW (cc := cM_output) (maxL := 3) (ret := (some .boolean)) (by decide) rfl ?_
  intro p e s m args below meth c s₁ B hml hv
  obtain ⟨hav, hsz, hP, hK, hD0, hE⟩ := hv
  have hx := B.exec
  have hb := B.bytes
  have hr := B.returns
  have htb : ∀ w ∈ TB, w.before args s = true := fun w h => atoms_spec (ws := Cond.code yM_output cM_output 3 (some .boolean) :: TB) B.pre w (List.mem_cons_of_mem _ h)
  have hown : s.vm.findClass "CircuitProverModel" = some m.cls := findClass_of_methodNamed B.named
  have hlocks := B.notSynchronized
  subst hsz
  have hD := hD0.self (sz := s.heap.size)
  clear hD0
  generalize hRm : (headSpec (Cond.code yM_output cM_output 3 (some .boolean) :: TB) { frames := 0, cells := 0, slots := 0, locals := 0 }).room = R
  have hRf : R.frames = 0 := by rw [← hRm]; rfl
  have hRl : R.locals = 0 := by rw [← hRm]; rfl
  have hRc : R.cells = 0 := by rw [← hRm]; rfl
  have hRs : R.slots = 0 := by rw [← hRm]; rfl
  clear hRm
  generalize hAe : va_A [(qm, .inr (6, [.int (nI th), .int (nI ul), .ref xt, .int (nI pt), .ref xh, .ref xi, .ref xl, .ref xo, .ref xg, .ref xd, .int (zB false), .ref xs, .int (nI stt), .int (nI sts), .int (nI drw), .ref xn, .ref xb, .ref xv, .int (nI bd), .int (nI rd)]))] s.heap.size = A at hD hE ⊢
  have hA : ∀ q : Nat, s.heap.size ≤ q → A q := fun q h => by rw [← hAe]; exact Or.inr h
  clear hAe
  have hS : va_S A s.heap s.heap [] := va_S.rf
  have hl := lv_entry ([.ref qm, .int x, .int y]) (n := 3) (Nat.le_of_ble_eq_true rfl)
  have hent := lg_entry_eq m ([.ref qm, .int x, .int y]) 3
  rw [← hav] at hent
  rw [hent]
  clear hent hav
  generalize (lg_sl ([.ref qm, .int x, .int y]) ++ List.replicate (3 - (lg_sl ([.ref qm, .int x, .int y])).length) Slot.unset).toArray = ls at hl ⊢
  have hl : lv_has ls 3 [(0, .ref qm), (1, .int x), (2, .int y)] := hl
  generalize hQ : MQ below _ args s 0 0 _ = Q
  have hP : va_P (gD G) vC [(qm, .inr (6, [.int (nI th), .int (nI ul), .ref xt, .int (nI pt), .ref xh, .ref xi, .ref xl, .ref xo, .ref xg, .ref xd, .int (zB false), .ref xs, .int (nI stt), .int (nI sts), .int (nI drw), .ref xn, .ref xb, .ref xv, .int (nI bd), .int (nI rd)]))] s.heap := hP
  obtain ⟨H, hH⟩ : ∃ H : Heap, H = s.heap := ⟨_, rfl⟩
  obtain ⟨locs, hlc⟩ : ∃ L : List Loc, L = [] := ⟨_, rfl⟩
  have hS : va_S A s.heap H locs := by rw [hH, hlc]; exact hS
  have hP : va_P (gD G) vC [(qm, .inr (6, [.int (nI th), .int (nI ul), .ref xt, .int (nI pt), .ref xh, .ref xi, .ref xl, .ref xo, .ref xg, .ref xd, .int (zB false), .ref xs, .int (nI stt), .int (nI sts), .int (nI drw), .ref xn, .ref xb, .ref xv, .int (nI bd), .int (nI rd)]))] H := by rw [hH]; exact hP
  have hgo : W p l e R s m args below meth c H locs 0 0 Q (F0 m 0 ls []) := by
    clear hH hlc
    refine lv_aload_n hx hb dM_output_0 rfl (lv_at hl 0 rfl) ?_
    refine lv_aload_n hx hb dM_output_1 rfl (lv_at hl 0 rfl) ?_
    refine va_get (D := gD G) (ci := 6) (v := .int (zB false)) (C := "CircuitProverModel") (T := TM) (N := 20) hx hb htb inM hown hK hP 0 rfl rfl 10 (by decide) (htb _ b681) (fun _ h9 => h9) rfl dM_output_2 ?_
    refine lv_if_ne (tgt := 12) hx hb dM_output_5 rfl (fun h5 => (by revert h5; first | decide | exact fun z => absurd z (by decide) | exact fun z => z.elim (by decide))) (fun _ => ?_)
    refine lv_iconst (v := nI 1) hx hb dM_output_8 (by decide) ?_
    refine lv_goto (tgt := 26) hx hb dM_output_9 rfl ?_
    refine va_put (D := gD G) (ci := 6) (v := .int (nI 1)) (ty := tyM 0) (C := "CircuitProverModel") (T := TM) (N := 20) hx hb htb inM tyM tyM_ok nmM hown hK hP hD hS 0 rfl rfl 0 (by decide) (htb _ b671) (fun _ h9 => h9) rfl (tyM_ok 0 (by decide)) rfl rfl (Nat.le_of_ble_eq_true rfl) dM_output_26 (fun H locs hP hD hS => ?_)
    have hP : va_P (gD G) vC [(qm, .inr (6, [.int (nI 1), .int (nI ul), .ref xt, .int (nI pt), .ref xh, .ref xi, .ref xl, .ref xo, .ref xg, .ref xd, .int (zB false), .ref xs, .int (nI stt), .int (nI sts), .int (nI drw), .ref xn, .ref xb, .ref xv, .int (nI bd), .int (nI rd)]))] H := hP
    have hD : va_D A [(qm, .inr (6, [.int (nI 1), .int (nI ul), .ref xt, .int (nI pt), .ref xh, .ref xi, .ref xl, .ref xo, .ref xg, .ref xd, .int (zB false), .ref xs, .int (nI stt), .int (nI sts), .int (nI drw), .ref xn, .ref xb, .ref xv, .int (nI bd), .int (nI rd)]))] := hD
    refine lv_aload_n hx hb dM_output_29 rfl (lv_at hl 0 rfl) ?_
    refine va_get (D := gD G) (ci := 6) (v := .int (nI 1)) (C := "CircuitProverModel") (T := TM) (N := 20) hx hb htb inM hown hK hP 0 rfl rfl 0 (by decide) (htb _ b671) (fun _ h9 => h9) rfl dM_output_30 ?_
    refine lv_if_ne (tgt := 65) hx hb dM_output_33 rfl (fun _ => ?_) (fun h33 => (by revert h33; first | decide | exact fun z => absurd z (by decide) | exact fun z => z.elim (by decide)))
    refine lv_iconst (v := nI 0) hx hb dM_output_65 (by decide) ?_
    -- end 0
    rw [← hQ]
    exact k_iret hx hb hr hlocks (by decide) (u := 1) (⟨rfl, rfl⟩) hP hD hK hS dM_output_66
  rw [hH, hlc] at hgo
  exact hgo
set_option maxRecDepth 100000 in
set_option maxHeartbeats 4000000 in
theorem k_M_safe_n (l : Launch) (G : GG) (sz : Nat) (qm : Nat) (xt : Nat) (xh : Nat) (xi : Nat) (xl : Nat) (xo : Nat) (xg : Nat) (xd : Nat) (xs : Nat) (xn : Nat) (xb : Nat) (xv : Nat) (th : Nat) (ul : Nat) (pt : Nat) (stt : Nat) (sts : Nat) (drw : Nat) (bd : Nat) (rd : Nat) : Ki l yM_safe cM_safe 1 .boolean 0 0 G [.ref qm] [(qm, .inr (6, [.int (nI th), .int (nI ul), .ref xt, .int (nI pt), .ref xh, .ref xi, .ref xl, .ref xo, .ref xg, .ref xd, .int (zB false), .ref xs, .int (nI stt), .int (nI sts), .int (nI drw), .ref xn, .ref xb, .ref xv, .int (nI bd), .int (nI rd)]))] sz (fun (r : Int32) (u : Nat) => (nI 0 = r ∧ 1 = u)) (fun (u : Nat) => [(qm, .inr (6, [.int (nI u), .int (nI ul), .ref xt, .int (nI pt), .ref xh, .ref xi, .ref xl, .ref xo, .ref xg, .ref xd, .int (zB false), .ref xs, .int (nI stt), .int (nI sts), .int (nI drw), .ref xn, .ref xb, .ref xv, .int (nI bd), .int (nI rd)]))]) := by
  refine Met.ofW (cc := cM_safe) (maxL := 1) (ret := (some .boolean)) (by decide) rfl ?_
  intro p e s m args below meth c s₁ B hml hv
  obtain ⟨hav, hsz, hP, hK, hD0, hE⟩ := hv
  have hx := B.exec
  have hb := B.bytes
  have hr := B.returns
  have htb : ∀ w ∈ TB, w.before args s = true := fun w h => atoms_spec (ws := Cond.code yM_safe cM_safe 1 (some .boolean) :: TB) B.pre w (List.mem_cons_of_mem _ h)
  have hown : s.vm.findClass "CircuitProverModel" = some m.cls := findClass_of_methodNamed B.named
  have hlocks := B.notSynchronized
  subst hsz
  have hD := hD0.self (sz := s.heap.size)
  clear hD0
  generalize hRm : (headSpec (Cond.code yM_safe cM_safe 1 (some .boolean) :: TB) { frames := 0, cells := 0, slots := 0, locals := 0 }).room = R
  have hRf : R.frames = 0 := by rw [← hRm]; rfl
  have hRl : R.locals = 0 := by rw [← hRm]; rfl
  have hRc : R.cells = 0 := by rw [← hRm]; rfl
  have hRs : R.slots = 0 := by rw [← hRm]; rfl
  clear hRm
  generalize hAe : va_A [(qm, .inr (6, [.int (nI th), .int (nI ul), .ref xt, .int (nI pt), .ref xh, .ref xi, .ref xl, .ref xo, .ref xg, .ref xd, .int (zB false), .ref xs, .int (nI stt), .int (nI sts), .int (nI drw), .ref xn, .ref xb, .ref xv, .int (nI bd), .int (nI rd)]))] s.heap.size = A at hD hE ⊢
  have hA : ∀ q : Nat, s.heap.size ≤ q → A q := fun q h => by rw [← hAe]; exact Or.inr h
  clear hAe
  have hS : va_S A s.heap s.heap [] := va_S.rf
  have hl := lv_entry ([.ref qm]) (n := 1) (Nat.le_of_ble_eq_true rfl)
  have hent := lg_entry_eq m ([.ref qm]) 1
  rw [← hav] at hent
  rw [hent]
  clear hent hav
  generalize (lg_sl ([.ref qm]) ++ List.replicate (1 - (lg_sl ([.ref qm])).length) Slot.unset).toArray = ls at hl ⊢
  have hl : lv_has ls 1 [(0, .ref qm)] := hl
  generalize hQ : MQ below _ args s 0 0 _ = Q
  have hP : va_P (gD G) vC [(qm, .inr (6, [.int (nI th), .int (nI ul), .ref xt, .int (nI pt), .ref xh, .ref xi, .ref xl, .ref xo, .ref xg, .ref xd, .int (zB false), .ref xs, .int (nI stt), .int (nI sts), .int (nI drw), .ref xn, .ref xb, .ref xv, .int (nI bd), .int (nI rd)]))] s.heap := hP
  obtain ⟨H, hH⟩ : ∃ H : Heap, H = s.heap := ⟨_, rfl⟩
  obtain ⟨locs, hlc⟩ : ∃ L : List Loc, L = [] := ⟨_, rfl⟩
  have hS : va_S A s.heap H locs := by rw [hH, hlc]; exact hS
  have hP : va_P (gD G) vC [(qm, .inr (6, [.int (nI th), .int (nI ul), .ref xt, .int (nI pt), .ref xh, .ref xi, .ref xl, .ref xo, .ref xg, .ref xd, .int (zB false), .ref xs, .int (nI stt), .int (nI sts), .int (nI drw), .ref xn, .ref xb, .ref xv, .int (nI bd), .int (nI rd)]))] H := by rw [hH]; exact hP
  have hgo : W p l e R s m args below meth c H locs 0 0 Q (F0 m 0 ls []) := by
    clear hH hlc
    refine lv_aload_n hx hb dM_safe_0 rfl (lv_at hl 0 rfl) ?_
    refine lv_aload_n hx hb dM_safe_1 rfl (lv_at hl 0 rfl) ?_
    refine va_get (D := gD G) (ci := 6) (v := .int (zB false)) (C := "CircuitProverModel") (T := TM) (N := 20) hx hb htb inM hown hK hP 0 rfl rfl 10 (by decide) (htb _ b681) (fun _ h9 => h9) rfl dM_safe_2 ?_
    refine lv_if_eq (tgt := 12) hx hb dM_safe_5 rfl (fun _ => ?_) (fun h5 => (by revert h5; first | decide | exact fun z => absurd z (by decide) | exact fun z => z.elim (by decide)))
    refine lv_iconst (v := nI 1) hx hb dM_safe_12 (by decide) ?_
    refine va_put (D := gD G) (ci := 6) (v := .int (nI 1)) (ty := tyM 0) (C := "CircuitProverModel") (T := TM) (N := 20) hx hb htb inM tyM tyM_ok nmM hown hK hP hD hS 0 rfl rfl 0 (by decide) (htb _ b671) (fun _ h9 => h9) rfl (tyM_ok 0 (by decide)) rfl rfl (Nat.le_of_ble_eq_true rfl) dM_safe_13 (fun H locs hP hD hS => ?_)
    have hP : va_P (gD G) vC [(qm, .inr (6, [.int (nI 1), .int (nI ul), .ref xt, .int (nI pt), .ref xh, .ref xi, .ref xl, .ref xo, .ref xg, .ref xd, .int (zB false), .ref xs, .int (nI stt), .int (nI sts), .int (nI drw), .ref xn, .ref xb, .ref xv, .int (nI bd), .int (nI rd)]))] H := hP
    have hD : va_D A [(qm, .inr (6, [.int (nI 1), .int (nI ul), .ref xt, .int (nI pt), .ref xh, .ref xi, .ref xl, .ref xo, .ref xg, .ref xd, .int (zB false), .ref xs, .int (nI stt), .int (nI sts), .int (nI drw), .ref xn, .ref xb, .ref xv, .int (nI bd), .int (nI rd)]))] := hD
    refine lv_aload_n hx hb dM_safe_16 rfl (lv_at hl 0 rfl) ?_
    refine va_get (D := gD G) (ci := 6) (v := .int (zB false)) (C := "CircuitProverModel") (T := TM) (N := 20) hx hb htb inM hown hK hP 0 rfl rfl 10 (by decide) (htb _ b681) (fun _ h9 => h9) rfl dM_safe_17 ?_
    refine lv_if_eq (tgt := 34) hx hb dM_safe_20 rfl (fun _ => ?_) (fun h20 => (by revert h20; first | decide | exact fun z => absurd z (by decide) | exact fun z => z.elim (by decide)))
    refine lv_iconst (v := nI 0) hx hb dM_safe_34 (by decide) ?_
    -- end 0
    rw [← hQ]
    exact k_iret hx hb hr hlocks (by decide) (u := 1) (⟨rfl, rfl⟩) hP hD hK hS dM_safe_35
  rw [hH, hlc] at hgo
  exact hgo
set_option maxRecDepth 100000 in
set_option maxHeartbeats 4000000 in
theorem k_M_depth_n (l : Launch) (G : GG) (sz : Nat) (qm : Nat) (xt : Nat) (xh : Nat) (xi : Nat) (xl : Nat) (xo : Nat) (xg : Nat) (xd : Nat) (xs : Nat) (xn : Nat) (xb : Nat) (xv : Nat) (th : Nat) (ul : Nat) (pt : Nat) (stt : Nat) (sts : Nat) (drw : Nat) (bd : Nat) (rd : Nat) : Ki l yM_depth cM_depth 1 .int 0 0 G [.ref qm] [(qm, .inr (6, [.int (nI th), .int (nI ul), .ref xt, .int (nI pt), .ref xh, .ref xi, .ref xl, .ref xo, .ref xg, .ref xd, .int (zB false), .ref xs, .int (nI stt), .int (nI sts), .int (nI drw), .ref xn, .ref xb, .ref xv, .int (nI bd), .int (nI rd)]))] sz (fun (r : Int32) (u : Nat) => (nI 0 = r ∧ 1 = u)) (fun (u : Nat) => [(qm, .inr (6, [.int (nI u), .int (nI ul), .ref xt, .int (nI pt), .ref xh, .ref xi, .ref xl, .ref xo, .ref xg, .ref xd, .int (zB false), .ref xs, .int (nI stt), .int (nI sts), .int (nI drw), .ref xn, .ref xb, .ref xv, .int (nI bd), .int (nI rd)]))]) := by
  refine Met.ofW (cc := cM_depth) (maxL := 1) (ret := (some .int)) (by decide) rfl ?_
  intro p e s m args below meth c s₁ B hml hv
  obtain ⟨hav, hsz, hP, hK, hD0, hE⟩ := hv
  have hx := B.exec
  have hb := B.bytes
  have hr := B.returns
  have htb : ∀ w ∈ TB, w.before args s = true := fun w h => atoms_spec (ws := Cond.code yM_depth cM_depth 1 (some .int) :: TB) B.pre w (List.mem_cons_of_mem _ h)
  have hown : s.vm.findClass "CircuitProverModel" = some m.cls := findClass_of_methodNamed B.named
  have hlocks := B.notSynchronized
  subst hsz
  have hD := hD0.self (sz := s.heap.size)
  clear hD0
  generalize hRm : (headSpec (Cond.code yM_depth cM_depth 1 (some .int) :: TB) { frames := 0, cells := 0, slots := 0, locals := 0 }).room = R
  have hRf : R.frames = 0 := by rw [← hRm]; rfl
  have hRl : R.locals = 0 := by rw [← hRm]; rfl
  have hRc : R.cells = 0 := by rw [← hRm]; rfl
  have hRs : R.slots = 0 := by rw [← hRm]; rfl
  clear hRm
  generalize hAe : va_A [(qm, .inr (6, [.int (nI th), .int (nI ul), .ref xt, .int (nI pt), .ref xh, .ref xi, .ref xl, .ref xo, .ref xg, .ref xd, .int (zB false), .ref xs, .int (nI stt), .int (nI sts), .int (nI drw), .ref xn, .ref xb, .ref xv, .int (nI bd), .int (nI rd)]))] s.heap.size = A at hD hE ⊢
  have hA : ∀ q : Nat, s.heap.size ≤ q → A q := fun q h => by rw [← hAe]; exact Or.inr h
  clear hAe
  have hS : va_S A s.heap s.heap [] := va_S.rf
  have hl := lv_entry ([.ref qm]) (n := 1) (Nat.le_of_ble_eq_true rfl)
  have hent := lg_entry_eq m ([.ref qm]) 1
  rw [← hav] at hent
  rw [hent]
  clear hent hav
  generalize (lg_sl ([.ref qm]) ++ List.replicate (1 - (lg_sl ([.ref qm])).length) Slot.unset).toArray = ls at hl ⊢
  have hl : lv_has ls 1 [(0, .ref qm)] := hl
  generalize hQ : MQ below _ args s 0 0 _ = Q
  have hP : va_P (gD G) vC [(qm, .inr (6, [.int (nI th), .int (nI ul), .ref xt, .int (nI pt), .ref xh, .ref xi, .ref xl, .ref xo, .ref xg, .ref xd, .int (zB false), .ref xs, .int (nI stt), .int (nI sts), .int (nI drw), .ref xn, .ref xb, .ref xv, .int (nI bd), .int (nI rd)]))] s.heap := hP
  obtain ⟨H, hH⟩ : ∃ H : Heap, H = s.heap := ⟨_, rfl⟩
  obtain ⟨locs, hlc⟩ : ∃ L : List Loc, L = [] := ⟨_, rfl⟩
  have hS : va_S A s.heap H locs := by rw [hH, hlc]; exact hS
  have hP : va_P (gD G) vC [(qm, .inr (6, [.int (nI th), .int (nI ul), .ref xt, .int (nI pt), .ref xh, .ref xi, .ref xl, .ref xo, .ref xg, .ref xd, .int (zB false), .ref xs, .int (nI stt), .int (nI sts), .int (nI drw), .ref xn, .ref xb, .ref xv, .int (nI bd), .int (nI rd)]))] H := by rw [hH]; exact hP
  have hgo : W p l e R s m args below meth c H locs 0 0 Q (F0 m 0 ls []) := by
    clear hH hlc
    refine lv_aload_n hx hb dM_depth_0 rfl (lv_at hl 0 rfl) ?_
    refine lv_aload_n hx hb dM_depth_1 rfl (lv_at hl 0 rfl) ?_
    refine va_get (D := gD G) (ci := 6) (v := .int (zB false)) (C := "CircuitProverModel") (T := TM) (N := 20) hx hb htb inM hown hK hP 0 rfl rfl 10 (by decide) (htb _ b681) (fun _ h9 => h9) rfl dM_depth_2 ?_
    refine lv_if_eq (tgt := 12) hx hb dM_depth_5 rfl (fun _ => ?_) (fun h5 => (by revert h5; first | decide | exact fun z => absurd z (by decide) | exact fun z => z.elim (by decide)))
    refine lv_iconst (v := nI 1) hx hb dM_depth_12 (by decide) ?_
    refine va_put (D := gD G) (ci := 6) (v := .int (nI 1)) (ty := tyM 0) (C := "CircuitProverModel") (T := TM) (N := 20) hx hb htb inM tyM tyM_ok nmM hown hK hP hD hS 0 rfl rfl 0 (by decide) (htb _ b671) (fun _ h9 => h9) rfl (tyM_ok 0 (by decide)) rfl rfl (Nat.le_of_ble_eq_true rfl) dM_depth_13 (fun H locs hP hD hS => ?_)
    have hP : va_P (gD G) vC [(qm, .inr (6, [.int (nI 1), .int (nI ul), .ref xt, .int (nI pt), .ref xh, .ref xi, .ref xl, .ref xo, .ref xg, .ref xd, .int (zB false), .ref xs, .int (nI stt), .int (nI sts), .int (nI drw), .ref xn, .ref xb, .ref xv, .int (nI bd), .int (nI rd)]))] H := hP
    have hD : va_D A [(qm, .inr (6, [.int (nI 1), .int (nI ul), .ref xt, .int (nI pt), .ref xh, .ref xi, .ref xl, .ref xo, .ref xg, .ref xd, .int (zB false), .ref xs, .int (nI stt), .int (nI sts), .int (nI drw), .ref xn, .ref xb, .ref xv, .int (nI bd), .int (nI rd)]))] := hD
    refine lv_aload_n hx hb dM_depth_16 rfl (lv_at hl 0 rfl) ?_
    refine va_get (D := gD G) (ci := 6) (v := .int (zB false)) (C := "CircuitProverModel") (T := TM) (N := 20) hx hb htb inM hown hK hP 0 rfl rfl 10 (by decide) (htb _ b681) (fun _ h9 => h9) rfl dM_depth_17 ?_
    refine lv_if_ne (tgt := 27) hx hb dM_depth_20 rfl (fun h20 => (by revert h20; first | decide | exact fun z => absurd z (by decide) | exact fun z => z.elim (by decide))) (fun _ => ?_)
    refine lv_iconst (v := nI 0) hx hb dM_depth_23 (by decide) ?_
    refine lv_goto (tgt := 46) hx hb dM_depth_24 rfl ?_
    -- end 0
    rw [← hQ]
    exact k_iret hx hb hr hlocks rfl (u := 1) (⟨rfl, rfl⟩) hP hD hK hS dM_depth_46
  rw [hH, hlc] at hgo
  exact hgo
set_option maxRecDepth 100000 in
set_option maxHeartbeats 4000000 in
theorem k_M_witness_n (l : Launch) (G : GG) (sz : Nat) (qm : Nat) (xt : Nat) (xh : Nat) (xi : Nat) (xl : Nat) (xo : Nat) (xg : Nat) (xd : Nat) (xs : Nat) (xn : Nat) (xb : Nat) (xv : Nat) (th : Nat) (ul : Nat) (pt : Nat) (stt : Nat) (sts : Nat) (drw : Nat) (bd : Nat) (rd : Nat) (x : Int32) : Ki l yM_witness cM_witness 8 .int 0 0 G [.ref qm, .int x] [(qm, .inr (6, [.int (nI th), .int (nI ul), .ref xt, .int (nI pt), .ref xh, .ref xi, .ref xl, .ref xo, .ref xg, .ref xd, .int (zB false), .ref xs, .int (nI stt), .int (nI sts), .int (nI drw), .ref xn, .ref xb, .ref xv, .int (nI bd), .int (nI rd)]))] sz (fun (r : Int32) (u : Nat) => (nI 0 = r ∧ 1 = u)) (fun (u : Nat) => [(qm, .inr (6, [.int (nI u), .int (nI ul), .ref xt, .int (nI pt), .ref xh, .ref xi, .ref xl, .ref xo, .ref xg, .ref xd, .int (zB false), .ref xs, .int (nI stt), .int (nI sts), .int (nI drw), .ref xn, .ref xb, .ref xv, .int (nI bd), .int (nI rd)]))]) := by
  refine Met.ofW (cc := cM_witness) (maxL := 8) (ret := (some .int)) (by decide) rfl ?_
  intro p e s m args below meth c s₁ B hml hv
  obtain ⟨hav, hsz, hP, hK, hD0, hE⟩ := hv
  have hx := B.exec
  have hb := B.bytes
  have hr := B.returns
  have htb : ∀ w ∈ TB, w.before args s = true := fun w h => atoms_spec (ws := Cond.code yM_witness cM_witness 8 (some .int) :: TB) B.pre w (List.mem_cons_of_mem _ h)
  have hown : s.vm.findClass "CircuitProverModel" = some m.cls := findClass_of_methodNamed B.named
  have hlocks := B.notSynchronized
  subst hsz
  have hD := hD0.self (sz := s.heap.size)
  clear hD0
  generalize hRm : (headSpec (Cond.code yM_witness cM_witness 8 (some .int) :: TB) { frames := 0, cells := 0, slots := 0, locals := 0 }).room = R
  have hRf : R.frames = 0 := by rw [← hRm]; rfl
  have hRl : R.locals = 0 := by rw [← hRm]; rfl
  have hRc : R.cells = 0 := by rw [← hRm]; rfl
  have hRs : R.slots = 0 := by rw [← hRm]; rfl
  clear hRm
  generalize hAe : va_A [(qm, .inr (6, [.int (nI th), .int (nI ul), .ref xt, .int (nI pt), .ref xh, .ref xi, .ref xl, .ref xo, .ref xg, .ref xd, .int (zB false), .ref xs, .int (nI stt), .int (nI sts), .int (nI drw), .ref xn, .ref xb, .ref xv, .int (nI bd), .int (nI rd)]))] s.heap.size = A at hD hE ⊢
  have hA : ∀ q : Nat, s.heap.size ≤ q → A q := fun q h => by rw [← hAe]; exact Or.inr h
  clear hAe
  have hS : va_S A s.heap s.heap [] := va_S.rf
  have hl := lv_entry ([.ref qm, .int x]) (n := 8) (Nat.le_of_ble_eq_true rfl)
  have hent := lg_entry_eq m ([.ref qm, .int x]) 8
  rw [← hav] at hent
  rw [hent]
  clear hent hav
  generalize (lg_sl ([.ref qm, .int x]) ++ List.replicate (8 - (lg_sl ([.ref qm, .int x])).length) Slot.unset).toArray = ls at hl ⊢
  have hl : lv_has ls 8 [(0, .ref qm), (1, .int x)] := hl
  generalize hQ : MQ below _ args s 0 0 _ = Q
  have hP : va_P (gD G) vC [(qm, .inr (6, [.int (nI th), .int (nI ul), .ref xt, .int (nI pt), .ref xh, .ref xi, .ref xl, .ref xo, .ref xg, .ref xd, .int (zB false), .ref xs, .int (nI stt), .int (nI sts), .int (nI drw), .ref xn, .ref xb, .ref xv, .int (nI bd), .int (nI rd)]))] s.heap := hP
  obtain ⟨H, hH⟩ : ∃ H : Heap, H = s.heap := ⟨_, rfl⟩
  obtain ⟨locs, hlc⟩ : ∃ L : List Loc, L = [] := ⟨_, rfl⟩
  have hS : va_S A s.heap H locs := by rw [hH, hlc]; exact hS
  have hP : va_P (gD G) vC [(qm, .inr (6, [.int (nI th), .int (nI ul), .ref xt, .int (nI pt), .ref xh, .ref xi, .ref xl, .ref xo, .ref xg, .ref xd, .int (zB false), .ref xs, .int (nI stt), .int (nI sts), .int (nI drw), .ref xn, .ref xb, .ref xv, .int (nI bd), .int (nI rd)]))] H := by rw [hH]; exact hP
  have hgo : W p l e R s m args below meth c H locs 0 0 Q (F0 m 0 ls []) := by
    clear hH hlc
    refine lv_aload_n hx hb dM_witness_0 rfl (lv_at hl 0 rfl) ?_
    refine lv_aload_n hx hb dM_witness_1 rfl (lv_at hl 0 rfl) ?_
    refine va_get (D := gD G) (ci := 6) (v := .int (zB false)) (C := "CircuitProverModel") (T := TM) (N := 20) hx hb htb inM hown hK hP 0 rfl rfl 10 (by decide) (htb _ b681) (fun _ h9 => h9) rfl dM_witness_2 ?_
    refine lv_if_eq (tgt := 12) hx hb dM_witness_5 rfl (fun _ => ?_) (fun h5 => (by revert h5; first | decide | exact fun z => absurd z (by decide) | exact fun z => z.elim (by decide)))
    refine lv_iconst (v := nI 1) hx hb dM_witness_12 (by decide) ?_
    refine va_put (D := gD G) (ci := 6) (v := .int (nI 1)) (ty := tyM 0) (C := "CircuitProverModel") (T := TM) (N := 20) hx hb htb inM tyM tyM_ok nmM hown hK hP hD hS 0 rfl rfl 0 (by decide) (htb _ b671) (fun _ h9 => h9) rfl (tyM_ok 0 (by decide)) rfl rfl (Nat.le_of_ble_eq_true rfl) dM_witness_13 (fun H locs hP hD hS => ?_)
    have hP : va_P (gD G) vC [(qm, .inr (6, [.int (nI 1), .int (nI ul), .ref xt, .int (nI pt), .ref xh, .ref xi, .ref xl, .ref xo, .ref xg, .ref xd, .int (zB false), .ref xs, .int (nI stt), .int (nI sts), .int (nI drw), .ref xn, .ref xb, .ref xv, .int (nI bd), .int (nI rd)]))] H := hP
    have hD : va_D A [(qm, .inr (6, [.int (nI 1), .int (nI ul), .ref xt, .int (nI pt), .ref xh, .ref xi, .ref xl, .ref xo, .ref xg, .ref xd, .int (zB false), .ref xs, .int (nI stt), .int (nI sts), .int (nI drw), .ref xn, .ref xb, .ref xv, .int (nI bd), .int (nI rd)]))] := hD
    refine lv_aload_n hx hb dM_witness_16 rfl (lv_at hl 0 rfl) ?_
    refine va_get (D := gD G) (ci := 6) (v := .int (zB false)) (C := "CircuitProverModel") (T := TM) (N := 20) hx hb htb inM hown hK hP 0 rfl rfl 10 (by decide) (htb _ b681) (fun _ h9 => h9) rfl dM_witness_17 ?_
    refine lv_if_ne (tgt := 25) hx hb dM_witness_20 rfl (fun h20 => (by revert h20; first | decide | exact fun z => absurd z (by decide) | exact fun z => z.elim (by decide))) (fun _ => ?_)
    refine lv_iconst (v := nI 0) hx hb dM_witness_23 (by decide) ?_
    -- end 0
    rw [← hQ]
    exact k_iret hx hb hr hlocks rfl (u := 1) (⟨rfl, rfl⟩) hP hD hK hS dM_witness_24
  rw [hH, hlc] at hgo
  exact hgo
set_option maxRecDepth 100000 in
set_option maxHeartbeats 4000000 in
theorem k_M_bound_n (l : Launch) (G : GG) (sz : Nat) (qm : Nat) (xt : Nat) (xh : Nat) (xi : Nat) (xl : Nat) (xo : Nat) (xg : Nat) (xd : Nat) (xs : Nat) (xn : Nat) (xb : Nat) (xv : Nat) (th : Nat) (ul : Nat) (pt : Nat) (stt : Nat) (sts : Nat) (drw : Nat) (bd : Nat) (rd : Nat) : Ki l yM_bound cM_bound 3 .int 0 0 G [.ref qm] [(qm, .inr (6, [.int (nI th), .int (nI ul), .ref xt, .int (nI pt), .ref xh, .ref xi, .ref xl, .ref xo, .ref xg, .ref xd, .int (zB false), .ref xs, .int (nI stt), .int (nI sts), .int (nI drw), .ref xn, .ref xb, .ref xv, .int (nI bd), .int (nI rd)]))] sz (fun (r : Int32) (u : Nat) => (nI 0 = r ∧ 1 = u)) (fun (u : Nat) => [(qm, .inr (6, [.int (nI u), .int (nI ul), .ref xt, .int (nI pt), .ref xh, .ref xi, .ref xl, .ref xo, .ref xg, .ref xd, .int (zB false), .ref xs, .int (nI stt), .int (nI sts), .int (nI drw), .ref xn, .ref xb, .ref xv, .int (nI bd), .int (nI rd)]))]) := by
  refine Met.ofW (cc := cM_bound) (maxL := 3) (ret := (some .int)) (by decide) rfl ?_
  intro p e s m args below meth c s₁ B hml hv
  obtain ⟨hav, hsz, hP, hK, hD0, hE⟩ := hv
  have hx := B.exec
  have hb := B.bytes
  have hr := B.returns
  have htb : ∀ w ∈ TB, w.before args s = true := fun w h => atoms_spec (ws := Cond.code yM_bound cM_bound 3 (some .int) :: TB) B.pre w (List.mem_cons_of_mem _ h)
  have hown : s.vm.findClass "CircuitProverModel" = some m.cls := findClass_of_methodNamed B.named
  have hlocks := B.notSynchronized
  subst hsz
  have hD := hD0.self (sz := s.heap.size)
  clear hD0
  generalize hRm : (headSpec (Cond.code yM_bound cM_bound 3 (some .int) :: TB) { frames := 0, cells := 0, slots := 0, locals := 0 }).room = R
  have hRf : R.frames = 0 := by rw [← hRm]; rfl
  have hRl : R.locals = 0 := by rw [← hRm]; rfl
  have hRc : R.cells = 0 := by rw [← hRm]; rfl
  have hRs : R.slots = 0 := by rw [← hRm]; rfl
  clear hRm
  generalize hAe : va_A [(qm, .inr (6, [.int (nI th), .int (nI ul), .ref xt, .int (nI pt), .ref xh, .ref xi, .ref xl, .ref xo, .ref xg, .ref xd, .int (zB false), .ref xs, .int (nI stt), .int (nI sts), .int (nI drw), .ref xn, .ref xb, .ref xv, .int (nI bd), .int (nI rd)]))] s.heap.size = A at hD hE ⊢
  have hA : ∀ q : Nat, s.heap.size ≤ q → A q := fun q h => by rw [← hAe]; exact Or.inr h
  clear hAe
  have hS : va_S A s.heap s.heap [] := va_S.rf
  have hl := lv_entry ([.ref qm]) (n := 3) (Nat.le_of_ble_eq_true rfl)
  have hent := lg_entry_eq m ([.ref qm]) 3
  rw [← hav] at hent
  rw [hent]
  clear hent hav
  generalize (lg_sl ([.ref qm]) ++ List.replicate (3 - (lg_sl ([.ref qm])).length) Slot.unset).toArray = ls at hl ⊢
  have hl : lv_has ls 3 [(0, .ref qm)] := hl
  generalize hQ : MQ below _ args s 0 0 _ = Q
  have hP : va_P (gD G) vC [(qm, .inr (6, [.int (nI th), .int (nI ul), .ref xt, .int (nI pt), .ref xh, .ref xi, .ref xl, .ref xo, .ref xg, .ref xd, .int (zB false), .ref xs, .int (nI stt), .int (nI sts), .int (nI drw), .ref xn, .ref xb, .ref xv, .int (nI bd), .int (nI rd)]))] s.heap := hP
  obtain ⟨H, hH⟩ : ∃ H : Heap, H = s.heap := ⟨_, rfl⟩
  obtain ⟨locs, hlc⟩ : ∃ L : List Loc, L = [] := ⟨_, rfl⟩
  have hS : va_S A s.heap H locs := by rw [hH, hlc]; exact hS
  have hP : va_P (gD G) vC [(qm, .inr (6, [.int (nI th), .int (nI ul), .ref xt, .int (nI pt), .ref xh, .ref xi, .ref xl, .ref xo, .ref xg, .ref xd, .int (zB false), .ref xs, .int (nI stt), .int (nI sts), .int (nI drw), .ref xn, .ref xb, .ref xv, .int (nI bd), .int (nI rd)]))] H := by rw [hH]; exact hP
  have hgo : W p l e R s m args below meth c H locs 0 0 Q (F0 m 0 ls []) := by
    clear hH hlc
    refine lv_aload_n hx hb dM_bound_0 rfl (lv_at hl 0 rfl) ?_
    refine lv_aload_n hx hb dM_bound_1 rfl (lv_at hl 0 rfl) ?_
    refine va_get (D := gD G) (ci := 6) (v := .int (zB false)) (C := "CircuitProverModel") (T := TM) (N := 20) hx hb htb inM hown hK hP 0 rfl rfl 10 (by decide) (htb _ b681) (fun _ h9 => h9) rfl dM_bound_2 ?_
    refine lv_if_eq (tgt := 12) hx hb dM_bound_5 rfl (fun _ => ?_) (fun h5 => (by revert h5; first | decide | exact fun z => absurd z (by decide) | exact fun z => z.elim (by decide)))
    refine lv_iconst (v := nI 1) hx hb dM_bound_12 (by decide) ?_
    refine va_put (D := gD G) (ci := 6) (v := .int (nI 1)) (ty := tyM 0) (C := "CircuitProverModel") (T := TM) (N := 20) hx hb htb inM tyM tyM_ok nmM hown hK hP hD hS 0 rfl rfl 0 (by decide) (htb _ b671) (fun _ h9 => h9) rfl (tyM_ok 0 (by decide)) rfl rfl (Nat.le_of_ble_eq_true rfl) dM_bound_13 (fun H locs hP hD hS => ?_)
    have hP : va_P (gD G) vC [(qm, .inr (6, [.int (nI 1), .int (nI ul), .ref xt, .int (nI pt), .ref xh, .ref xi, .ref xl, .ref xo, .ref xg, .ref xd, .int (zB false), .ref xs, .int (nI stt), .int (nI sts), .int (nI drw), .ref xn, .ref xb, .ref xv, .int (nI bd), .int (nI rd)]))] H := hP
    have hD : va_D A [(qm, .inr (6, [.int (nI 1), .int (nI ul), .ref xt, .int (nI pt), .ref xh, .ref xi, .ref xl, .ref xo, .ref xg, .ref xd, .int (zB false), .ref xs, .int (nI stt), .int (nI sts), .int (nI drw), .ref xn, .ref xb, .ref xv, .int (nI bd), .int (nI rd)]))] := hD
    refine lv_aload_n hx hb dM_bound_16 rfl (lv_at hl 0 rfl) ?_
    refine va_get (D := gD G) (ci := 6) (v := .int (zB false)) (C := "CircuitProverModel") (T := TM) (N := 20) hx hb htb inM hown hK hP 0 rfl rfl 10 (by decide) (htb _ b681) (fun _ h9 => h9) rfl dM_bound_17 ?_
    refine lv_if_eq (tgt := 30) hx hb dM_bound_20 rfl (fun _ => ?_) (fun h20 => (by revert h20; first | decide | exact fun z => absurd z (by decide) | exact fun z => z.elim (by decide)))
    refine lv_aload_n hx hb dM_bound_30 rfl (lv_at hl 0 rfl) ?_
    refine va_get (D := gD G) (ci := 6) (v := .int (zB false)) (C := "CircuitProverModel") (T := TM) (N := 20) hx hb htb inM hown hK hP 0 rfl rfl 10 (by decide) (htb _ b681) (fun _ h9 => h9) rfl dM_bound_31 ?_
    refine lv_if_eq (tgt := 41) hx hb dM_bound_34 rfl (fun _ => ?_) (fun h34 => (by revert h34; first | decide | exact fun z => absurd z (by decide) | exact fun z => z.elim (by decide)))
    refine lv_iconst (v := nI 0) hx hb dM_bound_41 (by decide) ?_
    -- end 0
    rw [← hQ]
    exact k_iret hx hb hr hlocks rfl (u := 1) (⟨rfl, rfl⟩) hP hD hK hS dM_bound_42
  rw [hH, hlc] at hgo
  exact hgo
set_option maxRecDepth 100000 in
set_option maxHeartbeats 4000000 in
theorem k_M_rounds_n (l : Launch) (G : GG) (sz : Nat) (qm : Nat) (xt : Nat) (xh : Nat) (xi : Nat) (xl : Nat) (xo : Nat) (xg : Nat) (xd : Nat) (xs : Nat) (xn : Nat) (xb : Nat) (xv : Nat) (th : Nat) (ul : Nat) (pt : Nat) (stt : Nat) (sts : Nat) (drw : Nat) (bd : Nat) (rd : Nat) : Ki l yM_rounds cM_rounds 3 .int 0 0 G [.ref qm] [(qm, .inr (6, [.int (nI th), .int (nI ul), .ref xt, .int (nI pt), .ref xh, .ref xi, .ref xl, .ref xo, .ref xg, .ref xd, .int (zB false), .ref xs, .int (nI stt), .int (nI sts), .int (nI drw), .ref xn, .ref xb, .ref xv, .int (nI bd), .int (nI rd)]))] sz (fun (r : Int32) (u : Nat) => (nI 0 = r ∧ 1 = u)) (fun (u : Nat) => [(qm, .inr (6, [.int (nI u), .int (nI ul), .ref xt, .int (nI pt), .ref xh, .ref xi, .ref xl, .ref xo, .ref xg, .ref xd, .int (zB false), .ref xs, .int (nI stt), .int (nI sts), .int (nI drw), .ref xn, .ref xb, .ref xv, .int (nI bd), .int (nI rd)]))]) := by
  refine Met.ofW (cc := cM_rounds) (maxL := 3) (ret := (some .int)) (by decide) rfl ?_
  intro p e s m args below meth c s₁ B hml hv
  obtain ⟨hav, hsz, hP, hK, hD0, hE⟩ := hv
  have hx := B.exec
  have hb := B.bytes
  have hr := B.returns
  have htb : ∀ w ∈ TB, w.before args s = true := fun w h => atoms_spec (ws := Cond.code yM_rounds cM_rounds 3 (some .int) :: TB) B.pre w (List.mem_cons_of_mem _ h)
  have hown : s.vm.findClass "CircuitProverModel" = some m.cls := findClass_of_methodNamed B.named
  have hlocks := B.notSynchronized
  subst hsz
  have hD := hD0.self (sz := s.heap.size)
  clear hD0
  generalize hRm : (headSpec (Cond.code yM_rounds cM_rounds 3 (some .int) :: TB) { frames := 0, cells := 0, slots := 0, locals := 0 }).room = R
  have hRf : R.frames = 0 := by rw [← hRm]; rfl
  have hRl : R.locals = 0 := by rw [← hRm]; rfl
  have hRc : R.cells = 0 := by rw [← hRm]; rfl
  have hRs : R.slots = 0 := by rw [← hRm]; rfl
  clear hRm
  generalize hAe : va_A [(qm, .inr (6, [.int (nI th), .int (nI ul), .ref xt, .int (nI pt), .ref xh, .ref xi, .ref xl, .ref xo, .ref xg, .ref xd, .int (zB false), .ref xs, .int (nI stt), .int (nI sts), .int (nI drw), .ref xn, .ref xb, .ref xv, .int (nI bd), .int (nI rd)]))] s.heap.size = A at hD hE ⊢
  have hA : ∀ q : Nat, s.heap.size ≤ q → A q := fun q h => by rw [← hAe]; exact Or.inr h
  clear hAe
  have hS : va_S A s.heap s.heap [] := va_S.rf
  have hl := lv_entry ([.ref qm]) (n := 3) (Nat.le_of_ble_eq_true rfl)
  have hent := lg_entry_eq m ([.ref qm]) 3
  rw [← hav] at hent
  rw [hent]
  clear hent hav
  generalize (lg_sl ([.ref qm]) ++ List.replicate (3 - (lg_sl ([.ref qm])).length) Slot.unset).toArray = ls at hl ⊢
  have hl : lv_has ls 3 [(0, .ref qm)] := hl
  generalize hQ : MQ below _ args s 0 0 _ = Q
  have hP : va_P (gD G) vC [(qm, .inr (6, [.int (nI th), .int (nI ul), .ref xt, .int (nI pt), .ref xh, .ref xi, .ref xl, .ref xo, .ref xg, .ref xd, .int (zB false), .ref xs, .int (nI stt), .int (nI sts), .int (nI drw), .ref xn, .ref xb, .ref xv, .int (nI bd), .int (nI rd)]))] s.heap := hP
  obtain ⟨H, hH⟩ : ∃ H : Heap, H = s.heap := ⟨_, rfl⟩
  obtain ⟨locs, hlc⟩ : ∃ L : List Loc, L = [] := ⟨_, rfl⟩
  have hS : va_S A s.heap H locs := by rw [hH, hlc]; exact hS
  have hP : va_P (gD G) vC [(qm, .inr (6, [.int (nI th), .int (nI ul), .ref xt, .int (nI pt), .ref xh, .ref xi, .ref xl, .ref xo, .ref xg, .ref xd, .int (zB false), .ref xs, .int (nI stt), .int (nI sts), .int (nI drw), .ref xn, .ref xb, .ref xv, .int (nI bd), .int (nI rd)]))] H := by rw [hH]; exact hP
  have hgo : W p l e R s m args below meth c H locs 0 0 Q (F0 m 0 ls []) := by
    clear hH hlc
    refine lv_aload_n hx hb dM_rounds_0 rfl (lv_at hl 0 rfl) ?_
    refine lv_aload_n hx hb dM_rounds_1 rfl (lv_at hl 0 rfl) ?_
    refine va_get (D := gD G) (ci := 6) (v := .int (zB false)) (C := "CircuitProverModel") (T := TM) (N := 20) hx hb htb inM hown hK hP 0 rfl rfl 10 (by decide) (htb _ b681) (fun _ h9 => h9) rfl dM_rounds_2 ?_
    refine lv_if_eq (tgt := 12) hx hb dM_rounds_5 rfl (fun _ => ?_) (fun h5 => (by revert h5; first | decide | exact fun z => absurd z (by decide) | exact fun z => z.elim (by decide)))
    refine lv_iconst (v := nI 1) hx hb dM_rounds_12 (by decide) ?_
    refine va_put (D := gD G) (ci := 6) (v := .int (nI 1)) (ty := tyM 0) (C := "CircuitProverModel") (T := TM) (N := 20) hx hb htb inM tyM tyM_ok nmM hown hK hP hD hS 0 rfl rfl 0 (by decide) (htb _ b671) (fun _ h9 => h9) rfl (tyM_ok 0 (by decide)) rfl rfl (Nat.le_of_ble_eq_true rfl) dM_rounds_13 (fun H locs hP hD hS => ?_)
    have hP : va_P (gD G) vC [(qm, .inr (6, [.int (nI 1), .int (nI ul), .ref xt, .int (nI pt), .ref xh, .ref xi, .ref xl, .ref xo, .ref xg, .ref xd, .int (zB false), .ref xs, .int (nI stt), .int (nI sts), .int (nI drw), .ref xn, .ref xb, .ref xv, .int (nI bd), .int (nI rd)]))] H := hP
    have hD : va_D A [(qm, .inr (6, [.int (nI 1), .int (nI ul), .ref xt, .int (nI pt), .ref xh, .ref xi, .ref xl, .ref xo, .ref xg, .ref xd, .int (zB false), .ref xs, .int (nI stt), .int (nI sts), .int (nI drw), .ref xn, .ref xb, .ref xv, .int (nI bd), .int (nI rd)]))] := hD
    refine lv_aload_n hx hb dM_rounds_16 rfl (lv_at hl 0 rfl) ?_
    refine va_get (D := gD G) (ci := 6) (v := .int (zB false)) (C := "CircuitProverModel") (T := TM) (N := 20) hx hb htb inM hown hK hP 0 rfl rfl 10 (by decide) (htb _ b681) (fun _ h9 => h9) rfl dM_rounds_17 ?_
    refine lv_if_eq (tgt := 30) hx hb dM_rounds_20 rfl (fun _ => ?_) (fun h20 => (by revert h20; first | decide | exact fun z => absurd z (by decide) | exact fun z => z.elim (by decide)))
    refine lv_aload_n hx hb dM_rounds_30 rfl (lv_at hl 0 rfl) ?_
    refine va_get (D := gD G) (ci := 6) (v := .int (zB false)) (C := "CircuitProverModel") (T := TM) (N := 20) hx hb htb inM hown hK hP 0 rfl rfl 10 (by decide) (htb _ b681) (fun _ h9 => h9) rfl dM_rounds_31 ?_
    refine lv_if_eq (tgt := 41) hx hb dM_rounds_34 rfl (fun _ => ?_) (fun h34 => (by revert h34; first | decide | exact fun z => absurd z (by decide) | exact fun z => z.elim (by decide)))
    refine lv_iconst (v := nI 0) hx hb dM_rounds_41 (by decide) ?_
    -- end 0
    rw [← hQ]
    exact k_iret hx hb hr hlocks rfl (u := 1) (⟨rfl, rfl⟩) hP hD hK hS dM_rounds_42
  rw [hH, hlc] at hgo
  exact hgo
set_option maxRecDepth 100000 in
set_option maxHeartbeats 4000000 in
theorem k_M_holds_n (l : Launch) (G : GG) (sz : Nat) (qm : Nat) (xt : Nat) (xh : Nat) (xi : Nat) (xl : Nat) (xo : Nat) (xg : Nat) (xd : Nat) (xs : Nat) (xn : Nat) (xb : Nat) (xv : Nat) (th : Nat) (ul : Nat) (pt : Nat) (stt : Nat) (sts : Nat) (drw : Nat) (bd : Nat) (rd : Nat) (x : Int32) : Ki l yM_holds cM_holds 4 .boolean 0 0 G [.ref qm, .int x] [(qm, .inr (6, [.int (nI th), .int (nI ul), .ref xt, .int (nI pt), .ref xh, .ref xi, .ref xl, .ref xo, .ref xg, .ref xd, .int (zB false), .ref xs, .int (nI stt), .int (nI sts), .int (nI drw), .ref xn, .ref xb, .ref xv, .int (nI bd), .int (nI rd)]))] sz (fun (r : Int32) (u : Nat) => (nI 0 = r ∧ 1 = u)) (fun (u : Nat) => [(qm, .inr (6, [.int (nI u), .int (nI ul), .ref xt, .int (nI pt), .ref xh, .ref xi, .ref xl, .ref xo, .ref xg, .ref xd, .int (zB false), .ref xs, .int (nI stt), .int (nI sts), .int (nI drw), .ref xn, .ref xb, .ref xv, .int (nI bd), .int (nI rd)]))]) := by
  refine Met.ofW (cc := cM_holds) (maxL := 4) (ret := (some .boolean)) (by decide) rfl ?_
  intro p e s m args below meth c s₁ B hml hv
  obtain ⟨hav, hsz, hP, hK, hD0, hE⟩ := hv
  have hx := B.exec
  have hb := B.bytes
  have hr := B.returns
  have htb : ∀ w ∈ TB, w.before args s = true := fun w h => atoms_spec (ws := Cond.code yM_holds cM_holds 4 (some .boolean) :: TB) B.pre w (List.mem_cons_of_mem _ h)
  have hown : s.vm.findClass "CircuitProverModel" = some m.cls := findClass_of_methodNamed B.named
  have hlocks := B.notSynchronized
  subst hsz
  have hD := hD0.self (sz := s.heap.size)
  clear hD0
  generalize hRm : (headSpec (Cond.code yM_holds cM_holds 4 (some .boolean) :: TB) { frames := 0, cells := 0, slots := 0, locals := 0 }).room = R
  have hRf : R.frames = 0 := by rw [← hRm]; rfl
  have hRl : R.locals = 0 := by rw [← hRm]; rfl
  have hRc : R.cells = 0 := by rw [← hRm]; rfl
  have hRs : R.slots = 0 := by rw [← hRm]; rfl
  clear hRm
  generalize hAe : va_A [(qm, .inr (6, [.int (nI th), .int (nI ul), .ref xt, .int (nI pt), .ref xh, .ref xi, .ref xl, .ref xo, .ref xg, .ref xd, .int (zB false), .ref xs, .int (nI stt), .int (nI sts), .int (nI drw), .ref xn, .ref xb, .ref xv, .int (nI bd), .int (nI rd)]))] s.heap.size = A at hD hE ⊢
  have hA : ∀ q : Nat, s.heap.size ≤ q → A q := fun q h => by rw [← hAe]; exact Or.inr h
  clear hAe
  have hS : va_S A s.heap s.heap [] := va_S.rf
  have hl := lv_entry ([.ref qm, .int x]) (n := 4) (Nat.le_of_ble_eq_true rfl)
  have hent := lg_entry_eq m ([.ref qm, .int x]) 4
  rw [← hav] at hent
  rw [hent]
  clear hent hav
  generalize (lg_sl ([.ref qm, .int x]) ++ List.replicate (4 - (lg_sl ([.ref qm, .int x])).length) Slot.unset).toArray = ls at hl ⊢
  have hl : lv_has ls 4 [(0, .ref qm), (1, .int x)] := hl
  generalize hQ : MQ below _ args s 0 0 _ = Q
  have hP : va_P (gD G) vC [(qm, .inr (6, [.int (nI th), .int (nI ul), .ref xt, .int (nI pt), .ref xh, .ref xi, .ref xl, .ref xo, .ref xg, .ref xd, .int (zB false), .ref xs, .int (nI stt), .int (nI sts), .int (nI drw), .ref xn, .ref xb, .ref xv, .int (nI bd), .int (nI rd)]))] s.heap := hP
  obtain ⟨H, hH⟩ : ∃ H : Heap, H = s.heap := ⟨_, rfl⟩
  obtain ⟨locs, hlc⟩ : ∃ L : List Loc, L = [] := ⟨_, rfl⟩
  have hS : va_S A s.heap H locs := by rw [hH, hlc]; exact hS
  have hP : va_P (gD G) vC [(qm, .inr (6, [.int (nI th), .int (nI ul), .ref xt, .int (nI pt), .ref xh, .ref xi, .ref xl, .ref xo, .ref xg, .ref xd, .int (zB false), .ref xs, .int (nI stt), .int (nI sts), .int (nI drw), .ref xn, .ref xb, .ref xv, .int (nI bd), .int (nI rd)]))] H := by rw [hH]; exact hP
  have hgo : W p l e R s m args below meth c H locs 0 0 Q (F0 m 0 ls []) := by
    clear hH hlc
    refine lv_aload_n hx hb dM_holds_0 rfl (lv_at hl 0 rfl) ?_
    refine lv_aload_n hx hb dM_holds_1 rfl (lv_at hl 0 rfl) ?_
    refine va_get (D := gD G) (ci := 6) (v := .int (zB false)) (C := "CircuitProverModel") (T := TM) (N := 20) hx hb htb inM hown hK hP 0 rfl rfl 10 (by decide) (htb _ b681) (fun _ h9 => h9) rfl dM_holds_2 ?_
    refine lv_if_eq (tgt := 12) hx hb dM_holds_5 rfl (fun _ => ?_) (fun h5 => (by revert h5; first | decide | exact fun z => absurd z (by decide) | exact fun z => z.elim (by decide)))
    refine lv_iconst (v := nI 1) hx hb dM_holds_12 (by decide) ?_
    refine va_put (D := gD G) (ci := 6) (v := .int (nI 1)) (ty := tyM 0) (C := "CircuitProverModel") (T := TM) (N := 20) hx hb htb inM tyM tyM_ok nmM hown hK hP hD hS 0 rfl rfl 0 (by decide) (htb _ b671) (fun _ h9 => h9) rfl (tyM_ok 0 (by decide)) rfl rfl (Nat.le_of_ble_eq_true rfl) dM_holds_13 (fun H locs hP hD hS => ?_)
    have hP : va_P (gD G) vC [(qm, .inr (6, [.int (nI 1), .int (nI ul), .ref xt, .int (nI pt), .ref xh, .ref xi, .ref xl, .ref xo, .ref xg, .ref xd, .int (zB false), .ref xs, .int (nI stt), .int (nI sts), .int (nI drw), .ref xn, .ref xb, .ref xv, .int (nI bd), .int (nI rd)]))] H := hP
    have hD : va_D A [(qm, .inr (6, [.int (nI 1), .int (nI ul), .ref xt, .int (nI pt), .ref xh, .ref xi, .ref xl, .ref xo, .ref xg, .ref xd, .int (zB false), .ref xs, .int (nI stt), .int (nI sts), .int (nI drw), .ref xn, .ref xb, .ref xv, .int (nI bd), .int (nI rd)]))] := hD
    refine lv_aload_n hx hb dM_holds_16 rfl (lv_at hl 0 rfl) ?_
    refine va_get (D := gD G) (ci := 6) (v := .int (zB false)) (C := "CircuitProverModel") (T := TM) (N := 20) hx hb htb inM hown hK hP 0 rfl rfl 10 (by decide) (htb _ b681) (fun _ h9 => h9) rfl dM_holds_17 ?_
    refine lv_if_eq (tgt := 35) hx hb dM_holds_20 rfl (fun _ => ?_) (fun h20 => (by revert h20; first | decide | exact fun z => absurd z (by decide) | exact fun z => z.elim (by decide)))
    refine lv_iconst (v := nI 0) hx hb dM_holds_35 (by decide) ?_
    -- end 0
    rw [← hQ]
    exact k_iret hx hb hr hlocks (by decide) (u := 1) (⟨rfl, rfl⟩) hP hD hK hS dM_holds_36
  rw [hH, hlc] at hgo
  exact hgo
set_option maxRecDepth 100000 in
set_option maxHeartbeats 4000000 in
theorem k_M_count_n (l : Launch) (G : GG) (sz : Nat) (qm : Nat) (xt : Nat) (xh : Nat) (xi : Nat) (xl : Nat) (xo : Nat) (xg : Nat) (xd : Nat) (xs : Nat) (xn : Nat) (xb : Nat) (xv : Nat) (th : Nat) (ul : Nat) (pt : Nat) (stt : Nat) (sts : Nat) (drw : Nat) (bd : Nat) (rd : Nat) (x : Int32) : Ki l yM_count cM_count 6 .int 0 0 G [.ref qm, .int x] [(qm, .inr (6, [.int (nI th), .int (nI ul), .ref xt, .int (nI pt), .ref xh, .ref xi, .ref xl, .ref xo, .ref xg, .ref xd, .int (zB false), .ref xs, .int (nI stt), .int (nI sts), .int (nI drw), .ref xn, .ref xb, .ref xv, .int (nI bd), .int (nI rd)]))] sz (fun (r : Int32) (u : Nat) => (nI 0 = r ∧ 1 = u)) (fun (u : Nat) => [(qm, .inr (6, [.int (nI u), .int (nI ul), .ref xt, .int (nI pt), .ref xh, .ref xi, .ref xl, .ref xo, .ref xg, .ref xd, .int (zB false), .ref xs, .int (nI stt), .int (nI sts), .int (nI drw), .ref xn, .ref xb, .ref xv, .int (nI bd), .int (nI rd)]))]) := by
  refine Met.ofW (cc := cM_count) (maxL := 6) (ret := (some .int)) (by decide) rfl ?_
  intro p e s m args below meth c s₁ B hml hv
  obtain ⟨hav, hsz, hP, hK, hD0, hE⟩ := hv
  have hx := B.exec
  have hb := B.bytes
  have hr := B.returns
  have htb : ∀ w ∈ TB, w.before args s = true := fun w h => atoms_spec (ws := Cond.code yM_count cM_count 6 (some .int) :: TB) B.pre w (List.mem_cons_of_mem _ h)
  have hown : s.vm.findClass "CircuitProverModel" = some m.cls := findClass_of_methodNamed B.named
  have hlocks := B.notSynchronized
  subst hsz
  have hD := hD0.self (sz := s.heap.size)
  clear hD0
  generalize hRm : (headSpec (Cond.code yM_count cM_count 6 (some .int) :: TB) { frames := 0, cells := 0, slots := 0, locals := 0 }).room = R
  have hRf : R.frames = 0 := by rw [← hRm]; rfl
  have hRl : R.locals = 0 := by rw [← hRm]; rfl
  have hRc : R.cells = 0 := by rw [← hRm]; rfl
  have hRs : R.slots = 0 := by rw [← hRm]; rfl
  clear hRm
  generalize hAe : va_A [(qm, .inr (6, [.int (nI th), .int (nI ul), .ref xt, .int (nI pt), .ref xh, .ref xi, .ref xl, .ref xo, .ref xg, .ref xd, .int (zB false), .ref xs, .int (nI stt), .int (nI sts), .int (nI drw), .ref xn, .ref xb, .ref xv, .int (nI bd), .int (nI rd)]))] s.heap.size = A at hD hE ⊢
  have hA : ∀ q : Nat, s.heap.size ≤ q → A q := fun q h => by rw [← hAe]; exact Or.inr h
  clear hAe
  have hS : va_S A s.heap s.heap [] := va_S.rf
  have hl := lv_entry ([.ref qm, .int x]) (n := 6) (Nat.le_of_ble_eq_true rfl)
  have hent := lg_entry_eq m ([.ref qm, .int x]) 6
  rw [← hav] at hent
  rw [hent]
  clear hent hav
  generalize (lg_sl ([.ref qm, .int x]) ++ List.replicate (6 - (lg_sl ([.ref qm, .int x])).length) Slot.unset).toArray = ls at hl ⊢
  have hl : lv_has ls 6 [(0, .ref qm), (1, .int x)] := hl
  generalize hQ : MQ below _ args s 0 0 _ = Q
  have hP : va_P (gD G) vC [(qm, .inr (6, [.int (nI th), .int (nI ul), .ref xt, .int (nI pt), .ref xh, .ref xi, .ref xl, .ref xo, .ref xg, .ref xd, .int (zB false), .ref xs, .int (nI stt), .int (nI sts), .int (nI drw), .ref xn, .ref xb, .ref xv, .int (nI bd), .int (nI rd)]))] s.heap := hP
  obtain ⟨H, hH⟩ : ∃ H : Heap, H = s.heap := ⟨_, rfl⟩
  obtain ⟨locs, hlc⟩ : ∃ L : List Loc, L = [] := ⟨_, rfl⟩
  have hS : va_S A s.heap H locs := by rw [hH, hlc]; exact hS
  have hP : va_P (gD G) vC [(qm, .inr (6, [.int (nI th), .int (nI ul), .ref xt, .int (nI pt), .ref xh, .ref xi, .ref xl, .ref xo, .ref xg, .ref xd, .int (zB false), .ref xs, .int (nI stt), .int (nI sts), .int (nI drw), .ref xn, .ref xb, .ref xv, .int (nI bd), .int (nI rd)]))] H := by rw [hH]; exact hP
  have hgo : W p l e R s m args below meth c H locs 0 0 Q (F0 m 0 ls []) := by
    clear hH hlc
    refine lv_aload_n hx hb dM_count_0 rfl (lv_at hl 0 rfl) ?_
    refine lv_aload_n hx hb dM_count_1 rfl (lv_at hl 0 rfl) ?_
    refine va_get (D := gD G) (ci := 6) (v := .int (zB false)) (C := "CircuitProverModel") (T := TM) (N := 20) hx hb htb inM hown hK hP 0 rfl rfl 10 (by decide) (htb _ b681) (fun _ h9 => h9) rfl dM_count_2 ?_
    refine lv_if_eq (tgt := 12) hx hb dM_count_5 rfl (fun _ => ?_) (fun h5 => (by revert h5; first | decide | exact fun z => absurd z (by decide) | exact fun z => z.elim (by decide)))
    refine lv_iconst (v := nI 1) hx hb dM_count_12 (by decide) ?_
    refine va_put (D := gD G) (ci := 6) (v := .int (nI 1)) (ty := tyM 0) (C := "CircuitProverModel") (T := TM) (N := 20) hx hb htb inM tyM tyM_ok nmM hown hK hP hD hS 0 rfl rfl 0 (by decide) (htb _ b671) (fun _ h9 => h9) rfl (tyM_ok 0 (by decide)) rfl rfl (Nat.le_of_ble_eq_true rfl) dM_count_13 (fun H locs hP hD hS => ?_)
    have hP : va_P (gD G) vC [(qm, .inr (6, [.int (nI 1), .int (nI ul), .ref xt, .int (nI pt), .ref xh, .ref xi, .ref xl, .ref xo, .ref xg, .ref xd, .int (zB false), .ref xs, .int (nI stt), .int (nI sts), .int (nI drw), .ref xn, .ref xb, .ref xv, .int (nI bd), .int (nI rd)]))] H := hP
    have hD : va_D A [(qm, .inr (6, [.int (nI 1), .int (nI ul), .ref xt, .int (nI pt), .ref xh, .ref xi, .ref xl, .ref xo, .ref xg, .ref xd, .int (zB false), .ref xs, .int (nI stt), .int (nI sts), .int (nI drw), .ref xn, .ref xb, .ref xv, .int (nI bd), .int (nI rd)]))] := hD
    refine lv_aload_n hx hb dM_count_16 rfl (lv_at hl 0 rfl) ?_
    refine va_get (D := gD G) (ci := 6) (v := .int (zB false)) (C := "CircuitProverModel") (T := TM) (N := 20) hx hb htb inM hown hK hP 0 rfl rfl 10 (by decide) (htb _ b681) (fun _ h9 => h9) rfl dM_count_17 ?_
    refine lv_if_eq (tgt := 31) hx hb dM_count_20 rfl (fun _ => ?_) (fun h20 => (by revert h20; first | decide | exact fun z => absurd z (by decide) | exact fun z => z.elim (by decide)))
    refine lv_aload_n hx hb dM_count_31 rfl (lv_at hl 0 rfl) ?_
    refine va_get (D := gD G) (ci := 6) (v := .int (zB false)) (C := "CircuitProverModel") (T := TM) (N := 20) hx hb htb inM hown hK hP 0 rfl rfl 10 (by decide) (htb _ b681) (fun _ h9 => h9) rfl dM_count_32 ?_
    refine lv_if_eq (tgt := 42) hx hb dM_count_35 rfl (fun _ => ?_) (fun h35 => (by revert h35; first | decide | exact fun z => absurd z (by decide) | exact fun z => z.elim (by decide)))
    refine lv_iconst (v := nI 0) hx hb dM_count_42 (by decide) ?_
    -- end 0
    rw [← hQ]
    exact k_iret hx hb hr hlocks rfl (u := 1) (⟨rfl, rfl⟩) hP hD hK hS dM_count_43
  rw [hH, hlc] at hgo
  exact hgo
set_option maxRecDepth 100000 in
set_option maxHeartbeats 4000000 in
theorem k_M_size_n (l : Launch) (G : GG) (sz : Nat) (qm : Nat) (xt : Nat) (xh : Nat) (xi : Nat) (xl : Nat) (xo : Nat) (xg : Nat) (xd : Nat) (xs : Nat) (xn : Nat) (xb : Nat) (xv : Nat) (th : Nat) (ul : Nat) (pt : Nat) (stt : Nat) (sts : Nat) (drw : Nat) (bd : Nat) (rd : Nat) (x : Int32) : Ki l yM_size cM_size 11 .int 0 0 G [.ref qm, .int x] [(qm, .inr (6, [.int (nI th), .int (nI ul), .ref xt, .int (nI pt), .ref xh, .ref xi, .ref xl, .ref xo, .ref xg, .ref xd, .int (zB false), .ref xs, .int (nI stt), .int (nI sts), .int (nI drw), .ref xn, .ref xb, .ref xv, .int (nI bd), .int (nI rd)]))] sz (fun (r : Int32) (u : Nat) => (nI 0 = r ∧ 1 = u)) (fun (u : Nat) => [(qm, .inr (6, [.int (nI u), .int (nI ul), .ref xt, .int (nI pt), .ref xh, .ref xi, .ref xl, .ref xo, .ref xg, .ref xd, .int (zB false), .ref xs, .int (nI stt), .int (nI sts), .int (nI drw), .ref xn, .ref xb, .ref xv, .int (nI bd), .int (nI rd)]))]) := by
  refine Met.ofW (cc := cM_size) (maxL := 11) (ret := (some .int)) (by decide) rfl ?_
  intro p e s m args below meth c s₁ B hml hv
  obtain ⟨hav, hsz, hP, hK, hD0, hE⟩ := hv
  have hx := B.exec
  have hb := B.bytes
  have hr := B.returns
  have htb : ∀ w ∈ TB, w.before args s = true := fun w h => atoms_spec (ws := Cond.code yM_size cM_size 11 (some .int) :: TB) B.pre w (List.mem_cons_of_mem _ h)
  have hown : s.vm.findClass "CircuitProverModel" = some m.cls := findClass_of_methodNamed B.named
  have hlocks := B.notSynchronized
  subst hsz
  have hD := hD0.self (sz := s.heap.size)
  clear hD0
  generalize hRm : (headSpec (Cond.code yM_size cM_size 11 (some .int) :: TB) { frames := 0, cells := 0, slots := 0, locals := 0 }).room = R
  have hRf : R.frames = 0 := by rw [← hRm]; rfl
  have hRl : R.locals = 0 := by rw [← hRm]; rfl
  have hRc : R.cells = 0 := by rw [← hRm]; rfl
  have hRs : R.slots = 0 := by rw [← hRm]; rfl
  clear hRm
  generalize hAe : va_A [(qm, .inr (6, [.int (nI th), .int (nI ul), .ref xt, .int (nI pt), .ref xh, .ref xi, .ref xl, .ref xo, .ref xg, .ref xd, .int (zB false), .ref xs, .int (nI stt), .int (nI sts), .int (nI drw), .ref xn, .ref xb, .ref xv, .int (nI bd), .int (nI rd)]))] s.heap.size = A at hD hE ⊢
  have hA : ∀ q : Nat, s.heap.size ≤ q → A q := fun q h => by rw [← hAe]; exact Or.inr h
  clear hAe
  have hS : va_S A s.heap s.heap [] := va_S.rf
  have hl := lv_entry ([.ref qm, .int x]) (n := 11) (Nat.le_of_ble_eq_true rfl)
  have hent := lg_entry_eq m ([.ref qm, .int x]) 11
  rw [← hav] at hent
  rw [hent]
  clear hent hav
  generalize (lg_sl ([.ref qm, .int x]) ++ List.replicate (11 - (lg_sl ([.ref qm, .int x])).length) Slot.unset).toArray = ls at hl ⊢
  have hl : lv_has ls 11 [(0, .ref qm), (1, .int x)] := hl
  generalize hQ : MQ below _ args s 0 0 _ = Q
  have hP : va_P (gD G) vC [(qm, .inr (6, [.int (nI th), .int (nI ul), .ref xt, .int (nI pt), .ref xh, .ref xi, .ref xl, .ref xo, .ref xg, .ref xd, .int (zB false), .ref xs, .int (nI stt), .int (nI sts), .int (nI drw), .ref xn, .ref xb, .ref xv, .int (nI bd), .int (nI rd)]))] s.heap := hP
  obtain ⟨H, hH⟩ : ∃ H : Heap, H = s.heap := ⟨_, rfl⟩
  obtain ⟨locs, hlc⟩ : ∃ L : List Loc, L = [] := ⟨_, rfl⟩
  have hS : va_S A s.heap H locs := by rw [hH, hlc]; exact hS
  have hP : va_P (gD G) vC [(qm, .inr (6, [.int (nI th), .int (nI ul), .ref xt, .int (nI pt), .ref xh, .ref xi, .ref xl, .ref xo, .ref xg, .ref xd, .int (zB false), .ref xs, .int (nI stt), .int (nI sts), .int (nI drw), .ref xn, .ref xb, .ref xv, .int (nI bd), .int (nI rd)]))] H := by rw [hH]; exact hP
  have hgo : W p l e R s m args below meth c H locs 0 0 Q (F0 m 0 ls []) := by
    clear hH hlc
    refine lv_aload_n hx hb dM_size_0 rfl (lv_at hl 0 rfl) ?_
    refine lv_aload_n hx hb dM_size_1 rfl (lv_at hl 0 rfl) ?_
    refine va_get (D := gD G) (ci := 6) (v := .int (zB false)) (C := "CircuitProverModel") (T := TM) (N := 20) hx hb htb inM hown hK hP 0 rfl rfl 10 (by decide) (htb _ b681) (fun _ h9 => h9) rfl dM_size_2 ?_
    refine lv_if_eq (tgt := 12) hx hb dM_size_5 rfl (fun _ => ?_) (fun h5 => (by revert h5; first | decide | exact fun z => absurd z (by decide) | exact fun z => z.elim (by decide)))
    refine lv_iconst (v := nI 1) hx hb dM_size_12 (by decide) ?_
    refine va_put (D := gD G) (ci := 6) (v := .int (nI 1)) (ty := tyM 0) (C := "CircuitProverModel") (T := TM) (N := 20) hx hb htb inM tyM tyM_ok nmM hown hK hP hD hS 0 rfl rfl 0 (by decide) (htb _ b671) (fun _ h9 => h9) rfl (tyM_ok 0 (by decide)) rfl rfl (Nat.le_of_ble_eq_true rfl) dM_size_13 (fun H locs hP hD hS => ?_)
    have hP : va_P (gD G) vC [(qm, .inr (6, [.int (nI 1), .int (nI ul), .ref xt, .int (nI pt), .ref xh, .ref xi, .ref xl, .ref xo, .ref xg, .ref xd, .int (zB false), .ref xs, .int (nI stt), .int (nI sts), .int (nI drw), .ref xn, .ref xb, .ref xv, .int (nI bd), .int (nI rd)]))] H := hP
    have hD : va_D A [(qm, .inr (6, [.int (nI 1), .int (nI ul), .ref xt, .int (nI pt), .ref xh, .ref xi, .ref xl, .ref xo, .ref xg, .ref xd, .int (zB false), .ref xs, .int (nI stt), .int (nI sts), .int (nI drw), .ref xn, .ref xb, .ref xv, .int (nI bd), .int (nI rd)]))] := hD
    refine lv_aload_n hx hb dM_size_16 rfl (lv_at hl 0 rfl) ?_
    refine va_get (D := gD G) (ci := 6) (v := .int (zB false)) (C := "CircuitProverModel") (T := TM) (N := 20) hx hb htb inM hown hK hP 0 rfl rfl 10 (by decide) (htb _ b681) (fun _ h9 => h9) rfl dM_size_17 ?_
    refine lv_if_eq (tgt := 31) hx hb dM_size_20 rfl (fun _ => ?_) (fun h20 => (by revert h20; first | decide | exact fun z => absurd z (by decide) | exact fun z => z.elim (by decide)))
    refine lv_aload_n hx hb dM_size_31 rfl (lv_at hl 0 rfl) ?_
    refine va_get (D := gD G) (ci := 6) (v := .int (zB false)) (C := "CircuitProverModel") (T := TM) (N := 20) hx hb htb inM hown hK hP 0 rfl rfl 10 (by decide) (htb _ b681) (fun _ h9 => h9) rfl dM_size_32 ?_
    refine lv_if_eq (tgt := 42) hx hb dM_size_35 rfl (fun _ => ?_) (fun h35 => (by revert h35; first | decide | exact fun z => absurd z (by decide) | exact fun z => z.elim (by decide)))
    refine lv_iconst (v := nI 0) hx hb dM_size_42 (by decide) ?_
    -- end 0
    rw [← hQ]
    exact k_iret hx hb hr hlocks rfl (u := 1) (⟨rfl, rfl⟩) hP hD hK hS dM_size_43
  rw [hH, hlc] at hgo
  exact hgo
