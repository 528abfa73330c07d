theorem k_newI {p : Program} {l : Launch} {e : Env} {R : Room} {s : State} {m : MethodId} {args : Array Value} {below : List Frame} {meth : Method} {c : Code} {H : Heap} {locs : List Loc} {cells slots : Nat} {Q : State → Prop} {cc : ByteArray} {pc : Nat} {ls : Array Slot} {rest : List Value} {A0 : Nat → Prop} {G : GG} {ws : va_W} {n : Nat} (hx : p.tables.exec = Jvm.exec) (hb : c.code = cc) (harr : (Cond.arrayClass .int).before args s = true) (hK : va_K (gD G) vC (tyG G) s) (hP : va_P (gD G) vC ws H) (hD : va_D A0 ws) (hS : va_S A0 s.heap H locs) (hA : ∀ q, s.heap.size ≤ q → A0 q)
    (hn : n ≤ 1000) (hcells : cells + 1 ≤ R.cells) (hslots : slots + n ≤ R.slots) (hdg : decode cc pc = .ok (.newarray .int, 2))
    (kk : ∀ (q : Nat) (H1 : Heap), va_P (gD G) vC (ws ++ [(q, aI G n (fun _ => 0))]) H1 → va_D A0 (ws ++ [(q, aI G n (fun _ => 0))]) → va_S A0 s.heap H1 locs → W p l e R s m args below meth c H1 locs (cells + 1) (slots + n) Q (F0 m (pc + 2) ls (.ref q :: rest))) : W p l e R s m args below meth c H locs cells slots Q (F0 m pc ls (.int (nI n) :: rest)) := by
  refine va_newa (a0 := (n, .inl (fun _ => nI 0))) hx hb (atype := .int) harr rfl hK hP hD hS hA (fun cA => rfl) (nI_pos (by omega)) (nI_clamp (by omega)) (Nat.le_trans (Nat.mul_le_mul_right _ hn) (by decide)) hcells hslots hdg (fun q cA H1 hK1 hP1 hD1 hS1 => ?_)
  have h1 := (hK1.2 4 _ rfl).2
  have h2 := (hK.2 0 _ rfl).2
  have e : cA = gI G := Option.some.inj ((show s.vm.findClass _ = some cA from h1).symm.trans h2)
  subst e
  exact kk q H1 hP1 hD1 hS1
theorem k_newZ {p : Program} {l : Launch} {e : Env} {R : Room} {s : State} {m : MethodId} {args : Array Value} {below : List Frame} {meth : Method} {c : Code} {H : Heap} {locs : List Loc} {cells slots : Nat} {Q : State → Prop} {cc : ByteArray} {pc : Nat} {ls : Array Slot} {rest : List Value} {A0 : Nat → Prop} {G : GG} {ws : va_W} {n : Nat} (hx : p.tables.exec = Jvm.exec) (hb : c.code = cc) (harr : (Cond.arrayClass .boolean).before args s = true) (hK : va_K (gD G) vC (tyG G) s) (hP : va_P (gD G) vC ws H) (hD : va_D A0 ws) (hS : va_S A0 s.heap H locs) (hA : ∀ q, s.heap.size ≤ q → A0 q)
    (hn : n ≤ 1000) (hcells : cells + 1 ≤ R.cells) (hslots : slots + n ≤ R.slots) (hdg : decode cc pc = .ok (.newarray .boolean, 2))
    (kk : ∀ (q : Nat) (H1 : Heap), va_P (gD G) vC (ws ++ [(q, aZ G n (fun _ => false))]) H1 → va_D A0 (ws ++ [(q, aZ G n (fun _ => false))]) → va_S A0 s.heap H1 locs → W p l e R s m args below meth c H1 locs (cells + 1) (slots + n) Q (F0 m (pc + 2) ls (.ref q :: rest))) : W p l e R s m args below meth c H locs cells slots Q (F0 m pc ls (.int (nI n) :: rest)) := by
  refine va_newa (a0 := (n, .inl (fun _ => zB false))) hx hb (atype := .boolean) harr rfl hK hP hD hS hA (fun cA => rfl) (nI_pos (by omega)) (nI_clamp (by omega)) (Nat.le_trans (Nat.mul_le_mul_right _ hn) (by decide)) hcells hslots hdg (fun q cA H1 hK1 hP1 hD1 hS1 => ?_)
  have h1 := (hK1.2 4 _ rfl).2
  have h2 := (hK.2 1 _ rfl).2
  have e : cA = gZ G := Option.some.inj ((show s.vm.findClass _ = some cA from h1).symm.trans h2)
  subst e
  exact kk q H1 hP1 hD1 hS1
theorem k_newB {p : Program} {l : Launch} {e : Env} {R : Room} {s : State} {m : MethodId} {args : Array Value} {below : List Frame} {meth : Method} {c : Code} {H : Heap} {locs : List Loc} {cells slots : Nat} {Q : State → Prop} {cc : ByteArray} {pc : Nat} {ls : Array Slot} {rest : List Value} {A0 : Nat → Prop} {G : GG} {ws : va_W} {n : Nat} (hx : p.tables.exec = Jvm.exec) (hb : c.code = cc) (harr : (Cond.arrayClass .byte).before args s = true) (hK : va_K (gD G) vC (tyG G) s) (hP : va_P (gD G) vC ws H) (hD : va_D A0 ws) (hS : va_S A0 s.heap H locs) (hA : ∀ q, s.heap.size ≤ q → A0 q)
    (hn : n ≤ 1000) (hcells : cells + 1 ≤ R.cells) (hslots : slots + n ≤ R.slots) (hdg : decode cc pc = .ok (.newarray .byte, 2))
    (kk : ∀ (q : Nat) (H1 : Heap), va_P (gD G) vC (ws ++ [(q, aB G n (fun _ => 0))]) H1 → va_D A0 (ws ++ [(q, aB G n (fun _ => 0))]) → va_S A0 s.heap H1 locs → W p l e R s m args below meth c H1 locs (cells + 1) (slots + n) Q (F0 m (pc + 2) ls (.ref q :: rest))) : W p l e R s m args below meth c H locs cells slots Q (F0 m pc ls (.int (nI n) :: rest)) := by
  refine va_newa (a0 := (n, .inl (fun _ => nI 0))) hx hb (atype := .byte) harr rfl hK hP hD hS hA (fun cA => rfl) (nI_pos (by omega)) (nI_clamp (by omega)) (Nat.le_trans (Nat.mul_le_mul_right _ hn) (by decide)) hcells hslots hdg (fun q cA H1 hK1 hP1 hD1 hS1 => ?_)
  have h1 := (hK1.2 4 _ rfl).2
  have h2 := (hK.2 2 _ rfl).2
  have e : cA = gB G := Option.some.inj ((show s.vm.findClass _ = some cA from h1).symm.trans h2)
  subst e
  exact kk q H1 hP1 hD1 hS1
theorem k_newJ {p : Program} {l : Launch} {e : Env} {R : Room} {s : State} {m : MethodId} {args : Array Value} {below : List Frame} {meth : Method} {c : Code} {H : Heap} {locs : List Loc} {cells slots : Nat} {Q : State → Prop} {cc : ByteArray} {pc : Nat} {ls : Array Slot} {rest : List Value} {A0 : Nat → Prop} {G : GG} {ws : va_W} {n : Nat} (hx : p.tables.exec = Jvm.exec) (hb : c.code = cc) (harr : (Cond.arrayClass .long).before args s = true) (hK : va_K (gD G) vC (tyG G) s) (hP : va_P (gD G) vC ws H) (hD : va_D A0 ws) (hS : va_S A0 s.heap H locs) (hA : ∀ q, s.heap.size ≤ q → A0 q)
    (hn : n ≤ 1000) (hcells : cells + 1 ≤ R.cells) (hslots : slots + n ≤ R.slots) (hdg : decode cc pc = .ok (.newarray .long, 2))
    (kk : ∀ (q : Nat) (H1 : Heap), va_P (gD G) vC (ws ++ [(q, aJ G n (fun _ => 0))]) H1 → va_D A0 (ws ++ [(q, aJ G n (fun _ => 0))]) → va_S A0 s.heap H1 locs → W p l e R s m args below meth c H1 locs (cells + 1) (slots + n) Q (F0 m (pc + 2) ls (.ref q :: rest))) : W p l e R s m args below meth c H locs cells slots Q (F0 m pc ls (.int (nI n) :: rest)) := by
  refine va_newa (a0 := (n, .inr (.inl (fun _ => 0)))) hx hb (atype := .long) harr rfl hK hP hD hS hA (fun cA => rfl) (nI_pos (by omega)) (nI_clamp (by omega)) (Nat.le_trans (Nat.mul_le_mul_right _ hn) (by decide)) hcells hslots hdg (fun q cA H1 hK1 hP1 hD1 hS1 => ?_)
  have h1 := (hK1.2 4 _ rfl).2
  have h2 := (hK.2 3 _ rfl).2
  have e : cA = gJ G := Option.some.inj ((show s.vm.findClass _ = some cA from h1).symm.trans h2)
  subst e
  exact kk q H1 hP1 hD1 hS1
set_option maxRecDepth 100000 in
set_option maxHeartbeats 4000000 in
theorem k_T_init (l : Launch) (G : GG) (sz : Nat) (qo : Nat) : Kv l yT_init cT_init 1 1 12 2 405 G [.ref qo] [(qo, .inr (4, [.null, .null, .int (nI 0), .int (nI 0)]))] sz (fun (_ : Nat × Nat) => True) (fun (u : Nat × Nat) => [(qo, .inr (4, [.ref u.1, .ref u.2, .int (nI 0), .int (nI 0)])), (u.1, aB G 400 (fun _ => 0)), (u.2, aI G 5 (fun _ => 0))]) := by
  refine Met.ofW (cc := cT_init) (maxL := 1) (ret := none) (by decide) rfl ?_
  intro p e s m args below meth c s₁ B hml hv
  obtain ⟨hav, hsz, hP, hK, hD0, hE⟩ := hv
  have hx := B.exec
  have hb := B.bytes
  have hr := B.returns
  have htb : ∀ w ∈ TB, w.before args s = true := fun w h => atoms_spec (ws := Cond.code yT_init cT_init 1 none :: TB) B.pre w (List.mem_cons_of_mem _ h)
  have hown : s.vm.findClass "CircuitProver$Text" = some m.cls := findClass_of_methodNamed B.named
  have hlocks := B.notSynchronized
  have hin : meth.name = "<init>" := (name_of_methodNamed B.named B.method).1
  subst hsz
  have hD := hD0.self (sz := s.heap.size)
  clear hD0
  generalize hRm : (headSpec (Cond.code yT_init cT_init 1 none :: TB) { frames := 1, cells := 2, slots := 405, locals := 12 }).room = R
  have hRf : R.frames = 1 := by rw [← hRm]; rfl
  have hRl : R.locals = 12 := by rw [← hRm]; rfl
  have hRc : R.cells = 2 := by rw [← hRm]; rfl
  have hRs : R.slots = 405 := by rw [← hRm]; rfl
  clear hRm
  generalize hAe : va_A [(qo, .inr (4, [.null, .null, .int (nI 0), .int (nI 0)]))] s.heap.size = A at hD hE ⊢
  have hA : ∀ q : Nat, s.heap.size ≤ q → A q := fun q h => by rw [← hAe]; exact Or.inr h
  clear hAe
  have hS : va_S A s.heap s.heap [] := va_S.rf
  have hl := lv_entry ([.ref qo]) (n := 1) (Nat.le_of_ble_eq_true rfl)
  have hent := lg_entry_eq m ([.ref qo]) 1
  rw [← hav] at hent
  rw [hent]
  clear hent hav
  generalize (lg_sl ([.ref qo]) ++ List.replicate (1 - (lg_sl ([.ref qo])).length) Slot.unset).toArray = ls at hl ⊢
  have hl : lv_has ls 1 [(0, .ref qo)] := hl
  generalize hQ : MQ below _ args s 2 405 _ = Q
  have hP : va_P (gD G) vC [(qo, .inr (4, [.null, .null, .int (nI 0), .int (nI 0)]))] s.heap := hP
  obtain ⟨H, hH⟩ : ∃ H : Heap, H = s.heap := ⟨_, rfl⟩
  obtain ⟨locs, hlc⟩ : ∃ L : List Loc, L = [] := ⟨_, rfl⟩
  have hS : va_S A s.heap H locs := by rw [hH, hlc]; exact hS
  have hP : va_P (gD G) vC [(qo, .inr (4, [.null, .null, .int (nI 0), .int (nI 0)]))] H := by rw [hH]; exact hP
  have hgo : W p l e R s m args below meth c H locs 0 0 Q (F0 m 0 ls []) := by
    clear hH hlc
    refine lv_aload_n hx hb dT_init_0 rfl (lv_at hl 0 rfl) ?_
    refine W.objInit hx hb hown (htb _ b31) (htb _ b24) (htb _ b25) rfl (by rw [hml]; exact hl.1) rfl dT_init_1 (by rw [hRf]; exact Nat.le_of_ble_eq_true rfl) (by rw [hRl]; exact Nat.le_of_ble_eq_true rfl) ?_
    refine W.eq (g2 := F0 m 4 ls []) rfl ?_
    refine lv_aload_n hx hb dT_init_4 rfl (lv_at hl 0 rfl) ?_
    refine lv_sipush (v := nI 400) hx hb dT_init_5 (by decide) ?_
    refine k_newB (n := 400) hx hb (htb _ b47) hK hP hD hS hA (by decide) (by rw [hRc]; exact Nat.le_of_ble_eq_true rfl) (by rw [hRs]; exact Nat.le_of_ble_eq_true rfl) dT_init_8 (fun q8 H hP hD hS => ?_)
    have hP : va_P (gD G) vC [(qo, .inr (4, [.null, .null, .int (nI 0), .int (nI 0)])), (q8, aB G 400 (fun _ => 0))] H := hP
    have hD : va_D A [(qo, .inr (4, [.null, .null, .int (nI 0), .int (nI 0)])), (q8, aB G 400 (fun _ => 0))] := hD
    refine va_putF (D := gD G) (ci := 4) (v := .ref q8) (ty := tyT 0) (C := "CircuitProver$Text") (T := TT) (N := 4) hx hb htb inT tyT tyT_ok nmT hown hK hP hD hS 0 rfl rfl 0 (by decide) (htb _ b32) (fun _ h9 => h9) rfl hin rfl (tyT_ok 0 (by decide)) rfl rfl (Nat.le_of_ble_eq_true rfl) dT_init_10 (fun H locs hP hD hS => ?_)
    have hP : va_P (gD G) vC [(qo, .inr (4, [.ref q8, .null, .int (nI 0), .int (nI 0)])), (q8, aB G 400 (fun _ => 0))] H := hP
    have hD : va_D A [(qo, .inr (4, [.ref q8, .null, .int (nI 0), .int (nI 0)])), (q8, aB G 400 (fun _ => 0))] := hD
    refine lv_aload_n hx hb dT_init_13 rfl (lv_at hl 0 rfl) ?_
    refine lv_iconst (v := nI 5) hx hb dT_init_14 (by decide) ?_
    refine k_newI (n := 5) hx hb (htb _ b48) hK hP hD hS hA (by decide) (by rw [hRc]; exact Nat.le_of_ble_eq_true rfl) (by rw [hRs]; exact Nat.le_of_ble_eq_true rfl) dT_init_15 (fun q15 H hP hD hS => ?_)
    have hP : va_P (gD G) vC [(qo, .inr (4, [.ref q8, .null, .int (nI 0), .int (nI 0)])), (q8, aB G 400 (fun _ => 0)), (q15, aI G 5 (fun _ => 0))] H := hP
    have hD : va_D A [(qo, .inr (4, [.ref q8, .null, .int (nI 0), .int (nI 0)])), (q8, aB G 400 (fun _ => 0)), (q15, aI G 5 (fun _ => 0))] := hD
    refine va_putF (D := gD G) (ci := 4) (v := .ref q15) (ty := tyT 1) (C := "CircuitProver$Text") (T := TT) (N := 4) hx hb htb inT tyT tyT_ok nmT hown hK hP hD hS 0 rfl rfl 1 (by decide) (htb _ b33) (fun _ h9 => h9) rfl hin rfl (tyT_ok 1 (by decide)) rfl rfl (Nat.le_of_ble_eq_true rfl) dT_init_17 (fun H locs hP hD hS => ?_)
    have hP : va_P (gD G) vC [(qo, .inr (4, [.ref q8, .ref q15, .int (nI 0), .int (nI 0)])), (q8, aB G 400 (fun _ => 0)), (q15, aI G 5 (fun _ => 0))] H := hP
    have hD : va_D A [(qo, .inr (4, [.ref q8, .ref q15, .int (nI 0), .int (nI 0)])), (q8, aB G 400 (fun _ => 0)), (q15, aI G 5 (fun _ => 0))] := hD
    refine lv_aload_n hx hb dT_init_20 rfl (lv_at hl 0 rfl) ?_
    refine lv_iconst (v := nI 0) hx hb dT_init_21 (by decide) ?_
    refine va_put (D := gD G) (ci := 4) (v := .int (nI 0)) (ty := tyT 2) (C := "CircuitProver$Text") (T := TT) (N := 4) hx hb htb inT tyT tyT_ok nmT hown hK hP hD hS 0 rfl rfl 2 (by decide) (htb _ b35) (fun _ h9 => h9) rfl (tyT_ok 2 (by decide)) rfl rfl (Nat.le_of_ble_eq_true rfl) dT_init_22 (fun H locs hP hD hS => ?_)
    have hP : va_P (gD G) vC [(qo, .inr (4, [.ref q8, .ref q15, .int (nI 0), .int (nI 0)])), (q8, aB G 400 (fun _ => 0)), (q15, aI G 5 (fun _ => 0))] H := hP
    have hD : va_D A [(qo, .inr (4, [.ref q8, .ref q15, .int (nI 0), .int (nI 0)])), (q8, aB G 400 (fun _ => 0)), (q15, aI G 5 (fun _ => 0))] := hD
    refine lv_aload_n hx hb dT_init_25 rfl (lv_at hl 0 rfl) ?_
    refine lv_iconst (v := nI 0) hx hb dT_init_26 (by decide) ?_
    refine va_put (D := gD G) (ci := 4) (v := .int (nI 0)) (ty := tyT 3) (C := "CircuitProver$Text") (T := TT) (N := 4) hx hb htb inT tyT tyT_ok nmT hown hK hP hD hS 0 rfl rfl 3 (by decide) (htb _ b37) (fun _ h9 => h9) rfl (tyT_ok 3 (by decide)) rfl rfl (Nat.le_of_ble_eq_true rfl) dT_init_27 (fun H locs hP hD hS => ?_)
    have hP : va_P (gD G) vC [(qo, .inr (4, [.ref q8, .ref q15, .int (nI 0), .int (nI 0)])), (q8, aB G 400 (fun _ => 0)), (q15, aI G 5 (fun _ => 0))] H := hP
    have hD : va_D A [(qo, .inr (4, [.ref q8, .ref q15, .int (nI 0), .int (nI 0)])), (q8, aB G 400 (fun _ => 0)), (q15, aI G 5 (fun _ => 0))] := hD
    -- end 0
    rw [← hQ]
    exact k_vret hx hb hr hlocks (u := (q8, q15)) (trivial) hP hD hK hS dT_init_30
  rw [hH, hlc] at hgo
  exact hgo
set_option maxRecDepth 100000 in
set_option maxHeartbeats 4000000 in
theorem k_N_init (l : Launch) (G : GG) (sz : Nat) (qo : Nat) : Kv l yN_init cN_init 1 1 12 10 320 G [.ref qo] [(qo, .inr (3, [.null, .null, .null, .null, .null, .null, .null, .null, .null, .int (nI 0), .int (nI 0), .null]))] sz (fun (_ : Nat × Nat × Nat × Nat × Nat × Nat × Nat × Nat × Nat × Nat) => True) (fun (u : Nat × Nat × Nat × Nat × Nat × Nat × Nat × Nat × Nat × Nat) => [(qo, .inr (3, [.ref u.1, .ref u.2.1, .ref u.2.2.1, .ref u.2.2.2.1, .ref u.2.2.2.2.1, .ref u.2.2.2.2.2.1, .ref u.2.2.2.2.2.2.1, .ref u.2.2.2.2.2.2.2.1, .ref u.2.2.2.2.2.2.2.2.1, .int (nI 0), .int (nI 0), .ref u.2.2.2.2.2.2.2.2.2])), (u.1, aI G 5 (fun _ => 0)), (u.2.1, aZ G 50 (fun _ => false)), (u.2.2.1, aZ G 50 (fun _ => false)), (u.2.2.2.1, aZ G 50 (fun _ => false)), (u.2.2.2.2.1, aI G 50 (fun _ => 0)), (u.2.2.2.2.2.1, aI G 50 (fun _ => 0)), (u.2.2.2.2.2.2.1, aI G 3 (fun _ => 0)), (u.2.2.2.2.2.2.2.1, aI G 6 (fun _ => 0)), (u.2.2.2.2.2.2.2.2.1, aI G 6 (fun _ => 0)), (u.2.2.2.2.2.2.2.2.2, aJ G 50 (fun _ => 0))]) := by
  refine Met.ofW (cc := cN_init) (maxL := 1) (ret := none) (by decide) rfl ?_
  intro p e s m args below meth c s₁ B hml hv
  obtain ⟨hav, hsz, hP, hK, hD0, hE⟩ := hv
  have hx := B.exec
  have hb := B.bytes
  have hr := B.returns
  have htb : ∀ w ∈ TB, w.before args s = true := fun w h => atoms_spec (ws := Cond.code yN_init cN_init 1 none :: TB) B.pre w (List.mem_cons_of_mem _ h)
  have hown : s.vm.findClass "CircuitProver$Netlist" = some m.cls := findClass_of_methodNamed B.named
  have hlocks := B.notSynchronized
  have hin : meth.name = "<init>" := (name_of_methodNamed B.named B.method).1
  subst hsz
  have hD := hD0.self (sz := s.heap.size)
  clear hD0
  generalize hRm : (headSpec (Cond.code yN_init cN_init 1 none :: TB) { frames := 1, cells := 10, slots := 320, locals := 12 }).room = R
  have hRf : R.frames = 1 := by rw [← hRm]; rfl
  have hRl : R.locals = 12 := by rw [← hRm]; rfl
  have hRc : R.cells = 10 := by rw [← hRm]; rfl
  have hRs : R.slots = 320 := by rw [← hRm]; rfl
  clear hRm
  generalize hAe : va_A [(qo, .inr (3, [.null, .null, .null, .null, .null, .null, .null, .null, .null, .int (nI 0), .int (nI 0), .null]))] s.heap.size = A at hD hE ⊢
  have hA : ∀ q : Nat, s.heap.size ≤ q → A q := fun q h => by rw [← hAe]; exact Or.inr h
  clear hAe
  have hS : va_S A s.heap s.heap [] := va_S.rf
  have hl := lv_entry ([.ref qo]) (n := 1) (Nat.le_of_ble_eq_true rfl)
  have hent := lg_entry_eq m ([.ref qo]) 1
  rw [← hav] at hent
  rw [hent]
  clear hent hav
  generalize (lg_sl ([.ref qo]) ++ List.replicate (1 - (lg_sl ([.ref qo])).length) Slot.unset).toArray = ls at hl ⊢
  have hl : lv_has ls 1 [(0, .ref qo)] := hl
  generalize hQ : MQ below _ args s 10 320 _ = Q
  have hP : va_P (gD G) vC [(qo, .inr (3, [.null, .null, .null, .null, .null, .null, .null, .null, .null, .int (nI 0), .int (nI 0), .null]))] s.heap := hP
  obtain ⟨H, hH⟩ : ∃ H : Heap, H = s.heap := ⟨_, rfl⟩
  obtain ⟨locs, hlc⟩ : ∃ L : List Loc, L = [] := ⟨_, rfl⟩
  have hS : va_S A s.heap H locs := by rw [hH, hlc]; exact hS
  have hP : va_P (gD G) vC [(qo, .inr (3, [.null, .null, .null, .null, .null, .null, .null, .null, .null, .int (nI 0), .int (nI 0), .null]))] H := by rw [hH]; exact hP
  have hgo : W p l e R s m args below meth c H locs 0 0 Q (F0 m 0 ls []) := by
    clear hH hlc
    refine lv_aload_n hx hb dN_init_0 rfl (lv_at hl 0 rfl) ?_
    refine W.objInit hx hb hown (htb _ b54) (htb _ b24) (htb _ b25) rfl (by rw [hml]; exact hl.1) rfl dN_init_1 (by rw [hRf]; exact Nat.le_of_ble_eq_true rfl) (by rw [hRl]; exact Nat.le_of_ble_eq_true rfl) ?_
    refine W.eq (g2 := F0 m 4 ls []) rfl ?_
    refine lv_aload_n hx hb dN_init_4 rfl (lv_at hl 0 rfl) ?_
    refine lv_iconst (v := nI 5) hx hb dN_init_5 (by decide) ?_
    refine k_newI (n := 5) hx hb (htb _ b48) hK hP hD hS hA (by decide) (by rw [hRc]; exact Nat.le_of_ble_eq_true rfl) (by rw [hRs]; exact Nat.le_of_ble_eq_true rfl) dN_init_6 (fun q6 H hP hD hS => ?_)
    have hP : va_P (gD G) vC [(qo, .inr (3, [.null, .null, .null, .null, .null, .null, .null, .null, .null, .int (nI 0), .int (nI 0), .null])), (q6, aI G 5 (fun _ => 0))] H := hP
    have hD : va_D A [(qo, .inr (3, [.null, .null, .null, .null, .null, .null, .null, .null, .null, .int (nI 0), .int (nI 0), .null])), (q6, aI G 5 (fun _ => 0))] := hD
    refine va_putF (D := gD G) (ci := 3) (v := .ref q6) (ty := tyN 0) (C := "CircuitProver$Netlist") (T := TN) (N := 12) hx hb htb inN tyN tyN_ok nmN hown hK hP hD hS 0 rfl rfl 0 (by decide) (htb _ b55) (fun _ h9 => h9) rfl hin rfl (tyN_ok 0 (by decide)) rfl rfl (Nat.le_of_ble_eq_true rfl) dN_init_8 (fun H locs hP hD hS => ?_)
    have hP : va_P (gD G) vC [(qo, .inr (3, [.ref q6, .null, .null, .null, .null, .null, .null, .null, .null, .int (nI 0), .int (nI 0), .null])), (q6, aI G 5 (fun _ => 0))] H := hP
    have hD : va_D A [(qo, .inr (3, [.ref q6, .null, .null, .null, .null, .null, .null, .null, .null, .int (nI 0), .int (nI 0), .null])), (q6, aI G 5 (fun _ => 0))] := hD
    refine lv_aload_n hx hb dN_init_11 rfl (lv_at hl 0 rfl) ?_
    refine lv_bipush (v := nI 50) hx hb dN_init_12 (by decide) ?_
    refine k_newZ (n := 50) hx hb (htb _ b96) hK hP hD hS hA (by decide) (by rw [hRc]; exact Nat.le_of_ble_eq_true rfl) (by rw [hRs]; exact Nat.le_of_ble_eq_true rfl) dN_init_14 (fun q14 H hP hD hS => ?_)
    have hP : va_P (gD G) vC [(qo, .inr (3, [.ref q6, .null, .null, .null, .null, .null, .null, .null, .null, .int (nI 0), .int (nI 0), .null])), (q6, aI G 5 (fun _ => 0)), (q14, aZ G 50 (fun _ => false))] H := hP
    have hD : va_D A [(qo, .inr (3, [.ref q6, .null, .null, .null, .null, .null, .null, .null, .null, .int (nI 0), .int (nI 0), .null])), (q6, aI G 5 (fun _ => 0)), (q14, aZ G 50 (fun _ => false))] := hD
    refine va_putF (D := gD G) (ci := 3) (v := .ref q14) (ty := tyN 1) (C := "CircuitProver$Netlist") (T := TN) (N := 12) hx hb htb inN tyN tyN_ok nmN hown hK hP hD hS 0 rfl rfl 1 (by decide) (htb _ b57) (fun _ h9 => h9) rfl hin rfl (tyN_ok 1 (by decide)) rfl rfl (Nat.le_of_ble_eq_true rfl) dN_init_16 (fun H locs hP hD hS => ?_)
    have hP : va_P (gD G) vC [(qo, .inr (3, [.ref q6, .ref q14, .null, .null, .null, .null, .null, .null, .null, .int (nI 0), .int (nI 0), .null])), (q6, aI G 5 (fun _ => 0)), (q14, aZ G 50 (fun _ => false))] H := hP
    have hD : va_D A [(qo, .inr (3, [.ref q6, .ref q14, .null, .null, .null, .null, .null, .null, .null, .int (nI 0), .int (nI 0), .null])), (q6, aI G 5 (fun _ => 0)), (q14, aZ G 50 (fun _ => false))] := hD
    refine lv_aload_n hx hb dN_init_19 rfl (lv_at hl 0 rfl) ?_
    refine lv_bipush (v := nI 50) hx hb dN_init_20 (by decide) ?_
    refine k_newZ (n := 50) hx hb (htb _ b96) hK hP hD hS hA (by decide) (by rw [hRc]; exact Nat.le_of_ble_eq_true rfl) (by rw [hRs]; exact Nat.le_of_ble_eq_true rfl) dN_init_22 (fun q22 H hP hD hS => ?_)
    have hP : va_P (gD G) vC [(qo, .inr (3, [.ref q6, .ref q14, .null, .null, .null, .null, .null, .null, .null, .int (nI 0), .int (nI 0), .null])), (q6, aI G 5 (fun _ => 0)), (q14, aZ G 50 (fun _ => false)), (q22, aZ G 50 (fun _ => false))] H := hP
    have hD : va_D A [(qo, .inr (3, [.ref q6, .ref q14, .null, .null, .null, .null, .null, .null, .null, .int (nI 0), .int (nI 0), .null])), (q6, aI G 5 (fun _ => 0)), (q14, aZ G 50 (fun _ => false)), (q22, aZ G 50 (fun _ => false))] := hD
    refine va_putF (D := gD G) (ci := 3) (v := .ref q22) (ty := tyN 2) (C := "CircuitProver$Netlist") (T := TN) (N := 12) hx hb htb inN tyN tyN_ok nmN hown hK hP hD hS 0 rfl rfl 2 (by decide) (htb _ b58) (fun _ h9 => h9) rfl hin rfl (tyN_ok 2 (by decide)) rfl rfl (Nat.le_of_ble_eq_true rfl) dN_init_24 (fun H locs hP hD hS => ?_)
    have hP : va_P (gD G) vC [(qo, .inr (3, [.ref q6, .ref q14, .ref q22, .null, .null, .null, .null, .null, .null, .int (nI 0), .int (nI 0), .null])), (q6, aI G 5 (fun _ => 0)), (q14, aZ G 50 (fun _ => false)), (q22, aZ G 50 (fun _ => false))] H := hP
    have hD : va_D A [(qo, .inr (3, [.ref q6, .ref q14, .ref q22, .null, .null, .null, .null, .null, .null, .int (nI 0), .int (nI 0), .null])), (q6, aI G 5 (fun _ => 0)), (q14, aZ G 50 (fun _ => false)), (q22, aZ G 50 (fun _ => false))] := hD
    refine lv_aload_n hx hb dN_init_27 rfl (lv_at hl 0 rfl) ?_
    refine lv_bipush (v := nI 50) hx hb dN_init_28 (by decide) ?_
    refine k_newZ (n := 50) hx hb (htb _ b96) hK hP hD hS hA (by decide) (by rw [hRc]; exact Nat.le_of_ble_eq_true rfl) (by rw [hRs]; exact Nat.le_of_ble_eq_true rfl) dN_init_30 (fun q30 H hP hD hS => ?_)
    have hP : va_P (gD G) vC [(qo, .inr (3, [.ref q6, .ref q14, .ref q22, .null, .null, .null, .null, .null, .null, .int (nI 0), .int (nI 0), .null])), (q6, aI G 5 (fun _ => 0)), (q14, aZ G 50 (fun _ => false)), (q22, aZ G 50 (fun _ => false)), (q30, aZ G 50 (fun _ => false))] H := hP
    have hD : va_D A [(qo, .inr (3, [.ref q6, .ref q14, .ref q22, .null, .null, .null, .null, .null, .null, .int (nI 0), .int (nI 0), .null])), (q6, aI G 5 (fun _ => 0)), (q14, aZ G 50 (fun _ => false)), (q22, aZ G 50 (fun _ => false)), (q30, aZ G 50 (fun _ => false))] := hD
    refine va_putF (D := gD G) (ci := 3) (v := .ref q30) (ty := tyN 3) (C := "CircuitProver$Netlist") (T := TN) (N := 12) hx hb htb inN tyN tyN_ok nmN hown hK hP hD hS 0 rfl rfl 3 (by decide) (htb _ b59) (fun _ h9 => h9) rfl hin rfl (tyN_ok 3 (by decide)) rfl rfl (Nat.le_of_ble_eq_true rfl) dN_init_32 (fun H locs hP hD hS => ?_)
    have hP : va_P (gD G) vC [(qo, .inr (3, [.ref q6, .ref q14, .ref q22, .ref q30, .null, .null, .null, .null, .null, .int (nI 0), .int (nI 0), .null])), (q6, aI G 5 (fun _ => 0)), (q14, aZ G 50 (fun _ => false)), (q22, aZ G 50 (fun _ => false)), (q30, aZ G 50 (fun _ => false))] H := hP
    have hD : va_D A [(qo, .inr (3, [.ref q6, .ref q14, .ref q22, .ref q30, .null, .null, .null, .null, .null, .int (nI 0), .int (nI 0), .null])), (q6, aI G 5 (fun _ => 0)), (q14, aZ G 50 (fun _ => false)), (q22, aZ G 50 (fun _ => false)), (q30, aZ G 50 (fun _ => false))] := hD
    refine lv_aload_n hx hb dN_init_35 rfl (lv_at hl 0 rfl) ?_
    refine lv_bipush (v := nI 50) hx hb dN_init_36 (by decide) ?_
    refine k_newI (n := 50) hx hb (htb _ b48) hK hP hD hS hA (by decide) (by rw [hRc]; exact Nat.le_of_ble_eq_true rfl) (by rw [hRs]; exact Nat.le_of_ble_eq_true rfl) dN_init_38 (fun q38 H hP hD hS => ?_)
    have hP : va_P (gD G) vC [(qo, .inr (3, [.ref q6, .ref q14, .ref q22, .ref q30, .null, .null, .null, .null, .null, .int (nI 0), .int (nI 0), .null])), (q6, aI G 5 (fun _ => 0)), (q14, aZ G 50 (fun _ => false)), (q22, aZ G 50 (fun _ => false)), (q30, aZ G 50 (fun _ => false)), (q38, aI G 50 (fun _ => 0))] H := hP
    have hD : va_D A [(qo, .inr (3, [.ref q6, .ref q14, .ref q22, .ref q30, .null, .null, .null, .null, .null, .int (nI 0), .int (nI 0), .null])), (q6, aI G 5 (fun _ => 0)), (q14, aZ G 50 (fun _ => false)), (q22, aZ G 50 (fun _ => false)), (q30, aZ G 50 (fun _ => false)), (q38, aI G 50 (fun _ => 0))] := hD
    refine va_putF (D := gD G) (ci := 3) (v := .ref q38) (ty := tyN 4) (C := "CircuitProver$Netlist") (T := TN) (N := 12) hx hb htb inN tyN tyN_ok nmN hown hK hP hD hS 0 rfl rfl 4 (by decide) (htb _ b60) (fun _ h9 => h9) rfl hin rfl (tyN_ok 4 (by decide)) rfl rfl (Nat.le_of_ble_eq_true rfl) dN_init_40 (fun H locs hP hD hS => ?_)
    have hP : va_P (gD G) vC [(qo, .inr (3, [.ref q6, .ref q14, .ref q22, .ref q30, .ref q38, .null, .null, .null, .null, .int (nI 0), .int (nI 0), .null])), (q6, aI G 5 (fun _ => 0)), (q14, aZ G 50 (fun _ => false)), (q22, aZ G 50 (fun _ => false)), (q30, aZ G 50 (fun _ => false)), (q38, aI G 50 (fun _ => 0))] H := hP
    have hD : va_D A [(qo, .inr (3, [.ref q6, .ref q14, .ref q22, .ref q30, .ref q38, .null, .null, .null, .null, .int (nI 0), .int (nI 0), .null])), (q6, aI G 5 (fun _ => 0)), (q14, aZ G 50 (fun _ => false)), (q22, aZ G 50 (fun _ => false)), (q30, aZ G 50 (fun _ => false)), (q38, aI G 50 (fun _ => 0))] := hD
    refine lv_aload_n hx hb dN_init_43 rfl (lv_at hl 0 rfl) ?_
    refine lv_bipush (v := nI 50) hx hb dN_init_44 (by decide) ?_
    refine k_newI (n := 50) hx hb (htb _ b48) hK hP hD hS hA (by decide) (by rw [hRc]; exact Nat.le_of_ble_eq_true rfl) (by rw [hRs]; exact Nat.le_of_ble_eq_true rfl) dN_init_46 (fun q46 H hP hD hS => ?_)
    have hP : va_P (gD G) vC [(qo, .inr (3, [.ref q6, .ref q14, .ref q22, .ref q30, .ref q38, .null, .null, .null, .null, .int (nI 0), .int (nI 0), .null])), (q6, aI G 5 (fun _ => 0)), (q14, aZ G 50 (fun _ => false)), (q22, aZ G 50 (fun _ => false)), (q30, aZ G 50 (fun _ => false)), (q38, aI G 50 (fun _ => 0)), (q46, aI G 50 (fun _ => 0))] H := hP
    have hD : va_D A [(qo, .inr (3, [.ref q6, .ref q14, .ref q22, .ref q30, .ref q38, .null, .null, .null, .null, .int (nI 0), .int (nI 0), .null])), (q6, aI G 5 (fun _ => 0)), (q14, aZ G 50 (fun _ => false)), (q22, aZ G 50 (fun _ => false)), (q30, aZ G 50 (fun _ => false)), (q38, aI G 50 (fun _ => 0)), (q46, aI G 50 (fun _ => 0))] := hD
    refine va_putF (D := gD G) (ci := 3) (v := .ref q46) (ty := tyN 5) (C := "CircuitProver$Netlist") (T := TN) (N := 12) hx hb htb inN tyN tyN_ok nmN hown hK hP hD hS 0 rfl rfl 5 (by decide) (htb _ b61) (fun _ h9 => h9) rfl hin rfl (tyN_ok 5 (by decide)) rfl rfl (Nat.le_of_ble_eq_true rfl) dN_init_48 (fun H locs hP hD hS => ?_)
    have hP : va_P (gD G) vC [(qo, .inr (3, [.ref q6, .ref q14, .ref q22, .ref q30, .ref q38, .ref q46, .null, .null, .null, .int (nI 0), .int (nI 0), .null])), (q6, aI G 5 (fun _ => 0)), (q14, aZ G 50 (fun _ => false)), (q22, aZ G 50 (fun _ => false)), (q30, aZ G 50 (fun _ => false)), (q38, aI G 50 (fun _ => 0)), (q46, aI G 50 (fun _ => 0))] H := hP
    have hD : va_D A [(qo, .inr (3, [.ref q6, .ref q14, .ref q22, .ref q30, .ref q38, .ref q46, .null, .null, .null, .int (nI 0), .int (nI 0), .null])), (q6, aI G 5 (fun _ => 0)), (q14, aZ G 50 (fun _ => false)), (q22, aZ G 50 (fun _ => false)), (q30, aZ G 50 (fun _ => false)), (q38, aI G 50 (fun _ => 0)), (q46, aI G 50 (fun _ => 0))] := hD
    refine lv_aload_n hx hb dN_init_51 rfl (lv_at hl 0 rfl) ?_
    refine lv_iconst (v := nI 3) hx hb dN_init_52 (by decide) ?_
    refine k_newI (n := 3) hx hb (htb _ b48) hK hP hD hS hA (by decide) (by rw [hRc]; exact Nat.le_of_ble_eq_true rfl) (by rw [hRs]; exact Nat.le_of_ble_eq_true rfl) dN_init_53 (fun q53 H hP hD hS => ?_)
    have hP : va_P (gD G) vC [(qo, .inr (3, [.ref q6, .ref q14, .ref q22, .ref q30, .ref q38, .ref q46, .null, .null, .null, .int (nI 0), .int (nI 0), .null])), (q6, aI G 5 (fun _ => 0)), (q14, aZ G 50 (fun _ => false)), (q22, aZ G 50 (fun _ => false)), (q30, aZ G 50 (fun _ => false)), (q38, aI G 50 (fun _ => 0)), (q46, aI G 50 (fun _ => 0)), (q53, aI G 3 (fun _ => 0))] H := hP
    have hD : va_D A [(qo, .inr (3, [.ref q6, .ref q14, .ref q22, .ref q30, .ref q38, .ref q46, .null, .null, .null, .int (nI 0), .int (nI 0), .null])), (q6, aI G 5 (fun _ => 0)), (q14, aZ G 50 (fun _ => false)), (q22, aZ G 50 (fun _ => false)), (q30, aZ G 50 (fun _ => false)), (q38, aI G 50 (fun _ => 0)), (q46, aI G 50 (fun _ => 0)), (q53, aI G 3 (fun _ => 0))] := hD
    refine va_putF (D := gD G) (ci := 3) (v := .ref q53) (ty := tyN 6) (C := "CircuitProver$Netlist") (T := TN) (N := 12) hx hb htb inN tyN tyN_ok nmN hown hK hP hD hS 0 rfl rfl 6 (by decide) (htb _ b62) (fun _ h9 => h9) rfl hin rfl (tyN_ok 6 (by decide)) rfl rfl (Nat.le_of_ble_eq_true rfl) dN_init_55 (fun H locs hP hD hS => ?_)
    have hP : va_P (gD G) vC [(qo, .inr (3, [.ref q6, .ref q14, .ref q22, .ref q30, .ref q38, .ref q46, .ref q53, .null, .null, .int (nI 0), .int (nI 0), .null])), (q6, aI G 5 (fun _ => 0)), (q14, aZ G 50 (fun _ => false)), (q22, aZ G 50 (fun _ => false)), (q30, aZ G 50 (fun _ => false)), (q38, aI G 50 (fun _ => 0)), (q46, aI G 50 (fun _ => 0)), (q53, aI G 3 (fun _ => 0))] H := hP
    have hD : va_D A [(qo, .inr (3, [.ref q6, .ref q14, .ref q22, .ref q30, .ref q38, .ref q46, .ref q53, .null, .null, .int (nI 0), .int (nI 0), .null])), (q6, aI G 5 (fun _ => 0)), (q14, aZ G 50 (fun _ => false)), (q22, aZ G 50 (fun _ => false)), (q30, aZ G 50 (fun _ => false)), (q38, aI G 50 (fun _ => 0)), (q46, aI G 50 (fun _ => 0)), (q53, aI G 3 (fun _ => 0))] := hD
    refine lv_aload_n hx hb dN_init_58 rfl (lv_at hl 0 rfl) ?_
    refine lv_bipush (v := nI 6) hx hb dN_init_59 (by decide) ?_
    refine k_newI (n := 6) hx hb (htb _ b48) hK hP hD hS hA (by decide) (by rw [hRc]; exact Nat.le_of_ble_eq_true rfl) (by rw [hRs]; exact Nat.le_of_ble_eq_true rfl) dN_init_61 (fun q61 H hP hD hS => ?_)
    have hP : va_P (gD G) vC [(qo, .inr (3, [.ref q6, .ref q14, .ref q22, .ref q30, .ref q38, .ref q46, .ref q53, .null, .null, .int (nI 0), .int (nI 0), .null])), (q6, aI G 5 (fun _ => 0)), (q14, aZ G 50 (fun _ => false)), (q22, aZ G 50 (fun _ => false)), (q30, aZ G 50 (fun _ => false)), (q38, aI G 50 (fun _ => 0)), (q46, aI G 50 (fun _ => 0)), (q53, aI G 3 (fun _ => 0)), (q61, aI G 6 (fun _ => 0))] H := hP
    have hD : va_D A [(qo, .inr (3, [.ref q6, .ref q14, .ref q22, .ref q30, .ref q38, .ref q46, .ref q53, .null, .null, .int (nI 0), .int (nI 0), .null])), (q6, aI G 5 (fun _ => 0)), (q14, aZ G 50 (fun _ => false)), (q22, aZ G 50 (fun _ => false)), (q30, aZ G 50 (fun _ => false)), (q38, aI G 50 (fun _ => 0)), (q46, aI G 50 (fun _ => 0)), (q53, aI G 3 (fun _ => 0)), (q61, aI G 6 (fun _ => 0))] := hD
    refine va_putF (D := gD G) (ci := 3) (v := .ref q61) (ty := tyN 7) (C := "CircuitProver$Netlist") (T := TN) (N := 12) hx hb htb inN tyN tyN_ok nmN hown hK hP hD hS 0 rfl rfl 7 (by decide) (htb _ b63) (fun _ h9 => h9) rfl hin rfl (tyN_ok 7 (by decide)) rfl rfl (Nat.le_of_ble_eq_true rfl) dN_init_63 (fun H locs hP hD hS => ?_)
    have hP : va_P (gD G) vC [(qo, .inr (3, [.ref q6, .ref q14, .ref q22, .ref q30, .ref q38, .ref q46, .ref q53, .ref q61, .null, .int (nI 0), .int (nI 0), .null])), (q6, aI G 5 (fun _ => 0)), (q14, aZ G 50 (fun _ => false)), (q22, aZ G 50 (fun _ => false)), (q30, aZ G 50 (fun _ => false)), (q38, aI G 50 (fun _ => 0)), (q46, aI G 50 (fun _ => 0)), (q53, aI G 3 (fun _ => 0)), (q61, aI G 6 (fun _ => 0))] H := hP
    have hD : va_D A [(qo, .inr (3, [.ref q6, .ref q14, .ref q22, .ref q30, .ref q38, .ref q46, .ref q53, .ref q61, .null, .int (nI 0), .int (nI 0), .null])), (q6, aI G 5 (fun _ => 0)), (q14, aZ G 50 (fun _ => false)), (q22, aZ G 50 (fun _ => false)), (q30, aZ G 50 (fun _ => false)), (q38, aI G 50 (fun _ => 0)), (q46, aI G 50 (fun _ => 0)), (q53, aI G 3 (fun _ => 0)), (q61, aI G 6 (fun _ => 0))] := hD
    refine lv_aload_n hx hb dN_init_66 rfl (lv_at hl 0 rfl) ?_
    refine lv_bipush (v := nI 6) hx hb dN_init_67 (by decide) ?_
    refine k_newI (n := 6) hx hb (htb _ b48) hK hP hD hS hA (by decide) (by rw [hRc]; exact Nat.le_of_ble_eq_true rfl) (by rw [hRs]; exact Nat.le_of_ble_eq_true rfl) dN_init_69 (fun q69 H hP hD hS => ?_)
    have hP : va_P (gD G) vC [(qo, .inr (3, [.ref q6, .ref q14, .ref q22, .ref q30, .ref q38, .ref q46, .ref q53, .ref q61, .null, .int (nI 0), .int (nI 0), .null])), (q6, aI G 5 (fun _ => 0)), (q14, aZ G 50 (fun _ => false)), (q22, aZ G 50 (fun _ => false)), (q30, aZ G 50 (fun _ => false)), (q38, aI G 50 (fun _ => 0)), (q46, aI G 50 (fun _ => 0)), (q53, aI G 3 (fun _ => 0)), (q61, aI G 6 (fun _ => 0)), (q69, aI G 6 (fun _ => 0))] H := hP
    have hD : va_D A [(qo, .inr (3, [.ref q6, .ref q14, .ref q22, .ref q30, .ref q38, .ref q46, .ref q53, .ref q61, .null, .int (nI 0), .int (nI 0), .null])), (q6, aI G 5 (fun _ => 0)), (q14, aZ G 50 (fun _ => false)), (q22, aZ G 50 (fun _ => false)), (q30, aZ G 50 (fun _ => false)), (q38, aI G 50 (fun _ => 0)), (q46, aI G 50 (fun _ => 0)), (q53, aI G 3 (fun _ => 0)), (q61, aI G 6 (fun _ => 0)), (q69, aI G 6 (fun _ => 0))] := hD
    refine va_putF (D := gD G) (ci := 3) (v := .ref q69) (ty := tyN 8) (C := "CircuitProver$Netlist") (T := TN) (N := 12) hx hb htb inN tyN tyN_ok nmN hown hK hP hD hS 0 rfl rfl 8 (by decide) (htb _ b64) (fun _ h9 => h9) rfl hin rfl (tyN_ok 8 (by decide)) rfl rfl (Nat.le_of_ble_eq_true rfl) dN_init_71 (fun H locs hP hD hS => ?_)
    have hP : va_P (gD G) vC [(qo, .inr (3, [.ref q6, .ref q14, .ref q22, .ref q30, .ref q38, .ref q46, .ref q53, .ref q61, .ref q69, .int (nI 0), .int (nI 0), .null])), (q6, aI G 5 (fun _ => 0)), (q14, aZ G 50 (fun _ => false)), (q22, aZ G 50 (fun _ => false)), (q30, aZ G 50 (fun _ => false)), (q38, aI G 50 (fun _ => 0)), (q46, aI G 50 (fun _ => 0)), (q53, aI G 3 (fun _ => 0)), (q61, aI G 6 (fun _ => 0)), (q69, aI G 6 (fun _ => 0))] H := hP
    have hD : va_D A [(qo, .inr (3, [.ref q6, .ref q14, .ref q22, .ref q30, .ref q38, .ref q46, .ref q53, .ref q61, .ref q69, .int (nI 0), .int (nI 0), .null])), (q6, aI G 5 (fun _ => 0)), (q14, aZ G 50 (fun _ => false)), (q22, aZ G 50 (fun _ => false)), (q30, aZ G 50 (fun _ => false)), (q38, aI G 50 (fun _ => 0)), (q46, aI G 50 (fun _ => 0)), (q53, aI G 3 (fun _ => 0)), (q61, aI G 6 (fun _ => 0)), (q69, aI G 6 (fun _ => 0))] := hD
    refine lv_aload_n hx hb dN_init_74 rfl (lv_at hl 0 rfl) ?_
    refine lv_bipush (v := nI 50) hx hb dN_init_75 (by decide) ?_
    refine k_newJ (n := 50) hx hb (htb _ b97) hK hP hD hS hA (by decide) (by rw [hRc]; exact Nat.le_of_ble_eq_true rfl) (by rw [hRs]; exact Nat.le_of_ble_eq_true rfl) dN_init_77 (fun q77 H hP hD hS => ?_)
    have hP : va_P (gD G) vC [(qo, .inr (3, [.ref q6, .ref q14, .ref q22, .ref q30, .ref q38, .ref q46, .ref q53, .ref q61, .ref q69, .int (nI 0), .int (nI 0), .null])), (q6, aI G 5 (fun _ => 0)), (q14, aZ G 50 (fun _ => false)), (q22, aZ G 50 (fun _ => false)), (q30, aZ G 50 (fun _ => false)), (q38, aI G 50 (fun _ => 0)), (q46, aI G 50 (fun _ => 0)), (q53, aI G 3 (fun _ => 0)), (q61, aI G 6 (fun _ => 0)), (q69, aI G 6 (fun _ => 0)), (q77, aJ G 50 (fun _ => 0))] H := hP
    have hD : va_D A [(qo, .inr (3, [.ref q6, .ref q14, .ref q22, .ref q30, .ref q38, .ref q46, .ref q53, .ref q61, .ref q69, .int (nI 0), .int (nI 0), .null])), (q6, aI G 5 (fun _ => 0)), (q14, aZ G 50 (fun _ => false)), (q22, aZ G 50 (fun _ => false)), (q30, aZ G 50 (fun _ => false)), (q38, aI G 50 (fun _ => 0)), (q46, aI G 50 (fun _ => 0)), (q53, aI G 3 (fun _ => 0)), (q61, aI G 6 (fun _ => 0)), (q69, aI G 6 (fun _ => 0)), (q77, aJ G 50 (fun _ => 0))] := hD
    refine va_putF (D := gD G) (ci := 3) (v := .ref q77) (ty := tyN 11) (C := "CircuitProver$Netlist") (T := TN) (N := 12) hx hb htb inN tyN tyN_ok nmN hown hK hP hD hS 0 rfl rfl 11 (by decide) (htb _ b70) (fun _ h9 => h9) rfl hin rfl (tyN_ok 11 (by decide)) rfl rfl (Nat.le_of_ble_eq_true rfl) dN_init_79 (fun H locs hP hD hS => ?_)
    have hP : va_P (gD G) vC [(qo, .inr (3, [.ref q6, .ref q14, .ref q22, .ref q30, .ref q38, .ref q46, .ref q53, .ref q61, .ref q69, .int (nI 0), .int (nI 0), .ref q77])), (q6, aI G 5 (fun _ => 0)), (q14, aZ G 50 (fun _ => false)), (q22, aZ G 50 (fun _ => false)), (q30, aZ G 50 (fun _ => false)), (q38, aI G 50 (fun _ => 0)), (q46, aI G 50 (fun _ => 0)), (q53, aI G 3 (fun _ => 0)), (q61, aI G 6 (fun _ => 0)), (q69, aI G 6 (fun _ => 0)), (q77, aJ G 50 (fun _ => 0))] H := hP
    have hD : va_D A [(qo, .inr (3, [.ref q6, .ref q14, .ref q22, .ref q30, .ref q38, .ref q46, .ref q53, .ref q61, .ref q69, .int (nI 0), .int (nI 0), .ref q77])), (q6, aI G 5 (fun _ => 0)), (q14, aZ G 50 (fun _ => false)), (q22, aZ G 50 (fun _ => false)), (q30, aZ G 50 (fun _ => false)), (q38, aI G 50 (fun _ => 0)), (q46, aI G 50 (fun _ => 0)), (q53, aI G 3 (fun _ => 0)), (q61, aI G 6 (fun _ => 0)), (q69, aI G 6 (fun _ => 0)), (q77, aJ G 50 (fun _ => 0))] := hD
    -- end 0
    rw [← hQ]
    exact k_vret hx hb hr hlocks (u := (q6, q14, q22, q30, q38, q46, q53, q61, q69, q77)) (trivial) hP hD hK hS dN_init_82
  rw [hH, hlc] at hgo
  exact hgo
set_option maxRecDepth 100000 in
set_option maxHeartbeats 4000000 in
theorem k_K_init (l : Launch) (G : GG) (sz : Nat) (qo : Nat) : Kv l yK_init cK_init 1 1 12 4 125 G [.ref qo] [(qo, .inr (2, [.null, .int (nI 0), .int (nI 0), .int (nI 0), .int (nI 0), .null, .null, .null, .long 0]))] sz (fun (_ : Nat × Nat × Nat × Nat) => True) (fun (u : Nat × Nat × Nat × Nat) => [(qo, .inr (2, [.ref u.1, .int (nI 0), .int (nI 0), .int (nI 0), .int (nI 0), .ref u.2.1, .ref u.2.2.1, .ref u.2.2.2, .long 0])), (u.1, aI G 5 (fun _ => 0)), (u.2.1, aJ G 48 (fun _ => 0)), (u.2.2.1, aJ G 8 (fun _ => 0)), (u.2.2.2, aJ G 64 (fun _ => 0))]) := by
  refine Met.ofW (cc := cK_init) (maxL := 1) (ret := none) (by decide) rfl ?_
  intro p e s m args below meth c s₁ B hml hv
  obtain ⟨hav, hsz, hP, hK, hD0, hE⟩ := hv
  have hx := B.exec
  have hb := B.bytes
  have hr := B.returns
  have htb : ∀ w ∈ TB, w.before args s = true := fun w h => atoms_spec (ws := Cond.code yK_init cK_init 1 none :: TB) B.pre w (List.mem_cons_of_mem _ h)
  have hown : s.vm.findClass "CircuitProver$Machine" = some m.cls := findClass_of_methodNamed B.named
  have hlocks := B.notSynchronized
  have hin : meth.name = "<init>" := (name_of_methodNamed B.named B.method).1
  subst hsz
  have hD := hD0.self (sz := s.heap.size)
  clear hD0
  generalize hRm : (headSpec (Cond.code yK_init cK_init 1 none :: TB) { frames := 1, cells := 4, slots := 125, locals := 12 }).room = R
  have hRf : R.frames = 1 := by rw [← hRm]; rfl
  have hRl : R.locals = 12 := by rw [← hRm]; rfl
  have hRc : R.cells = 4 := by rw [← hRm]; rfl
  have hRs : R.slots = 125 := by rw [← hRm]; rfl
  clear hRm
  generalize hAe : va_A [(qo, .inr (2, [.null, .int (nI 0), .int (nI 0), .int (nI 0), .int (nI 0), .null, .null, .null, .long 0]))] s.heap.size = A at hD hE ⊢
  have hA : ∀ q : Nat, s.heap.size ≤ q → A q := fun q h => by rw [← hAe]; exact Or.inr h
  clear hAe
  have hS : va_S A s.heap s.heap [] := va_S.rf
  have hl := lv_entry ([.ref qo]) (n := 1) (Nat.le_of_ble_eq_true rfl)
  have hent := lg_entry_eq m ([.ref qo]) 1
  rw [← hav] at hent
  rw [hent]
  clear hent hav
  generalize (lg_sl ([.ref qo]) ++ List.replicate (1 - (lg_sl ([.ref qo])).length) Slot.unset).toArray = ls at hl ⊢
  have hl : lv_has ls 1 [(0, .ref qo)] := hl
  generalize hQ : MQ below _ args s 4 125 _ = Q
  have hP : va_P (gD G) vC [(qo, .inr (2, [.null, .int (nI 0), .int (nI 0), .int (nI 0), .int (nI 0), .null, .null, .null, .long 0]))] s.heap := hP
  obtain ⟨H, hH⟩ : ∃ H : Heap, H = s.heap := ⟨_, rfl⟩
  obtain ⟨locs, hlc⟩ : ∃ L : List Loc, L = [] := ⟨_, rfl⟩
  have hS : va_S A s.heap H locs := by rw [hH, hlc]; exact hS
  have hP : va_P (gD G) vC [(qo, .inr (2, [.null, .int (nI 0), .int (nI 0), .int (nI 0), .int (nI 0), .null, .null, .null, .long 0]))] H := by rw [hH]; exact hP
  have hgo : W p l e R s m args below meth c H locs 0 0 Q (F0 m 0 ls []) := by
    clear hH hlc
    refine lv_aload_n hx hb dK_init_0 rfl (lv_at hl 0 rfl) ?_
    refine W.objInit hx hb hown (htb _ b103) (htb _ b24) (htb _ b25) rfl (by rw [hml]; exact hl.1) rfl dK_init_1 (by rw [hRf]; exact Nat.le_of_ble_eq_true rfl) (by rw [hRl]; exact Nat.le_of_ble_eq_true rfl) ?_
    refine W.eq (g2 := F0 m 4 ls []) rfl ?_
    refine lv_aload_n hx hb dK_init_4 rfl (lv_at hl 0 rfl) ?_
    refine lv_iconst (v := nI 5) hx hb dK_init_5 (by decide) ?_
    refine k_newI (n := 5) hx hb (htb _ b48) hK hP hD hS hA (by decide) (by rw [hRc]; exact Nat.le_of_ble_eq_true rfl) (by rw [hRs]; exact Nat.le_of_ble_eq_true rfl) dK_init_6 (fun q6 H hP hD hS => ?_)
    have hP : va_P (gD G) vC [(qo, .inr (2, [.null, .int (nI 0), .int (nI 0), .int (nI 0), .int (nI 0), .null, .null, .null, .long 0])), (q6, aI G 5 (fun _ => 0))] H := hP
    have hD : va_D A [(qo, .inr (2, [.null, .int (nI 0), .int (nI 0), .int (nI 0), .int (nI 0), .null, .null, .null, .long 0])), (q6, aI G 5 (fun _ => 0))] := hD
    refine va_putF (D := gD G) (ci := 2) (v := .ref q6) (ty := tyK 0) (C := "CircuitProver$Machine") (T := TK) (N := 9) hx hb htb inK tyK tyK_ok nmK hown hK hP hD hS 0 rfl rfl 0 (by decide) (htb _ b104) (fun _ h9 => h9) rfl hin rfl (tyK_ok 0 (by decide)) rfl rfl (Nat.le_of_ble_eq_true rfl) dK_init_8 (fun H locs hP hD hS => ?_)
    have hP : va_P (gD G) vC [(qo, .inr (2, [.ref q6, .int (nI 0), .int (nI 0), .int (nI 0), .int (nI 0), .null, .null, .null, .long 0])), (q6, aI G 5 (fun _ => 0))] H := hP
    have hD : va_D A [(qo, .inr (2, [.ref q6, .int (nI 0), .int (nI 0), .int (nI 0), .int (nI 0), .null, .null, .null, .long 0])), (q6, aI G 5 (fun _ => 0))] := hD
    refine lv_aload_n hx hb dK_init_11 rfl (lv_at hl 0 rfl) ?_
    refine lv_bipush (v := nI 48) hx hb dK_init_12 (by decide) ?_
    refine k_newJ (n := 48) hx hb (htb _ b97) hK hP hD hS hA (by decide) (by rw [hRc]; exact Nat.le_of_ble_eq_true rfl) (by rw [hRs]; exact Nat.le_of_ble_eq_true rfl) dK_init_14 (fun q14 H hP hD hS => ?_)
    have hP : va_P (gD G) vC [(qo, .inr (2, [.ref q6, .int (nI 0), .int (nI 0), .int (nI 0), .int (nI 0), .null, .null, .null, .long 0])), (q6, aI G 5 (fun _ => 0)), (q14, aJ G 48 (fun _ => 0))] H := hP
    have hD : va_D A [(qo, .inr (2, [.ref q6, .int (nI 0), .int (nI 0), .int (nI 0), .int (nI 0), .null, .null, .null, .long 0])), (q6, aI G 5 (fun _ => 0)), (q14, aJ G 48 (fun _ => 0))] := hD
    refine va_putF (D := gD G) (ci := 2) (v := .ref q14) (ty := tyK 5) (C := "CircuitProver$Machine") (T := TK) (N := 9) hx hb htb inK tyK tyK_ok nmK hown hK hP hD hS 0 rfl rfl 5 (by decide) (htb _ b115) (fun _ h9 => h9) rfl hin rfl (tyK_ok 5 (by decide)) rfl rfl (Nat.le_of_ble_eq_true rfl) dK_init_16 (fun H locs hP hD hS => ?_)
    have hP : va_P (gD G) vC [(qo, .inr (2, [.ref q6, .int (nI 0), .int (nI 0), .int (nI 0), .int (nI 0), .ref q14, .null, .null, .long 0])), (q6, aI G 5 (fun _ => 0)), (q14, aJ G 48 (fun _ => 0))] H := hP
    have hD : va_D A [(qo, .inr (2, [.ref q6, .int (nI 0), .int (nI 0), .int (nI 0), .int (nI 0), .ref q14, .null, .null, .long 0])), (q6, aI G 5 (fun _ => 0)), (q14, aJ G 48 (fun _ => 0))] := hD
    refine lv_aload_n hx hb dK_init_19 rfl (lv_at hl 0 rfl) ?_
    refine lv_bipush (v := nI 8) hx hb dK_init_20 (by decide) ?_
    refine k_newJ (n := 8) hx hb (htb _ b97) hK hP hD hS hA (by decide) (by rw [hRc]; exact Nat.le_of_ble_eq_true rfl) (by rw [hRs]; exact Nat.le_of_ble_eq_true rfl) dK_init_22 (fun q22 H hP hD hS => ?_)
    have hP : va_P (gD G) vC [(qo, .inr (2, [.ref q6, .int (nI 0), .int (nI 0), .int (nI 0), .int (nI 0), .ref q14, .null, .null, .long 0])), (q6, aI G 5 (fun _ => 0)), (q14, aJ G 48 (fun _ => 0)), (q22, aJ G 8 (fun _ => 0))] H := hP
    have hD : va_D A [(qo, .inr (2, [.ref q6, .int (nI 0), .int (nI 0), .int (nI 0), .int (nI 0), .ref q14, .null, .null, .long 0])), (q6, aI G 5 (fun _ => 0)), (q14, aJ G 48 (fun _ => 0)), (q22, aJ G 8 (fun _ => 0))] := hD
    refine va_putF (D := gD G) (ci := 2) (v := .ref q22) (ty := tyK 6) (C := "CircuitProver$Machine") (T := TK) (N := 9) hx hb htb inK tyK tyK_ok nmK hown hK hP hD hS 0 rfl rfl 6 (by decide) (htb _ b116) (fun _ h9 => h9) rfl hin rfl (tyK_ok 6 (by decide)) rfl rfl (Nat.le_of_ble_eq_true rfl) dK_init_24 (fun H locs hP hD hS => ?_)
    have hP : va_P (gD G) vC [(qo, .inr (2, [.ref q6, .int (nI 0), .int (nI 0), .int (nI 0), .int (nI 0), .ref q14, .ref q22, .null, .long 0])), (q6, aI G 5 (fun _ => 0)), (q14, aJ G 48 (fun _ => 0)), (q22, aJ G 8 (fun _ => 0))] H := hP
    have hD : va_D A [(qo, .inr (2, [.ref q6, .int (nI 0), .int (nI 0), .int (nI 0), .int (nI 0), .ref q14, .ref q22, .null, .long 0])), (q6, aI G 5 (fun _ => 0)), (q14, aJ G 48 (fun _ => 0)), (q22, aJ G 8 (fun _ => 0))] := hD
    refine lv_aload_n hx hb dK_init_27 rfl (lv_at hl 0 rfl) ?_
    refine lv_bipush (v := nI 64) hx hb dK_init_28 (by decide) ?_
    refine k_newJ (n := 64) hx hb (htb _ b97) hK hP hD hS hA (by decide) (by rw [hRc]; exact Nat.le_of_ble_eq_true rfl) (by rw [hRs]; exact Nat.le_of_ble_eq_true rfl) dK_init_30 (fun q30 H hP hD hS => ?_)
    have hP : va_P (gD G) vC [(qo, .inr (2, [.ref q6, .int (nI 0), .int (nI 0), .int (nI 0), .int (nI 0), .ref q14, .ref q22, .null, .long 0])), (q6, aI G 5 (fun _ => 0)), (q14, aJ G 48 (fun _ => 0)), (q22, aJ G 8 (fun _ => 0)), (q30, aJ G 64 (fun _ => 0))] H := hP
    have hD : va_D A [(qo, .inr (2, [.ref q6, .int (nI 0), .int (nI 0), .int (nI 0), .int (nI 0), .ref q14, .ref q22, .null, .long 0])), (q6, aI G 5 (fun _ => 0)), (q14, aJ G 48 (fun _ => 0)), (q22, aJ G 8 (fun _ => 0)), (q30, aJ G 64 (fun _ => 0))] := hD
    refine va_putF (D := gD G) (ci := 2) (v := .ref q30) (ty := tyK 7) (C := "CircuitProver$Machine") (T := TK) (N := 9) hx hb htb inK tyK tyK_ok nmK hown hK hP hD hS 0 rfl rfl 7 (by decide) (htb _ b117) (fun _ h9 => h9) rfl hin rfl (tyK_ok 7 (by decide)) rfl rfl (Nat.le_of_ble_eq_true rfl) dK_init_32 (fun H locs hP hD hS => ?_)
    have hP : va_P (gD G) vC [(qo, .inr (2, [.ref q6, .int (nI 0), .int (nI 0), .int (nI 0), .int (nI 0), .ref q14, .ref q22, .ref q30, .long 0])), (q6, aI G 5 (fun _ => 0)), (q14, aJ G 48 (fun _ => 0)), (q22, aJ G 8 (fun _ => 0)), (q30, aJ G 64 (fun _ => 0))] H := hP
    have hD : va_D A [(qo, .inr (2, [.ref q6, .int (nI 0), .int (nI 0), .int (nI 0), .int (nI 0), .ref q14, .ref q22, .ref q30, .long 0])), (q6, aI G 5 (fun _ => 0)), (q14, aJ G 48 (fun _ => 0)), (q22, aJ G 8 (fun _ => 0)), (q30, aJ G 64 (fun _ => 0))] := hD
    -- end 0
    rw [← hQ]
    exact k_vret hx hb hr hlocks (u := (q6, q14, q22, q30)) (trivial) hP hD hK hS dK_init_35
  rw [hH, hlc] at hgo
  exact hgo
set_option maxRecDepth 100000 in
set_option maxHeartbeats 4000000 in
theorem k_A_init (l : Launch) (G : GG) (sz : Nat) (qo : Nat) : Kv l yA_init cA_init 1 1 12 2 128 G [.ref qo] [(qo, .inr (0, [.null, .int (nI 0), .long 0, .int (nI 0), .null, .int (nI 0), .int (nI 0), .long 0]))] sz (fun (_ : Nat × Nat) => True) (fun (u : Nat × Nat) => [(qo, .inr (0, [.ref u.1, .int (nI 0), .long 0, .int (-1), .ref u.2, .int (nI 0), .int (nI 0), .long 0])), (u.1, aJ G 64 (fun _ => 0)), (u.2, aI G 64 (fun _ => 0))]) := by
  refine Met.ofW (cc := cA_init) (maxL := 1) (ret := none) (by decide) rfl ?_
  intro p e s m args below meth c s₁ B hml hv
  obtain ⟨hav, hsz, hP, hK, hD0, hE⟩ := hv
  have hx := B.exec
  have hb := B.bytes
  have hr := B.returns
  have htb : ∀ w ∈ TB, w.before args s = true := fun w h => atoms_spec (ws := Cond.code yA_init cA_init 1 none :: TB) B.pre w (List.mem_cons_of_mem _ h)
  have hown : s.vm.findClass "CircuitProver$Answer" = some m.cls := findClass_of_methodNamed B.named
  have hlocks := B.notSynchronized
  have hin : meth.name = "<init>" := (name_of_methodNamed B.named B.method).1
  subst hsz
  have hD := hD0.self (sz := s.heap.size)
  clear hD0
  generalize hRm : (headSpec (Cond.code yA_init cA_init 1 none :: TB) { frames := 1, cells := 2, slots := 128, locals := 12 }).room = R
  have hRf : R.frames = 1 := by rw [← hRm]; rfl
  have hRl : R.locals = 12 := by rw [← hRm]; rfl
  have hRc : R.cells = 2 := by rw [← hRm]; rfl
  have hRs : R.slots = 128 := by rw [← hRm]; rfl
  clear hRm
  generalize hAe : va_A [(qo, .inr (0, [.null, .int (nI 0), .long 0, .int (nI 0), .null, .int (nI 0), .int (nI 0), .long 0]))] s.heap.size = A at hD hE ⊢
  have hA : ∀ q : Nat, s.heap.size ≤ q → A q := fun q h => by rw [← hAe]; exact Or.inr h
  clear hAe
  have hS : va_S A s.heap s.heap [] := va_S.rf
  have hl := lv_entry ([.ref qo]) (n := 1) (Nat.le_of_ble_eq_true rfl)
  have hent := lg_entry_eq m ([.ref qo]) 1
  rw [← hav] at hent
  rw [hent]
  clear hent hav
  generalize (lg_sl ([.ref qo]) ++ List.replicate (1 - (lg_sl ([.ref qo])).length) Slot.unset).toArray = ls at hl ⊢
  have hl : lv_has ls 1 [(0, .ref qo)] := hl
  generalize hQ : MQ below _ args s 2 128 _ = Q
  have hP : va_P (gD G) vC [(qo, .inr (0, [.null, .int (nI 0), .long 0, .int (nI 0), .null, .int (nI 0), .int (nI 0), .long 0]))] s.heap := hP
  obtain ⟨H, hH⟩ : ∃ H : Heap, H = s.heap := ⟨_, rfl⟩
  obtain ⟨locs, hlc⟩ : ∃ L : List Loc, L = [] := ⟨_, rfl⟩
  have hS : va_S A s.heap H locs := by rw [hH, hlc]; exact hS
  have hP : va_P (gD G) vC [(qo, .inr (0, [.null, .int (nI 0), .long 0, .int (nI 0), .null, .int (nI 0), .int (nI 0), .long 0]))] H := by rw [hH]; exact hP
  have hgo : W p l e R s m args below meth c H locs 0 0 Q (F0 m 0 ls []) := by
    clear hH hlc
    refine lv_aload_n hx hb dA_init_0 rfl (lv_at hl 0 rfl) ?_
    refine W.objInit hx hb hown (htb _ b145) (htb _ b24) (htb _ b25) rfl (by rw [hml]; exact hl.1) rfl dA_init_1 (by rw [hRf]; exact Nat.le_of_ble_eq_true rfl) (by rw [hRl]; exact Nat.le_of_ble_eq_true rfl) ?_
    refine W.eq (g2 := F0 m 4 ls []) rfl ?_
    refine lv_aload_n hx hb dA_init_4 rfl (lv_at hl 0 rfl) ?_
    refine lv_bipush (v := nI 64) hx hb dA_init_5 (by decide) ?_
    refine k_newJ (n := 64) hx hb (htb _ b97) hK hP hD hS hA (by decide) (by rw [hRc]; exact Nat.le_of_ble_eq_true rfl) (by rw [hRs]; exact Nat.le_of_ble_eq_true rfl) dA_init_7 (fun q7 H hP hD hS => ?_)
    have hP : va_P (gD G) vC [(qo, .inr (0, [.null, .int (nI 0), .long 0, .int (nI 0), .null, .int (nI 0), .int (nI 0), .long 0])), (q7, aJ G 64 (fun _ => 0))] H := hP
    have hD : va_D A [(qo, .inr (0, [.null, .int (nI 0), .long 0, .int (nI 0), .null, .int (nI 0), .int (nI 0), .long 0])), (q7, aJ G 64 (fun _ => 0))] := hD
    refine va_putF (D := gD G) (ci := 0) (v := .ref q7) (ty := tyA 0) (C := "CircuitProver$Answer") (T := TA) (N := 8) hx hb htb inA tyA tyA_ok nmA hown hK hP hD hS 0 rfl rfl 0 (by decide) (htb _ b146) (fun _ h9 => h9) rfl hin rfl (tyA_ok 0 (by decide)) rfl rfl (Nat.le_of_ble_eq_true rfl) dA_init_9 (fun H locs hP hD hS => ?_)
    have hP : va_P (gD G) vC [(qo, .inr (0, [.ref q7, .int (nI 0), .long 0, .int (nI 0), .null, .int (nI 0), .int (nI 0), .long 0])), (q7, aJ G 64 (fun _ => 0))] H := hP
    have hD : va_D A [(qo, .inr (0, [.ref q7, .int (nI 0), .long 0, .int (nI 0), .null, .int (nI 0), .int (nI 0), .long 0])), (q7, aJ G 64 (fun _ => 0))] := hD
    refine lv_aload_n hx hb dA_init_12 rfl (lv_at hl 0 rfl) ?_
    refine lv_iconst (v := nI 0) hx hb dA_init_13 (by decide) ?_
    refine va_put (D := gD G) (ci := 0) (v := .int (nI 0)) (ty := tyA 1) (C := "CircuitProver$Answer") (T := TA) (N := 8) hx hb htb inA tyA tyA_ok nmA hown hK hP hD hS 0 rfl rfl 1 (by decide) (htb _ b147) (fun _ h9 => h9) rfl (tyA_ok 1 (by decide)) rfl rfl (Nat.le_of_ble_eq_true rfl) dA_init_14 (fun H locs hP hD hS => ?_)
    have hP : va_P (gD G) vC [(qo, .inr (0, [.ref q7, .int (nI 0), .long 0, .int (nI 0), .null, .int (nI 0), .int (nI 0), .long 0])), (q7, aJ G 64 (fun _ => 0))] H := hP
    have hD : va_D A [(qo, .inr (0, [.ref q7, .int (nI 0), .long 0, .int (nI 0), .null, .int (nI 0), .int (nI 0), .long 0])), (q7, aJ G 64 (fun _ => 0))] := hD
    refine lv_aload_n hx hb dA_init_17 rfl (lv_at hl 0 rfl) ?_
    refine lv_bipush (v := nI 64) hx hb dA_init_18 (by decide) ?_
    refine k_newI (n := 64) hx hb (htb _ b48) hK hP hD hS hA (by decide) (by rw [hRc]; exact Nat.le_of_ble_eq_true rfl) (by rw [hRs]; exact Nat.le_of_ble_eq_true rfl) dA_init_20 (fun q20 H hP hD hS => ?_)
    have hP : va_P (gD G) vC [(qo, .inr (0, [.ref q7, .int (nI 0), .long 0, .int (nI 0), .null, .int (nI 0), .int (nI 0), .long 0])), (q7, aJ G 64 (fun _ => 0)), (q20, aI G 64 (fun _ => 0))] H := hP
    have hD : va_D A [(qo, .inr (0, [.ref q7, .int (nI 0), .long 0, .int (nI 0), .null, .int (nI 0), .int (nI 0), .long 0])), (q7, aJ G 64 (fun _ => 0)), (q20, aI G 64 (fun _ => 0))] := hD
    refine va_putF (D := gD G) (ci := 0) (v := .ref q20) (ty := tyA 4) (C := "CircuitProver$Answer") (T := TA) (N := 8) hx hb htb inA tyA tyA_ok nmA hown hK hP hD hS 0 rfl rfl 4 (by decide) (htb _ b152) (fun _ h9 => h9) rfl hin rfl (tyA_ok 4 (by decide)) rfl rfl (Nat.le_of_ble_eq_true rfl) dA_init_22 (fun H locs hP hD hS => ?_)
    have hP : va_P (gD G) vC [(qo, .inr (0, [.ref q7, .int (nI 0), .long 0, .int (nI 0), .ref q20, .int (nI 0), .int (nI 0), .long 0])), (q7, aJ G 64 (fun _ => 0)), (q20, aI G 64 (fun _ => 0))] H := hP
    have hD : va_D A [(qo, .inr (0, [.ref q7, .int (nI 0), .long 0, .int (nI 0), .ref q20, .int (nI 0), .int (nI 0), .long 0])), (q7, aJ G 64 (fun _ => 0)), (q20, aI G 64 (fun _ => 0))] := hD
    refine lv_aload_n hx hb dA_init_25 rfl (lv_at hl 0 rfl) ?_
    refine lv_iconst (v := (-1)) hx hb dA_init_26 (by decide) ?_
    refine va_put (D := gD G) (ci := 0) (v := .int (-1)) (ty := tyA 3) (C := "CircuitProver$Answer") (T := TA) (N := 8) hx hb htb inA tyA tyA_ok nmA hown hK hP hD hS 0 rfl rfl 3 (by decide) (htb _ b150) (fun _ h9 => h9) rfl (tyA_ok 3 (by decide)) rfl rfl (Nat.le_of_ble_eq_true rfl) dA_init_27 (fun H locs hP hD hS => ?_)
    have hP : va_P (gD G) vC [(qo, .inr (0, [.ref q7, .int (nI 0), .long 0, .int (-1), .ref q20, .int (nI 0), .int (nI 0), .long 0])), (q7, aJ G 64 (fun _ => 0)), (q20, aI G 64 (fun _ => 0))] H := hP
    have hD : va_D A [(qo, .inr (0, [.ref q7, .int (nI 0), .long 0, .int (-1), .ref q20, .int (nI 0), .int (nI 0), .long 0])), (q7, aJ G 64 (fun _ => 0)), (q20, aI G 64 (fun _ => 0))] := hD
    -- end 0
    rw [← hQ]
    exact k_vret hx hb hr hlocks (u := (q7, q20)) (trivial) hP hD hK hS dA_init_30
  rw [hH, hlc] at hgo
  exact hgo
set_option maxRecDepth 100000 in
set_option maxHeartbeats 4000000 in
theorem k_D_init (l : Launch) (G : GG) (sz : Nat) (qo : Nat) : Kv l yD_init cD_init 1 1 12 1 32 G [.ref qo] [(qo, .inr (1, [.null]))] sz (fun (_ : Nat) => True) (fun (u : Nat) => [(qo, .inr (1, [.ref u])), (u, aJ G 32 (fun _ => 0))]) := by
  refine Met.ofW (cc := cD_init) (maxL := 1) (ret := none) (by decide) rfl ?_
  intro p e s m args below meth c s₁ B hml hv
  obtain ⟨hav, hsz, hP, hK, hD0, hE⟩ := hv
  have hx := B.exec
  have hb := B.bytes
  have hr := B.returns
  have htb : ∀ w ∈ TB, w.before args s = true := fun w h => atoms_spec (ws := Cond.code yD_init cD_init 1 none :: TB) B.pre w (List.mem_cons_of_mem _ h)
  have hown : s.vm.findClass "CircuitProver$Diagram" = some m.cls := findClass_of_methodNamed B.named
  have hlocks := B.notSynchronized
  have hin : meth.name = "<init>" := (name_of_methodNamed B.named B.method).1
  subst hsz
  have hD := hD0.self (sz := s.heap.size)
  clear hD0
  generalize hRm : (headSpec (Cond.code yD_init cD_init 1 none :: TB) { frames := 1, cells := 1, slots := 32, locals := 12 }).room = R
  have hRf : R.frames = 1 := by rw [← hRm]; rfl
  have hRl : R.locals = 12 := by rw [← hRm]; rfl
  have hRc : R.cells = 1 := by rw [← hRm]; rfl
  have hRs : R.slots = 32 := by rw [← hRm]; rfl
  clear hRm
  generalize hAe : va_A [(qo, .inr (1, [.null]))] s.heap.size = A at hD hE ⊢
  have hA : ∀ q : Nat, s.heap.size ≤ q → A q := fun q h => by rw [← hAe]; exact Or.inr h
  clear hAe
  have hS : va_S A s.heap s.heap [] := va_S.rf
  have hl := lv_entry ([.ref qo]) (n := 1) (Nat.le_of_ble_eq_true rfl)
  have hent := lg_entry_eq m ([.ref qo]) 1
  rw [← hav] at hent
  rw [hent]
  clear hent hav
  generalize (lg_sl ([.ref qo]) ++ List.replicate (1 - (lg_sl ([.ref qo])).length) Slot.unset).toArray = ls at hl ⊢
  have hl : lv_has ls 1 [(0, .ref qo)] := hl
  generalize hQ : MQ below _ args s 1 32 _ = Q
  have hP : va_P (gD G) vC [(qo, .inr (1, [.null]))] s.heap := hP
  obtain ⟨H, hH⟩ : ∃ H : Heap, H = s.heap := ⟨_, rfl⟩
  obtain ⟨locs, hlc⟩ : ∃ L : List Loc, L = [] := ⟨_, rfl⟩
  have hS : va_S A s.heap H locs := by rw [hH, hlc]; exact hS
  have hP : va_P (gD G) vC [(qo, .inr (1, [.null]))] H := by rw [hH]; exact hP
  have hgo : W p l e R s m args below meth c H locs 0 0 Q (F0 m 0 ls []) := by
    clear hH hlc
    refine lv_aload_n hx hb dD_init_0 rfl (lv_at hl 0 rfl) ?_
    refine W.objInit hx hb hown (htb _ b182) (htb _ b24) (htb _ b25) rfl (by rw [hml]; exact hl.1) rfl dD_init_1 (by rw [hRf]; exact Nat.le_of_ble_eq_true rfl) (by rw [hRl]; exact Nat.le_of_ble_eq_true rfl) ?_
    refine W.eq (g2 := F0 m 4 ls []) rfl ?_
    refine lv_aload_n hx hb dD_init_4 rfl (lv_at hl 0 rfl) ?_
    refine lv_bipush (v := nI 32) hx hb dD_init_5 (by decide) ?_
    refine k_newJ (n := 32) hx hb (htb _ b97) hK hP hD hS hA (by decide) (by rw [hRc]; exact Nat.le_of_ble_eq_true rfl) (by rw [hRs]; exact Nat.le_of_ble_eq_true rfl) dD_init_7 (fun q7 H hP hD hS => ?_)
    have hP : va_P (gD G) vC [(qo, .inr (1, [.null])), (q7, aJ G 32 (fun _ => 0))] H := hP
    have hD : va_D A [(qo, .inr (1, [.null])), (q7, aJ G 32 (fun _ => 0))] := hD
    refine va_putF (D := gD G) (ci := 1) (v := .ref q7) (ty := tyD 0) (C := "CircuitProver$Diagram") (T := TD) (N := 1) hx hb htb inD tyD tyD_ok nmD hown hK hP hD hS 0 rfl rfl 0 (by decide) (htb _ b183) (fun _ h9 => h9) rfl hin rfl (tyD_ok 0 (by decide)) rfl rfl (Nat.le_of_ble_eq_true rfl) dD_init_9 (fun H locs hP hD hS => ?_)
    have hP : va_P (gD G) vC [(qo, .inr (1, [.ref q7])), (q7, aJ G 32 (fun _ => 0))] H := hP
    have hD : va_D A [(qo, .inr (1, [.ref q7])), (q7, aJ G 32 (fun _ => 0))] := hD
    -- end 0
    rw [← hQ]
    exact k_vret hx hb hr hlocks (u := q7) (trivial) hP hD hK hS dD_init_12
  rw [hH, hlc] at hgo
  exact hgo
set_option maxRecDepth 100000 in
set_option maxHeartbeats 4000000 in
theorem k_M_init (l : Launch) (G : GG) (sz : Nat) (qo : Nat) : Kv l yM_init cM_init 1 1 12 11 2434 G [.ref qo] [(qo, .inr (6, [.int (nI 0), .int (nI 0), .null, .int (nI 0), .null, .null, .null, .null, .null, .null, .int (zB false), .null, .int (nI 0), .int (nI 0), .int (nI 0), .null, .null, .null, .int (nI 0), .int (nI 0)]))] sz (fun (_ : Nat × Nat × Nat × Nat × Nat × Nat × Nat × Nat × Nat × Nat × Nat) => True) (fun (u : Nat × Nat × Nat × Nat × Nat × Nat × Nat × Nat × Nat × Nat × Nat) => [(qo, .inr (6, [.int (nI 0), .int (nI 0), .ref u.1, .int (nI 0), .ref u.2.1, .ref u.2.2.1, .ref u.2.2.2.1, .ref u.2.2.2.2.1, .ref u.2.2.2.2.2.1, .ref u.2.2.2.2.2.2.1, .int (zB false), .ref u.2.2.2.2.2.2.2.1, .int (nI 0), .int (nI 0), .int (nI 0), .ref u.2.2.2.2.2.2.2.2.1, .ref u.2.2.2.2.2.2.2.2.2.1, .ref u.2.2.2.2.2.2.2.2.2.2, .int (nI 0), .int (nI 0)])), (u.1, aI G 400 (fun _ => 0)), (u.2.1, aI G 5 (fun _ => 0)), (u.2.2.1, aI G 100 (fun _ => 0)), (u.2.2.2.1, aI G 300 (fun _ => 0)), (u.2.2.2.2.1, aI G 100 (fun _ => 0)), (u.2.2.2.2.2.1, aI G 300 (fun _ => 0)), (u.2.2.2.2.2.2.1, aZ G 100 (fun _ => false)), (u.2.2.2.2.2.2.2.1, aI G 5 (fun _ => 0)), (u.2.2.2.2.2.2.2.2.1, aI G 512 (fun _ => 0)), (u.2.2.2.2.2.2.2.2.2.1, aZ G 512 (fun _ => false)), (u.2.2.2.2.2.2.2.2.2.2, aZ G 100 (fun _ => false))]) := by
  refine Met.ofW (cc := cM_init) (maxL := 1) (ret := none) (by decide) rfl ?_
  intro p e s m args below meth c s₁ B hml hv
  obtain ⟨hav, hsz, hP, hK, hD0, hE⟩ := hv
  have hx := B.exec
  have hb := B.bytes
  have hr := B.returns
  have htb : ∀ w ∈ TB, w.before args s = true := fun w h => atoms_spec (ws := Cond.code yM_init cM_init 1 none :: TB) B.pre w (List.mem_cons_of_mem _ h)
  have hown : s.vm.findClass "CircuitProverModel" = some m.cls := findClass_of_methodNamed B.named
  have hlocks := B.notSynchronized
  have hin : meth.name = "<init>" := (name_of_methodNamed B.named B.method).1
  subst hsz
  have hD := hD0.self (sz := s.heap.size)
  clear hD0
  generalize hRm : (headSpec (Cond.code yM_init cM_init 1 none :: TB) { frames := 1, cells := 11, slots := 2434, locals := 12 }).room = R
  have hRf : R.frames = 1 := by rw [← hRm]; rfl
  have hRl : R.locals = 12 := by rw [← hRm]; rfl
  have hRc : R.cells = 11 := by rw [← hRm]; rfl
  have hRs : R.slots = 2434 := by rw [← hRm]; rfl
  clear hRm
  generalize hAe : va_A [(qo, .inr (6, [.int (nI 0), .int (nI 0), .null, .int (nI 0), .null, .null, .null, .null, .null, .null, .int (zB false), .null, .int (nI 0), .int (nI 0), .int (nI 0), .null, .null, .null, .int (nI 0), .int (nI 0)]))] s.heap.size = A at hD hE ⊢
  have hA : ∀ q : Nat, s.heap.size ≤ q → A q := fun q h => by rw [← hAe]; exact Or.inr h
  clear hAe
  have hS : va_S A s.heap s.heap [] := va_S.rf
  have hl := lv_entry ([.ref qo]) (n := 1) (Nat.le_of_ble_eq_true rfl)
  have hent := lg_entry_eq m ([.ref qo]) 1
  rw [← hav] at hent
  rw [hent]
  clear hent hav
  generalize (lg_sl ([.ref qo]) ++ List.replicate (1 - (lg_sl ([.ref qo])).length) Slot.unset).toArray = ls at hl ⊢
  have hl : lv_has ls 1 [(0, .ref qo)] := hl
  generalize hQ : MQ below _ args s 11 2434 _ = Q
  have hP : va_P (gD G) vC [(qo, .inr (6, [.int (nI 0), .int (nI 0), .null, .int (nI 0), .null, .null, .null, .null, .null, .null, .int (zB false), .null, .int (nI 0), .int (nI 0), .int (nI 0), .null, .null, .null, .int (nI 0), .int (nI 0)]))] s.heap := hP
  obtain ⟨H, hH⟩ : ∃ H : Heap, H = s.heap := ⟨_, rfl⟩
  obtain ⟨locs, hlc⟩ : ∃ L : List Loc, L = [] := ⟨_, rfl⟩
  have hS : va_S A s.heap H locs := by rw [hH, hlc]; exact hS
  have hP : va_P (gD G) vC [(qo, .inr (6, [.int (nI 0), .int (nI 0), .null, .int (nI 0), .null, .null, .null, .null, .null, .null, .int (zB false), .null, .int (nI 0), .int (nI 0), .int (nI 0), .null, .null, .null, .int (nI 0), .int (nI 0)]))] H := by rw [hH]; exact hP
  have hgo : W p l e R s m args below meth c H locs 0 0 Q (F0 m 0 ls []) := by
    clear hH hlc
    refine lv_aload_n hx hb dM_init_0 rfl (lv_at hl 0 rfl) ?_
    refine W.objInit hx hb hown (htb _ b670) (htb _ b24) (htb _ b25) rfl (by rw [hml]; exact hl.1) rfl dM_init_1 (by rw [hRf]; exact Nat.le_of_ble_eq_true rfl) (by rw [hRl]; exact Nat.le_of_ble_eq_true rfl) ?_
    refine W.eq (g2 := F0 m 4 ls []) rfl ?_
    refine lv_aload_n hx hb dM_init_4 rfl (lv_at hl 0 rfl) ?_
    refine lv_sipush (v := nI 400) hx hb dM_init_5 (by decide) ?_
    refine k_newI (n := 400) hx hb (htb _ b48) hK hP hD hS hA (by decide) (by rw [hRc]; exact Nat.le_of_ble_eq_true rfl) (by rw [hRs]; exact Nat.le_of_ble_eq_true rfl) dM_init_8 (fun q8 H hP hD hS => ?_)
    have hP : va_P (gD G) vC [(qo, .inr (6, [.int (nI 0), .int (nI 0), .null, .int (nI 0), .null, .null, .null, .null, .null, .null, .int (zB false), .null, .int (nI 0), .int (nI 0), .int (nI 0), .null, .null, .null, .int (nI 0), .int (nI 0)])), (q8, aI G 400 (fun _ => 0))] H := hP
    have hD : va_D A [(qo, .inr (6, [.int (nI 0), .int (nI 0), .null, .int (nI 0), .null, .null, .null, .null, .null, .null, .int (zB false), .null, .int (nI 0), .int (nI 0), .int (nI 0), .null, .null, .null, .int (nI 0), .int (nI 0)])), (q8, aI G 400 (fun _ => 0))] := hD
    refine va_put (D := gD G) (ci := 6) (v := .ref q8) (ty := tyM 2) (C := "CircuitProverModel") (T := TM) (N := 20) hx hb htb inM tyM tyM_ok nmM hown hK hP hD hS 0 rfl rfl 2 (by decide) (htb _ b673) (fun _ h9 => h9) rfl (tyM_ok 2 (by decide)) rfl rfl (Nat.le_of_ble_eq_true rfl) dM_init_10 (fun H locs hP hD hS => ?_)
    have hP : va_P (gD G) vC [(qo, .inr (6, [.int (nI 0), .int (nI 0), .ref q8, .int (nI 0), .null, .null, .null, .null, .null, .null, .int (zB false), .null, .int (nI 0), .int (nI 0), .int (nI 0), .null, .null, .null, .int (nI 0), .int (nI 0)])), (q8, aI G 400 (fun _ => 0))] H := hP
    have hD : va_D A [(qo, .inr (6, [.int (nI 0), .int (nI 0), .ref q8, .int (nI 0), .null, .null, .null, .null, .null, .null, .int (zB false), .null, .int (nI 0), .int (nI 0), .int (nI 0), .null, .null, .null, .int (nI 0), .int (nI 0)])), (q8, aI G 400 (fun _ => 0))] := hD
    refine lv_aload_n hx hb dM_init_13 rfl (lv_at hl 0 rfl) ?_
    refine lv_iconst (v := nI 5) hx hb dM_init_14 (by decide) ?_
    refine k_newI (n := 5) hx hb (htb _ b48) hK hP hD hS hA (by decide) (by rw [hRc]; exact Nat.le_of_ble_eq_true rfl) (by rw [hRs]; exact Nat.le_of_ble_eq_true rfl) dM_init_15 (fun q15 H hP hD hS => ?_)
    have hP : va_P (gD G) vC [(qo, .inr (6, [.int (nI 0), .int (nI 0), .ref q8, .int (nI 0), .null, .null, .null, .null, .null, .null, .int (zB false), .null, .int (nI 0), .int (nI 0), .int (nI 0), .null, .null, .null, .int (nI 0), .int (nI 0)])), (q8, aI G 400 (fun _ => 0)), (q15, aI G 5 (fun _ => 0))] H := hP
    have hD : va_D A [(qo, .inr (6, [.int (nI 0), .int (nI 0), .ref q8, .int (nI 0), .null, .null, .null, .null, .null, .null, .int (zB false), .null, .int (nI 0), .int (nI 0), .int (nI 0), .null, .null, .null, .int (nI 0), .int (nI 0)])), (q8, aI G 400 (fun _ => 0)), (q15, aI G 5 (fun _ => 0))] := hD
    refine va_put (D := gD G) (ci := 6) (v := .ref q15) (ty := tyM 4) (C := "CircuitProverModel") (T := TM) (N := 20) hx hb htb inM tyM tyM_ok nmM hown hK hP hD hS 0 rfl rfl 4 (by decide) (htb _ b675) (fun _ h9 => h9) rfl (tyM_ok 4 (by decide)) rfl rfl (Nat.le_of_ble_eq_true rfl) dM_init_17 (fun H locs hP hD hS => ?_)
    have hP : va_P (gD G) vC [(qo, .inr (6, [.int (nI 0), .int (nI 0), .ref q8, .int (nI 0), .ref q15, .null, .null, .null, .null, .null, .int (zB false), .null, .int (nI 0), .int (nI 0), .int (nI 0), .null, .null, .null, .int (nI 0), .int (nI 0)])), (q8, aI G 400 (fun _ => 0)), (q15, aI G 5 (fun _ => 0))] H := hP
    have hD : va_D A [(qo, .inr (6, [.int (nI 0), .int (nI 0), .ref q8, .int (nI 0), .ref q15, .null, .null, .null, .null, .null, .int (zB false), .null, .int (nI 0), .int (nI 0), .int (nI 0), .null, .null, .null, .int (nI 0), .int (nI 0)])), (q8, aI G 400 (fun _ => 0)), (q15, aI G 5 (fun _ => 0))] := hD
    refine lv_aload_n hx hb dM_init_20 rfl (lv_at hl 0 rfl) ?_
    refine lv_bipush (v := nI 100) hx hb dM_init_21 (by decide) ?_
    refine k_newI (n := 100) hx hb (htb _ b48) hK hP hD hS hA (by decide) (by rw [hRc]; exact Nat.le_of_ble_eq_true rfl) (by rw [hRs]; exact Nat.le_of_ble_eq_true rfl) dM_init_23 (fun q23 H hP hD hS => ?_)
    have hP : va_P (gD G) vC [(qo, .inr (6, [.int (nI 0), .int (nI 0), .ref q8, .int (nI 0), .ref q15, .null, .null, .null, .null, .null, .int (zB false), .null, .int (nI 0), .int (nI 0), .int (nI 0), .null, .null, .null, .int (nI 0), .int (nI 0)])), (q8, aI G 400 (fun _ => 0)), (q15, aI G 5 (fun _ => 0)), (q23, aI G 100 (fun _ => 0))] H := hP
    have hD : va_D A [(qo, .inr (6, [.int (nI 0), .int (nI 0), .ref q8, .int (nI 0), .ref q15, .null, .null, .null, .null, .null, .int (zB false), .null, .int (nI 0), .int (nI 0), .int (nI 0), .null, .null, .null, .int (nI 0), .int (nI 0)])), (q8, aI G 400 (fun _ => 0)), (q15, aI G 5 (fun _ => 0)), (q23, aI G 100 (fun _ => 0))] := hD
    refine va_put (D := gD G) (ci := 6) (v := .ref q23) (ty := tyM 5) (C := "CircuitProverModel") (T := TM) (N := 20) hx hb htb inM tyM tyM_ok nmM hown hK hP hD hS 0 rfl rfl 5 (by decide) (htb _ b676) (fun _ h9 => h9) rfl (tyM_ok 5 (by decide)) rfl rfl (Nat.le_of_ble_eq_true rfl) dM_init_25 (fun H locs hP hD hS => ?_)
    have hP : va_P (gD G) vC [(qo, .inr (6, [.int (nI 0), .int (nI 0), .ref q8, .int (nI 0), .ref q15, .ref q23, .null, .null, .null, .null, .int (zB false), .null, .int (nI 0), .int (nI 0), .int (nI 0), .null, .null, .null, .int (nI 0), .int (nI 0)])), (q8, aI G 400 (fun _ => 0)), (q15, aI G 5 (fun _ => 0)), (q23, aI G 100 (fun _ => 0))] H := hP
    have hD : va_D A [(qo, .inr (6, [.int (nI 0), .int (nI 0), .ref q8, .int (nI 0), .ref q15, .ref q23, .null, .null, .null, .null, .int (zB false), .null, .int (nI 0), .int (nI 0), .int (nI 0), .null, .null, .null, .int (nI 0), .int (nI 0)])), (q8, aI G 400 (fun _ => 0)), (q15, aI G 5 (fun _ => 0)), (q23, aI G 100 (fun _ => 0))] := hD
    refine lv_aload_n hx hb dM_init_28 rfl (lv_at hl 0 rfl) ?_
    refine lv_sipush (v := nI 300) hx hb dM_init_29 (by decide) ?_
    refine k_newI (n := 300) hx hb (htb _ b48) hK hP hD hS hA (by decide) (by rw [hRc]; exact Nat.le_of_ble_eq_true rfl) (by rw [hRs]; exact Nat.le_of_ble_eq_true rfl) dM_init_32 (fun q32 H hP hD hS => ?_)
    have hP : va_P (gD G) vC [(qo, .inr (6, [.int (nI 0), .int (nI 0), .ref q8, .int (nI 0), .ref q15, .ref q23, .null, .null, .null, .null, .int (zB false), .null, .int (nI 0), .int (nI 0), .int (nI 0), .null, .null, .null, .int (nI 0), .int (nI 0)])), (q8, aI G 400 (fun _ => 0)), (q15, aI G 5 (fun _ => 0)), (q23, aI G 100 (fun _ => 0)), (q32, aI G 300 (fun _ => 0))] H := hP
    have hD : va_D A [(qo, .inr (6, [.int (nI 0), .int (nI 0), .ref q8, .int (nI 0), .ref q15, .ref q23, .null, .null, .null, .null, .int (zB false), .null, .int (nI 0), .int (nI 0), .int (nI 0), .null, .null, .null, .int (nI 0), .int (nI 0)])), (q8, aI G 400 (fun _ => 0)), (q15, aI G 5 (fun _ => 0)), (q23, aI G 100 (fun _ => 0)), (q32, aI G 300 (fun _ => 0))] := hD
    refine va_put (D := gD G) (ci := 6) (v := .ref q32) (ty := tyM 6) (C := "CircuitProverModel") (T := TM) (N := 20) hx hb htb inM tyM tyM_ok nmM hown hK hP hD hS 0 rfl rfl 6 (by decide) (htb _ b677) (fun _ h9 => h9) rfl (tyM_ok 6 (by decide)) rfl rfl (Nat.le_of_ble_eq_true rfl) dM_init_34 (fun H locs hP hD hS => ?_)
    have hP : va_P (gD G) vC [(qo, .inr (6, [.int (nI 0), .int (nI 0), .ref q8, .int (nI 0), .ref q15, .ref q23, .ref q32, .null, .null, .null, .int (zB false), .null, .int (nI 0), .int (nI 0), .int (nI 0), .null, .null, .null, .int (nI 0), .int (nI 0)])), (q8, aI G 400 (fun _ => 0)), (q15, aI G 5 (fun _ => 0)), (q23, aI G 100 (fun _ => 0)), (q32, aI G 300 (fun _ => 0))] H := hP
    have hD : va_D A [(qo, .inr (6, [.int (nI 0), .int (nI 0), .ref q8, .int (nI 0), .ref q15, .ref q23, .ref q32, .null, .null, .null, .int (zB false), .null, .int (nI 0), .int (nI 0), .int (nI 0), .null, .null, .null, .int (nI 0), .int (nI 0)])), (q8, aI G 400 (fun _ => 0)), (q15, aI G 5 (fun _ => 0)), (q23, aI G 100 (fun _ => 0)), (q32, aI G 300 (fun _ => 0))] := hD
    refine lv_aload_n hx hb dM_init_37 rfl (lv_at hl 0 rfl) ?_
    refine lv_bipush (v := nI 100) hx hb dM_init_38 (by decide) ?_
    refine k_newI (n := 100) hx hb (htb _ b48) hK hP hD hS hA (by decide) (by rw [hRc]; exact Nat.le_of_ble_eq_true rfl) (by rw [hRs]; exact Nat.le_of_ble_eq_true rfl) dM_init_40 (fun q40 H hP hD hS => ?_)
    have hP : va_P (gD G) vC [(qo, .inr (6, [.int (nI 0), .int (nI 0), .ref q8, .int (nI 0), .ref q15, .ref q23, .ref q32, .null, .null, .null, .int (zB false), .null, .int (nI 0), .int (nI 0), .int (nI 0), .null, .null, .null, .int (nI 0), .int (nI 0)])), (q8, aI G 400 (fun _ => 0)), (q15, aI G 5 (fun _ => 0)), (q23, aI G 100 (fun _ => 0)), (q32, aI G 300 (fun _ => 0)), (q40, aI G 100 (fun _ => 0))] H := hP
    have hD : va_D A [(qo, .inr (6, [.int (nI 0), .int (nI 0), .ref q8, .int (nI 0), .ref q15, .ref q23, .ref q32, .null, .null, .null, .int (zB false), .null, .int (nI 0), .int (nI 0), .int (nI 0), .null, .null, .null, .int (nI 0), .int (nI 0)])), (q8, aI G 400 (fun _ => 0)), (q15, aI G 5 (fun _ => 0)), (q23, aI G 100 (fun _ => 0)), (q32, aI G 300 (fun _ => 0)), (q40, aI G 100 (fun _ => 0))] := hD
    refine va_put (D := gD G) (ci := 6) (v := .ref q40) (ty := tyM 7) (C := "CircuitProverModel") (T := TM) (N := 20) hx hb htb inM tyM tyM_ok nmM hown hK hP hD hS 0 rfl rfl 7 (by decide) (htb _ b678) (fun _ h9 => h9) rfl (tyM_ok 7 (by decide)) rfl rfl (Nat.le_of_ble_eq_true rfl) dM_init_42 (fun H locs hP hD hS => ?_)
    have hP : va_P (gD G) vC [(qo, .inr (6, [.int (nI 0), .int (nI 0), .ref q8, .int (nI 0), .ref q15, .ref q23, .ref q32, .ref q40, .null, .null, .int (zB false), .null, .int (nI 0), .int (nI 0), .int (nI 0), .null, .null, .null, .int (nI 0), .int (nI 0)])), (q8, aI G 400 (fun _ => 0)), (q15, aI G 5 (fun _ => 0)), (q23, aI G 100 (fun _ => 0)), (q32, aI G 300 (fun _ => 0)), (q40, aI G 100 (fun _ => 0))] H := hP
    have hD : va_D A [(qo, .inr (6, [.int (nI 0), .int (nI 0), .ref q8, .int (nI 0), .ref q15, .ref q23, .ref q32, .ref q40, .null, .null, .int (zB false), .null, .int (nI 0), .int (nI 0), .int (nI 0), .null, .null, .null, .int (nI 0), .int (nI 0)])), (q8, aI G 400 (fun _ => 0)), (q15, aI G 5 (fun _ => 0)), (q23, aI G 100 (fun _ => 0)), (q32, aI G 300 (fun _ => 0)), (q40, aI G 100 (fun _ => 0))] := hD
    refine lv_aload_n hx hb dM_init_45 rfl (lv_at hl 0 rfl) ?_
    refine lv_sipush (v := nI 300) hx hb dM_init_46 (by decide) ?_
    refine k_newI (n := 300) hx hb (htb _ b48) hK hP hD hS hA (by decide) (by rw [hRc]; exact Nat.le_of_ble_eq_true rfl) (by rw [hRs]; exact Nat.le_of_ble_eq_true rfl) dM_init_49 (fun q49 H hP hD hS => ?_)
    have hP : va_P (gD G) vC [(qo, .inr (6, [.int (nI 0), .int (nI 0), .ref q8, .int (nI 0), .ref q15, .ref q23, .ref q32, .ref q40, .null, .null, .int (zB false), .null, .int (nI 0), .int (nI 0), .int (nI 0), .null, .null, .null, .int (nI 0), .int (nI 0)])), (q8, aI G 400 (fun _ => 0)), (q15, aI G 5 (fun _ => 0)), (q23, aI G 100 (fun _ => 0)), (q32, aI G 300 (fun _ => 0)), (q40, aI G 100 (fun _ => 0)), (q49, aI G 300 (fun _ => 0))] H := hP
    have hD : va_D A [(qo, .inr (6, [.int (nI 0), .int (nI 0), .ref q8, .int (nI 0), .ref q15, .ref q23, .ref q32, .ref q40, .null, .null, .int (zB false), .null, .int (nI 0), .int (nI 0), .int (nI 0), .null, .null, .null, .int (nI 0), .int (nI 0)])), (q8, aI G 400 (fun _ => 0)), (q15, aI G 5 (fun _ => 0)), (q23, aI G 100 (fun _ => 0)), (q32, aI G 300 (fun _ => 0)), (q40, aI G 100 (fun _ => 0)), (q49, aI G 300 (fun _ => 0))] := hD
    refine va_put (D := gD G) (ci := 6) (v := .ref q49) (ty := tyM 8) (C := "CircuitProverModel") (T := TM) (N := 20) hx hb htb inM tyM tyM_ok nmM hown hK hP hD hS 0 rfl rfl 8 (by decide) (htb _ b679) (fun _ h9 => h9) rfl (tyM_ok 8 (by decide)) rfl rfl (Nat.le_of_ble_eq_true rfl) dM_init_51 (fun H locs hP hD hS => ?_)
    have hP : va_P (gD G) vC [(qo, .inr (6, [.int (nI 0), .int (nI 0), .ref q8, .int (nI 0), .ref q15, .ref q23, .ref q32, .ref q40, .ref q49, .null, .int (zB false), .null, .int (nI 0), .int (nI 0), .int (nI 0), .null, .null, .null, .int (nI 0), .int (nI 0)])), (q8, aI G 400 (fun _ => 0)), (q15, aI G 5 (fun _ => 0)), (q23, aI G 100 (fun _ => 0)), (q32, aI G 300 (fun _ => 0)), (q40, aI G 100 (fun _ => 0)), (q49, aI G 300 (fun _ => 0))] H := hP
    have hD : va_D A [(qo, .inr (6, [.int (nI 0), .int (nI 0), .ref q8, .int (nI 0), .ref q15, .ref q23, .ref q32, .ref q40, .ref q49, .null, .int (zB false), .null, .int (nI 0), .int (nI 0), .int (nI 0), .null, .null, .null, .int (nI 0), .int (nI 0)])), (q8, aI G 400 (fun _ => 0)), (q15, aI G 5 (fun _ => 0)), (q23, aI G 100 (fun _ => 0)), (q32, aI G 300 (fun _ => 0)), (q40, aI G 100 (fun _ => 0)), (q49, aI G 300 (fun _ => 0))] := hD
    refine lv_aload_n hx hb dM_init_54 rfl (lv_at hl 0 rfl) ?_
    refine lv_bipush (v := nI 100) hx hb dM_init_55 (by decide) ?_
    refine k_newZ (n := 100) hx hb (htb _ b96) hK hP hD hS hA (by decide) (by rw [hRc]; exact Nat.le_of_ble_eq_true rfl) (by rw [hRs]; exact Nat.le_of_ble_eq_true rfl) dM_init_57 (fun q57 H hP hD hS => ?_)
    have hP : va_P (gD G) vC [(qo, .inr (6, [.int (nI 0), .int (nI 0), .ref q8, .int (nI 0), .ref q15, .ref q23, .ref q32, .ref q40, .ref q49, .null, .int (zB false), .null, .int (nI 0), .int (nI 0), .int (nI 0), .null, .null, .null, .int (nI 0), .int (nI 0)])), (q8, aI G 400 (fun _ => 0)), (q15, aI G 5 (fun _ => 0)), (q23, aI G 100 (fun _ => 0)), (q32, aI G 300 (fun _ => 0)), (q40, aI G 100 (fun _ => 0)), (q49, aI G 300 (fun _ => 0)), (q57, aZ G 100 (fun _ => false))] H := hP
    have hD : va_D A [(qo, .inr (6, [.int (nI 0), .int (nI 0), .ref q8, .int (nI 0), .ref q15, .ref q23, .ref q32, .ref q40, .ref q49, .null, .int (zB false), .null, .int (nI 0), .int (nI 0), .int (nI 0), .null, .null, .null, .int (nI 0), .int (nI 0)])), (q8, aI G 400 (fun _ => 0)), (q15, aI G 5 (fun _ => 0)), (q23, aI G 100 (fun _ => 0)), (q32, aI G 300 (fun _ => 0)), (q40, aI G 100 (fun _ => 0)), (q49, aI G 300 (fun _ => 0)), (q57, aZ G 100 (fun _ => false))] := hD
    refine va_put (D := gD G) (ci := 6) (v := .ref q57) (ty := tyM 9) (C := "CircuitProverModel") (T := TM) (N := 20) hx hb htb inM tyM tyM_ok nmM hown hK hP hD hS 0 rfl rfl 9 (by decide) (htb _ b680) (fun _ h9 => h9) rfl (tyM_ok 9 (by decide)) rfl rfl (Nat.le_of_ble_eq_true rfl) dM_init_59 (fun H locs hP hD hS => ?_)
    have hP : va_P (gD G) vC [(qo, .inr (6, [.int (nI 0), .int (nI 0), .ref q8, .int (nI 0), .ref q15, .ref q23, .ref q32, .ref q40, .ref q49, .ref q57, .int (zB false), .null, .int (nI 0), .int (nI 0), .int (nI 0), .null, .null, .null, .int (nI 0), .int (nI 0)])), (q8, aI G 400 (fun _ => 0)), (q15, aI G 5 (fun _ => 0)), (q23, aI G 100 (fun _ => 0)), (q32, aI G 300 (fun _ => 0)), (q40, aI G 100 (fun _ => 0)), (q49, aI G 300 (fun _ => 0)), (q57, aZ G 100 (fun _ => false))] H := hP
    have hD : va_D A [(qo, .inr (6, [.int (nI 0), .int (nI 0), .ref q8, .int (nI 0), .ref q15, .ref q23, .ref q32, .ref q40, .ref q49, .ref q57, .int (zB false), .null, .int (nI 0), .int (nI 0), .int (nI 0), .null, .null, .null, .int (nI 0), .int (nI 0)])), (q8, aI G 400 (fun _ => 0)), (q15, aI G 5 (fun _ => 0)), (q23, aI G 100 (fun _ => 0)), (q32, aI G 300 (fun _ => 0)), (q40, aI G 100 (fun _ => 0)), (q49, aI G 300 (fun _ => 0)), (q57, aZ G 100 (fun _ => false))] := hD
    refine lv_aload_n hx hb dM_init_62 rfl (lv_at hl 0 rfl) ?_
    refine lv_iconst (v := nI 5) hx hb dM_init_63 (by decide) ?_
    refine k_newI (n := 5) hx hb (htb _ b48) hK hP hD hS hA (by decide) (by rw [hRc]; exact Nat.le_of_ble_eq_true rfl) (by rw [hRs]; exact Nat.le_of_ble_eq_true rfl) dM_init_64 (fun q64 H hP hD hS => ?_)
    have hP : va_P (gD G) vC [(qo, .inr (6, [.int (nI 0), .int (nI 0), .ref q8, .int (nI 0), .ref q15, .ref q23, .ref q32, .ref q40, .ref q49, .ref q57, .int (zB false), .null, .int (nI 0), .int (nI 0), .int (nI 0), .null, .null, .null, .int (nI 0), .int (nI 0)])), (q8, aI G 400 (fun _ => 0)), (q15, aI G 5 (fun _ => 0)), (q23, aI G 100 (fun _ => 0)), (q32, aI G 300 (fun _ => 0)), (q40, aI G 100 (fun _ => 0)), (q49, aI G 300 (fun _ => 0)), (q57, aZ G 100 (fun _ => false)), (q64, aI G 5 (fun _ => 0))] H := hP
    have hD : va_D A [(qo, .inr (6, [.int (nI 0), .int (nI 0), .ref q8, .int (nI 0), .ref q15, .ref q23, .ref q32, .ref q40, .ref q49, .ref q57, .int (zB false), .null, .int (nI 0), .int (nI 0), .int (nI 0), .null, .null, .null, .int (nI 0), .int (nI 0)])), (q8, aI G 400 (fun _ => 0)), (q15, aI G 5 (fun _ => 0)), (q23, aI G 100 (fun _ => 0)), (q32, aI G 300 (fun _ => 0)), (q40, aI G 100 (fun _ => 0)), (q49, aI G 300 (fun _ => 0)), (q57, aZ G 100 (fun _ => false)), (q64, aI G 5 (fun _ => 0))] := hD
    refine va_put (D := gD G) (ci := 6) (v := .ref q64) (ty := tyM 11) (C := "CircuitProverModel") (T := TM) (N := 20) hx hb htb inM tyM tyM_ok nmM hown hK hP hD hS 0 rfl rfl 11 (by decide) (htb _ b682) (fun _ h9 => h9) rfl (tyM_ok 11 (by decide)) rfl rfl (Nat.le_of_ble_eq_true rfl) dM_init_66 (fun H locs hP hD hS => ?_)
    have hP : va_P (gD G) vC [(qo, .inr (6, [.int (nI 0), .int (nI 0), .ref q8, .int (nI 0), .ref q15, .ref q23, .ref q32, .ref q40, .ref q49, .ref q57, .int (zB false), .ref q64, .int (nI 0), .int (nI 0), .int (nI 0), .null, .null, .null, .int (nI 0), .int (nI 0)])), (q8, aI G 400 (fun _ => 0)), (q15, aI G 5 (fun _ => 0)), (q23, aI G 100 (fun _ => 0)), (q32, aI G 300 (fun _ => 0)), (q40, aI G 100 (fun _ => 0)), (q49, aI G 300 (fun _ => 0)), (q57, aZ G 100 (fun _ => false)), (q64, aI G 5 (fun _ => 0))] H := hP
    have hD : va_D A [(qo, .inr (6, [.int (nI 0), .int (nI 0), .ref q8, .int (nI 0), .ref q15, .ref q23, .ref q32, .ref q40, .ref q49, .ref q57, .int (zB false), .ref q64, .int (nI 0), .int (nI 0), .int (nI 0), .null, .null, .null, .int (nI 0), .int (nI 0)])), (q8, aI G 400 (fun _ => 0)), (q15, aI G 5 (fun _ => 0)), (q23, aI G 100 (fun _ => 0)), (q32, aI G 300 (fun _ => 0)), (q40, aI G 100 (fun _ => 0)), (q49, aI G 300 (fun _ => 0)), (q57, aZ G 100 (fun _ => false)), (q64, aI G 5 (fun _ => 0))] := hD
    refine lv_aload_n hx hb dM_init_69 rfl (lv_at hl 0 rfl) ?_
    refine lv_sipush (v := nI 512) hx hb dM_init_70 (by decide) ?_
    refine k_newI (n := 512) hx hb (htb _ b48) hK hP hD hS hA (by decide) (by rw [hRc]; exact Nat.le_of_ble_eq_true rfl) (by rw [hRs]; exact Nat.le_of_ble_eq_true rfl) dM_init_73 (fun q73 H hP hD hS => ?_)
    have hP : va_P (gD G) vC [(qo, .inr (6, [.int (nI 0), .int (nI 0), .ref q8, .int (nI 0), .ref q15, .ref q23, .ref q32, .ref q40, .ref q49, .ref q57, .int (zB false), .ref q64, .int (nI 0), .int (nI 0), .int (nI 0), .null, .null, .null, .int (nI 0), .int (nI 0)])), (q8, aI G 400 (fun _ => 0)), (q15, aI G 5 (fun _ => 0)), (q23, aI G 100 (fun _ => 0)), (q32, aI G 300 (fun _ => 0)), (q40, aI G 100 (fun _ => 0)), (q49, aI G 300 (fun _ => 0)), (q57, aZ G 100 (fun _ => false)), (q64, aI G 5 (fun _ => 0)), (q73, aI G 512 (fun _ => 0))] H := hP
    have hD : va_D A [(qo, .inr (6, [.int (nI 0), .int (nI 0), .ref q8, .int (nI 0), .ref q15, .ref q23, .ref q32, .ref q40, .ref q49, .ref q57, .int (zB false), .ref q64, .int (nI 0), .int (nI 0), .int (nI 0), .null, .null, .null, .int (nI 0), .int (nI 0)])), (q8, aI G 400 (fun _ => 0)), (q15, aI G 5 (fun _ => 0)), (q23, aI G 100 (fun _ => 0)), (q32, aI G 300 (fun _ => 0)), (q40, aI G 100 (fun _ => 0)), (q49, aI G 300 (fun _ => 0)), (q57, aZ G 100 (fun _ => false)), (q64, aI G 5 (fun _ => 0)), (q73, aI G 512 (fun _ => 0))] := hD
    refine va_put (D := gD G) (ci := 6) (v := .ref q73) (ty := tyM 15) (C := "CircuitProverModel") (T := TM) (N := 20) hx hb htb inM tyM tyM_ok nmM hown hK hP hD hS 0 rfl rfl 15 (by decide) (htb _ b686) (fun _ h9 => h9) rfl (tyM_ok 15 (by decide)) rfl rfl (Nat.le_of_ble_eq_true rfl) dM_init_75 (fun H locs hP hD hS => ?_)
    have hP : va_P (gD G) vC [(qo, .inr (6, [.int (nI 0), .int (nI 0), .ref q8, .int (nI 0), .ref q15, .ref q23, .ref q32, .ref q40, .ref q49, .ref q57, .int (zB false), .ref q64, .int (nI 0), .int (nI 0), .int (nI 0), .ref q73, .null, .null, .int (nI 0), .int (nI 0)])), (q8, aI G 400 (fun _ => 0)), (q15, aI G 5 (fun _ => 0)), (q23, aI G 100 (fun _ => 0)), (q32, aI G 300 (fun _ => 0)), (q40, aI G 100 (fun _ => 0)), (q49, aI G 300 (fun _ => 0)), (q57, aZ G 100 (fun _ => false)), (q64, aI G 5 (fun _ => 0)), (q73, aI G 512 (fun _ => 0))] H := hP
    have hD : va_D A [(qo, .inr (6, [.int (nI 0), .int (nI 0), .ref q8, .int (nI 0), .ref q15, .ref q23, .ref q32, .ref q40, .ref q49, .ref q57, .int (zB false), .ref q64, .int (nI 0), .int (nI 0), .int (nI 0), .ref q73, .null, .null, .int (nI 0), .int (nI 0)])), (q8, aI G 400 (fun _ => 0)), (q15, aI G 5 (fun _ => 0)), (q23, aI G 100 (fun _ => 0)), (q32, aI G 300 (fun _ => 0)), (q40, aI G 100 (fun _ => 0)), (q49, aI G 300 (fun _ => 0)), (q57, aZ G 100 (fun _ => false)), (q64, aI G 5 (fun _ => 0)), (q73, aI G 512 (fun _ => 0))] := hD
    refine lv_aload_n hx hb dM_init_78 rfl (lv_at hl 0 rfl) ?_
    refine lv_sipush (v := nI 512) hx hb dM_init_79 (by decide) ?_
    refine k_newZ (n := 512) hx hb (htb _ b96) hK hP hD hS hA (by decide) (by rw [hRc]; exact Nat.le_of_ble_eq_true rfl) (by rw [hRs]; exact Nat.le_of_ble_eq_true rfl) dM_init_82 (fun q82 H hP hD hS => ?_)
    have hP : va_P (gD G) vC [(qo, .inr (6, [.int (nI 0), .int (nI 0), .ref q8, .int (nI 0), .ref q15, .ref q23, .ref q32, .ref q40, .ref q49, .ref q57, .int (zB false), .ref q64, .int (nI 0), .int (nI 0), .int (nI 0), .ref q73, .null, .null, .int (nI 0), .int (nI 0)])), (q8, aI G 400 (fun _ => 0)), (q15, aI G 5 (fun _ => 0)), (q23, aI G 100 (fun _ => 0)), (q32, aI G 300 (fun _ => 0)), (q40, aI G 100 (fun _ => 0)), (q49, aI G 300 (fun _ => 0)), (q57, aZ G 100 (fun _ => false)), (q64, aI G 5 (fun _ => 0)), (q73, aI G 512 (fun _ => 0)), (q82, aZ G 512 (fun _ => false))] H := hP
    have hD : va_D A [(qo, .inr (6, [.int (nI 0), .int (nI 0), .ref q8, .int (nI 0), .ref q15, .ref q23, .ref q32, .ref q40, .ref q49, .ref q57, .int (zB false), .ref q64, .int (nI 0), .int (nI 0), .int (nI 0), .ref q73, .null, .null, .int (nI 0), .int (nI 0)])), (q8, aI G 400 (fun _ => 0)), (q15, aI G 5 (fun _ => 0)), (q23, aI G 100 (fun _ => 0)), (q32, aI G 300 (fun _ => 0)), (q40, aI G 100 (fun _ => 0)), (q49, aI G 300 (fun _ => 0)), (q57, aZ G 100 (fun _ => false)), (q64, aI G 5 (fun _ => 0)), (q73, aI G 512 (fun _ => 0)), (q82, aZ G 512 (fun _ => false))] := hD
    refine va_put (D := gD G) (ci := 6) (v := .ref q82) (ty := tyM 16) (C := "CircuitProverModel") (T := TM) (N := 20) hx hb htb inM tyM tyM_ok nmM hown hK hP hD hS 0 rfl rfl 16 (by decide) (htb _ b687) (fun _ h9 => h9) rfl (tyM_ok 16 (by decide)) rfl rfl (Nat.le_of_ble_eq_true rfl) dM_init_84 (fun H locs hP hD hS => ?_)
    have hP : va_P (gD G) vC [(qo, .inr (6, [.int (nI 0), .int (nI 0), .ref q8, .int (nI 0), .ref q15, .ref q23, .ref q32, .ref q40, .ref q49, .ref q57, .int (zB false), .ref q64, .int (nI 0), .int (nI 0), .int (nI 0), .ref q73, .ref q82, .null, .int (nI 0), .int (nI 0)])), (q8, aI G 400 (fun _ => 0)), (q15, aI G 5 (fun _ => 0)), (q23, aI G 100 (fun _ => 0)), (q32, aI G 300 (fun _ => 0)), (q40, aI G 100 (fun _ => 0)), (q49, aI G 300 (fun _ => 0)), (q57, aZ G 100 (fun _ => false)), (q64, aI G 5 (fun _ => 0)), (q73, aI G 512 (fun _ => 0)), (q82, aZ G 512 (fun _ => false))] H := hP
    have hD : va_D A [(qo, .inr (6, [.int (nI 0), .int (nI 0), .ref q8, .int (nI 0), .ref q15, .ref q23, .ref q32, .ref q40, .ref q49, .ref q57, .int (zB false), .ref q64, .int (nI 0), .int (nI 0), .int (nI 0), .ref q73, .ref q82, .null, .int (nI 0), .int (nI 0)])), (q8, aI G 400 (fun _ => 0)), (q15, aI G 5 (fun _ => 0)), (q23, aI G 100 (fun _ => 0)), (q32, aI G 300 (fun _ => 0)), (q40, aI G 100 (fun _ => 0)), (q49, aI G 300 (fun _ => 0)), (q57, aZ G 100 (fun _ => false)), (q64, aI G 5 (fun _ => 0)), (q73, aI G 512 (fun _ => 0)), (q82, aZ G 512 (fun _ => false))] := hD
    refine lv_aload_n hx hb dM_init_87 rfl (lv_at hl 0 rfl) ?_
    refine lv_bipush (v := nI 100) hx hb dM_init_88 (by decide) ?_
    refine k_newZ (n := 100) hx hb (htb _ b96) hK hP hD hS hA (by decide) (by rw [hRc]; exact Nat.le_of_ble_eq_true rfl) (by rw [hRs]; exact Nat.le_of_ble_eq_true rfl) dM_init_90 (fun q90 H hP hD hS => ?_)
    have hP : va_P (gD G) vC [(qo, .inr (6, [.int (nI 0), .int (nI 0), .ref q8, .int (nI 0), .ref q15, .ref q23, .ref q32, .ref q40, .ref q49, .ref q57, .int (zB false), .ref q64, .int (nI 0), .int (nI 0), .int (nI 0), .ref q73, .ref q82, .null, .int (nI 0), .int (nI 0)])), (q8, aI G 400 (fun _ => 0)), (q15, aI G 5 (fun _ => 0)), (q23, aI G 100 (fun _ => 0)), (q32, aI G 300 (fun _ => 0)), (q40, aI G 100 (fun _ => 0)), (q49, aI G 300 (fun _ => 0)), (q57, aZ G 100 (fun _ => false)), (q64, aI G 5 (fun _ => 0)), (q73, aI G 512 (fun _ => 0)), (q82, aZ G 512 (fun _ => false)), (q90, aZ G 100 (fun _ => false))] H := hP
    have hD : va_D A [(qo, .inr (6, [.int (nI 0), .int (nI 0), .ref q8, .int (nI 0), .ref q15, .ref q23, .ref q32, .ref q40, .ref q49, .ref q57, .int (zB false), .ref q64, .int (nI 0), .int (nI 0), .int (nI 0), .ref q73, .ref q82, .null, .int (nI 0), .int (nI 0)])), (q8, aI G 400 (fun _ => 0)), (q15, aI G 5 (fun _ => 0)), (q23, aI G 100 (fun _ => 0)), (q32, aI G 300 (fun _ => 0)), (q40, aI G 100 (fun _ => 0)), (q49, aI G 300 (fun _ => 0)), (q57, aZ G 100 (fun _ => false)), (q64, aI G 5 (fun _ => 0)), (q73, aI G 512 (fun _ => 0)), (q82, aZ G 512 (fun _ => false)), (q90, aZ G 100 (fun _ => false))] := hD
    refine va_put (D := gD G) (ci := 6) (v := .ref q90) (ty := tyM 17) (C := "CircuitProverModel") (T := TM) (N := 20) hx hb htb inM tyM tyM_ok nmM hown hK hP hD hS 0 rfl rfl 17 (by decide) (htb _ b688) (fun _ h9 => h9) rfl (tyM_ok 17 (by decide)) rfl rfl (Nat.le_of_ble_eq_true rfl) dM_init_92 (fun H locs hP hD hS => ?_)
    have hP : va_P (gD G) vC [(qo, .inr (6, [.int (nI 0), .int (nI 0), .ref q8, .int (nI 0), .ref q15, .ref q23, .ref q32, .ref q40, .ref q49, .ref q57, .int (zB false), .ref q64, .int (nI 0), .int (nI 0), .int (nI 0), .ref q73, .ref q82, .ref q90, .int (nI 0), .int (nI 0)])), (q8, aI G 400 (fun _ => 0)), (q15, aI G 5 (fun _ => 0)), (q23, aI G 100 (fun _ => 0)), (q32, aI G 300 (fun _ => 0)), (q40, aI G 100 (fun _ => 0)), (q49, aI G 300 (fun _ => 0)), (q57, aZ G 100 (fun _ => false)), (q64, aI G 5 (fun _ => 0)), (q73, aI G 512 (fun _ => 0)), (q82, aZ G 512 (fun _ => false)), (q90, aZ G 100 (fun _ => false))] H := hP
    have hD : va_D A [(qo, .inr (6, [.int (nI 0), .int (nI 0), .ref q8, .int (nI 0), .ref q15, .ref q23, .ref q32, .ref q40, .ref q49, .ref q57, .int (zB false), .ref q64, .int (nI 0), .int (nI 0), .int (nI 0), .ref q73, .ref q82, .ref q90, .int (nI 0), .int (nI 0)])), (q8, aI G 400 (fun _ => 0)), (q15, aI G 5 (fun _ => 0)), (q23, aI G 100 (fun _ => 0)), (q32, aI G 300 (fun _ => 0)), (q40, aI G 100 (fun _ => 0)), (q49, aI G 300 (fun _ => 0)), (q57, aZ G 100 (fun _ => false)), (q64, aI G 5 (fun _ => 0)), (q73, aI G 512 (fun _ => 0)), (q82, aZ G 512 (fun _ => false)), (q90, aZ G 100 (fun _ => false))] := hD
    -- end 0
    rw [← hQ]
    exact k_vret hx hb hr hlocks (u := (q8, q15, q23, q32, q40, q49, q57, q64, q73, q82, q90)) (trivial) hP hD hK hS dM_init_95
  rw [hH, hlc] at hgo
  exact hgo
