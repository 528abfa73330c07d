def TBX : List Cond := TB ++ (x1 ++ (x2 ++ (x3 ++ x4)))
theorem DX.use {s : State} {args : Array Value} (h : DX s) : ∀ w ∈ dW, w.before args s = true := by
  intro w hw
  have h1 := h w hw
  simp only [dW, List.mem_cons, List.not_mem_nil, or_false] at hw
  rcases hw with rfl | rfl | rfl | rfl | rfl | rfl | rfl <;> exact va_Nw.use rfl h1
set_option maxRecDepth 100000 in
set_option maxHeartbeats 4000000 in
theorem k_C_requireCircuit_x (l : Launch) (htr : l.stackTraces = false) (G : GG) (sz : Nat) (qc : Nat) (q : Nat) (qn : Nat) (qk : Nat) (qa : Nat) (qd : Nat) : vx_Met l yC_requireCircuit (Cond.code yC_requireCircuit cC_requireCircuit 1 none :: TBX) { frames := 6, cells := 1, slots := 6, locals := 90 } (va_Pc [.ref qc] (befX G [(qc, .inr (5, [.ref q, .ref qn, .ref qk, .ref qa, .ref qd, .int (zB false)]))] sz)) (va_Qv (fun (_ : Unit) => False) (fun _ _ => True) (va_A [(qc, .inr (5, [.ref q, .ref qn, .ref qk, .ref qa, .ref qd, .int (zB false)]))] sz)) (XT G "java/lang/IllegalStateException" (fun (u : Unit) => (() = u)) (fun (u : Unit) => [(qc, .inr (5, [.ref q, .ref qn, .ref qk, .ref qa, .ref qd, .int (zB false)]))]) (va_A [(qc, .inr (5, [.ref q, .ref qn, .ref qk, .ref qa, .ref qd, .int (zB false)]))] sz)) 1 6 (va_A [(qc, .inr (5, [.ref q, .ref qn, .ref qk, .ref qa, .ref qd, .int (zB false)]))] sz) := by
  refine vx_ofW (cc := cC_requireCircuit) (maxL := 1) (ret := none) (by decide) rfl ?_
  intro p e s m args below meth c s₁ B hml hno hv
  obtain ⟨hav, ⟨hsz, hP, hK, hD0, hE⟩, hDX⟩ := hv
  have hx := B.exec
  have hb := B.bytes
  have hr := B.returns
  have hTX : ∀ w ∈ TBX, w.before args s = true := fun w h => atoms_spec (ws := Cond.code yC_requireCircuit cC_requireCircuit 1 none :: TBX) B.pre w (List.mem_cons_of_mem _ h)
  have htb : ∀ w ∈ TB, w.before args s = true := fun w h => hTX w (List.mem_append_left _ h)
  have hown : s.vm.findClass "CircuitProver" = some m.cls := findClass_of_methodNamed B.named
  have hlocks := B.notSynchronized
  subst hsz
  have hD := hD0.self (sz := s.heap.size)
  clear hD0
  generalize hRm : (headSpec (Cond.code yC_requireCircuit cC_requireCircuit 1 none :: TBX) { frames := 6, cells := 1, slots := 6, locals := 90 }).room = R
  have hRf : R.frames = 6 := by rw [← hRm]; rfl
  have hRl : R.locals = 90 := by rw [← hRm]; rfl
  have hRc : R.cells = 1 := by rw [← hRm]; rfl
  have hRs : R.slots = 6 := by rw [← hRm]; rfl
  clear hRm
  generalize hAe : va_A [(qc, .inr (5, [.ref q, .ref qn, .ref qk, .ref qa, .ref qd, .int (zB false)]))] s.heap.size = A at hD hE ⊢
  have hA : ∀ q : Nat, s.heap.size ≤ q → A q := fun q h => by rw [← hAe]; exact Or.inr h
  clear hAe
  have hS : va_S A s.heap s.heap [] := va_S.rf
  have hl := lv_entry ([.ref qc]) (n := 1) (Nat.le_of_ble_eq_true rfl)
  have hent := lg_entry_eq m ([.ref qc]) 1
  rw [← hav] at hent
  rw [hent]
  clear hent hav
  generalize (lg_sl ([.ref qc]) ++ List.replicate (1 - (lg_sl ([.ref qc])).length) Slot.unset).toArray = ls at hl ⊢
  have hl : lv_has ls 1 [(0, .ref qc)] := hl
  generalize hQ : vx_MQ below _ _ args s 1 6 _ = Q
  have hP : va_P (gD G) vC [(qc, .inr (5, [.ref q, .ref qn, .ref qk, .ref qa, .ref qd, .int (zB false)]))] s.heap := hP
  obtain ⟨H, hH⟩ : ∃ H : Heap, H = s.heap := ⟨_, rfl⟩
  obtain ⟨locs, hlc⟩ : ∃ L : List Loc, L = [] := ⟨_, rfl⟩
  have hS : va_S A s.heap H locs := by rw [hH, hlc]; exact hS
  have hP : va_P (gD G) vC [(qc, .inr (5, [.ref q, .ref qn, .ref qk, .ref qa, .ref qd, .int (zB false)]))] H := by rw [hH]; exact hP
  have hgo : W p l e R s m args below meth c H locs 0 0 Q (F0 m 0 ls []) := by
    clear hH hlc
    refine lv_aload_n hx hb dC_requireCircuit_0 rfl (lv_at hl 0 rfl) ?_
    refine va_get (D := gD G) (ci := 5) (v := .int (zB false)) (C := "CircuitProver") (T := TC) (N := 6) hx hb htb inC hown hK hP 0 rfl rfl 5 (by decide) (htb _ b192) (fun _ h9 => h9) rfl dC_requireCircuit_1 ?_
    refine lv_if_ne (tgt := 17) hx hb dC_requireCircuit_4 rfl (fun h4 => (by revert h4; first | decide | exact fun z => absurd z (by decide) | exact fun z => z.elim (by decide))) (fun _ => ?_)
    obtain ⟨sa9, hsa9⟩ := hE.2.2.2.2.2.2.1
    rw [← hQ]
    exact vx_throwS hx hb htr hown (names := exN) (by decide +kernel) (by decide +kernel) (htb _ b511) (htb _ b15) hsa9 (vx_hat (fun w hw => hTX w (List.mem_append_right _ (List.mem_append_right _ (List.mem_append_right _ (List.mem_append_left _ hw))))) x3_d (DX.use hDX)) (by decide +kernel) hE.2.2.1 hE.2.2.2.1 hS (hl.1.trans hml.symm) dC_requireCircuit_7 dC_requireCircuit_10 dC_requireCircuit_11 dC_requireCircuit_13 dC_requireCircuit_16 (fun x hx => (hno x hx).elim) (by rw [hRf]; exact Nat.le_of_ble_eq_true rfl) (by rw [hRl]; exact Nat.le_of_ble_eq_true rfl) (by rw [hRc]; exact Nat.le_of_ble_eq_true rfl) (by rw [hRs]; exact Nat.le_of_ble_eq_true rfl) hlocks (k_thr () (rfl) hP hD hK hS) hS.2.2 (Nat.le_of_ble_eq_true rfl) (Nat.le_of_ble_eq_true rfl)
  rw [hH, hlc] at hgo
  exact hgo
