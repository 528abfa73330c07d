section KITY
variable {p : Program} {l : Launch} {e : Env} {R : Room} {s : State} {m : MethodId} {args : Array Value} {below : List Frame} {meth : Method} {c : Code} {H : Heap} {locs : List Loc} {cells slots : Nat} {Q : State → Prop}
variable {cc bytes : ByteArray} {pc nL maxL mc ms n index : Nat} {ls : Array Slot} {rest st0 As : List Value} {A0 : Nat → Prop} {G : GG} {ws wc wr : va_W} {own C : String} {y : MethodName} {ret : Option FieldType} {rm : Room} {Qc : Array Value → State → Outcome → State → Prop} {free : Addr → Prop} {a b : Nat} {av : Array Value}
theorem k_iX {T : Type} {E : String} {px : T → Prop} {w1 ws2 : T → va_W} (hr : vx_Run p l e R s m args below meth c H locs cells slots mc ms (F0 m pc ls st0) rest (va_Qi (fun (_ : Int32) (_ : Unit) => False) (fun _ _ => True) (va_A wc H.size) av) (XT G E px w1 (va_A wc H.size)) (va_A wc H.size))
    (hP : va_P (gD G) vC ws H) (hD : va_D A0 ws) (hS : va_S A0 s.heap H locs) (hA : ∀ q, s.heap.size ≤ q → A0 q) (isC isR pm : List Nat) (hC : isC.map (fun i => ws[i]?) = wc.map some) (hR : isR.map (fun i => ws[i]?) = wr.map some) (hn : va_nd isR = true) (hdis : ∀ i ∈ isR, i ∉ isC)
    (hpm : ∀ u, pm.map (fun i => (wr ++ w1 u)[i]?) = (ws2 u).map some) (hpn : va_nd pm = true)
    (kk : ∀ (u : T) (H1 : Heap) (locs1 : List Loc) (q9 : Addr) (ce : Cell), px u → va_P (gD G) vC (ws2 u) H1 → va_D A0 (ws2 u) → va_S A0 s.heap H1 locs1 → H1[q9]? = some ce → ce.vm = .none → s.vm.findClass E = some ce.cls → vx_W p l e R s m args below meth c H1 locs1 (cells + mc) (slots + ms) Q (F0 m pc ls rest) q9) : W p l e R s m args below meth c H locs cells slots Q (F0 m pc ls st0) := by
  have hF := va_free hD hS hA isC hC
  refine vx_calli hr hS (fun q _ h => hF q h) hF (fun q _ h => hF q h) (fun E' ce q9 u t H1 locs1 ht hvm hp hB hz hk hS1 hce hcv hcl => ?_) (fun r u t H1 locs1 ht hvm hp => hp.elim)
  obtain ⟨rfl, hP1, -, hD1⟩ := hB
  rw [ht] at hP1
  obtain ⟨hP2, hD2⟩ := va_join hP hD isC isR hC hR hn hdis hk hF hP1 hD1
  exact kk u H1 locs1 q9 ce hp (hP2.sub pm (va_sub_f (hpm u))) (hD2.sub pm hpn (hpm u)) hS1 hce hcv hcl
end KITY
set_option maxRecDepth 100000 in
set_option maxHeartbeats 4000000 in
theorem k_L_circuit_x (l : Launch) (htr : l.stackTraces = false) (G : GG) (sz : Nat) (qc : Nat) (q : Nat) (qn : Nat) (qk : Nat) (qa : Nat) (qd : Nat) (x : Int32) (qb : Nat) (bx : Nat → Int64) : vx_Met l yL_circuit (Cond.codeWith yL_circuit cL_circuit 4 (some .int) [(0, 9, 12, 21)] :: TBX) { frames := 8, cells := 1, slots := 6, locals := 131 } (va_Pc [.ref qc, .int x, .ref qb] (befX G [(qc, .inr (5, [.ref q, .ref qn, .ref qk, .ref qa, .ref qd, .int (zB false)])), (qb, aJ G 1 bx)] sz)) (va_Qi (fun (r : Int32) (u : (Nat → Int64)) => (nI 1 = r ∧ bx = u)) (fun u => aft G (va_A [(qc, .inr (5, [.ref q, .ref qn, .ref qk, .ref qa, .ref qd, .int (zB false)])), (qb, aJ G 1 bx)] sz) ((fun (u : (Nat → Int64)) => [(qc, .inr (5, [.ref q, .ref qn, .ref qk, .ref qa, .ref qd, .int (zB false)])), (qb, aJ G 1 u)]) u)) (va_A [(qc, .inr (5, [.ref q, .ref qn, .ref qk, .ref qa, .ref qd, .int (zB false)])), (qb, aJ G 1 bx)] sz)) (fun _ _ _ => False) 1 6 (va_A [(qc, .inr (5, [.ref q, .ref qn, .ref qk, .ref qa, .ref qd, .int (zB false)])), (qb, aJ G 1 bx)] sz) := by
  refine vx_ofWH (cc := cL_circuit) (maxL := 4) (ret := (some .int)) (by decide) rfl ?_
  intro p e s m args below meth c s₁ B hml hv
  obtain ⟨hav, ⟨hsz, hP, hK, hD0, hE⟩, hDX⟩ := hv
  have hx := B.exec
  have hb := B.bytes
  have hr := B.returns
  have hTX : ∀ w ∈ TBX, w.before args s = true := fun w h => atoms_spec (ws := Cond.codeWith yL_circuit cL_circuit 4 (some .int) [(0, 9, 12, 21)] :: TBX) B.pre w (List.mem_cons_of_mem _ h)
  have htb : ∀ w ∈ TB, w.before args s = true := fun w h => hTX w (List.mem_append_left _ h)
  have hown : s.vm.findClass "CircuitProverLaw" = some m.cls := findClass_of_methodNamed B.named
  have hlocks := B.notSynchronized
  have htab : c.exceptionTable.toList = tableOf [(0, 9, 12, 21)] := vx_table (x := yL_circuit) B (atoms_spec (ws := Cond.codeWith yL_circuit cL_circuit 4 (some .int) [(0, 9, 12, 21)] :: TBX) B.pre _ List.mem_cons_self)
  subst hsz
  have hD := hD0.self (sz := s.heap.size)
  clear hD0
  generalize hRm : (headSpec (Cond.codeWith yL_circuit cL_circuit 4 (some .int) [(0, 9, 12, 21)] :: TBX) { frames := 8, cells := 1, slots := 6, locals := 131 }).room = R
  have hRf : R.frames = 8 := by rw [← hRm]; rfl
  have hRl : R.locals = 131 := by rw [← hRm]; rfl
  have hRc : R.cells = 1 := by rw [← hRm]; rfl
  have hRs : R.slots = 6 := by rw [← hRm]; rfl
  clear hRm
  generalize hAe : va_A [(qc, .inr (5, [.ref q, .ref qn, .ref qk, .ref qa, .ref qd, .int (zB false)])), (qb, aJ G 1 bx)] s.heap.size = A at hD hE ⊢
  have hA : ∀ q : Nat, s.heap.size ≤ q → A q := fun q h => by rw [← hAe]; exact Or.inr h
  clear hAe
  have hS : va_S A s.heap s.heap [] := va_S.rf
  have hl := lv_entry ([.ref qc, .int x, .ref qb]) (n := 4) (Nat.le_of_ble_eq_true rfl)
  have hent := lg_entry_eq m ([.ref qc, .int x, .ref qb]) 4
  rw [← hav] at hent
  rw [hent]
  clear hent hav
  generalize (lg_sl ([.ref qc, .int x, .ref qb]) ++ List.replicate (4 - (lg_sl ([.ref qc, .int x, .ref qb])).length) Slot.unset).toArray = ls at hl ⊢
  have hl : lv_has ls 4 [(0, .ref qc), (1, .int x), (2, .ref qb)] := hl
  generalize hQ : vx_MQ below _ _ args s 1 6 _ = Q
  have hP : va_P (gD G) vC [(qc, .inr (5, [.ref q, .ref qn, .ref qk, .ref qa, .ref qd, .int (zB false)])), (qb, aJ G 1 bx)] s.heap := hP
  obtain ⟨H, hH⟩ : ∃ H : Heap, H = s.heap := ⟨_, rfl⟩
  obtain ⟨locs, hlc⟩ : ∃ L : List Loc, L = [] := ⟨_, rfl⟩
  have hS : va_S A s.heap H locs := by rw [hH, hlc]; exact hS
  have hP : va_P (gD G) vC [(qc, .inr (5, [.ref q, .ref qn, .ref qk, .ref qa, .ref qd, .int (zB false)])), (qb, aJ G 1 bx)] H := by rw [hH]; exact hP
  have hgo : W p l e R s m args below meth c H locs 0 0 Q (F0 m 0 ls []) := by
    clear hH hlc
    refine lv_aload_n hx hb dL_circuit_0 rfl (lv_at hl 2 rfl) ?_
    refine lv_iconst (v := nI 0) hx hb dL_circuit_1 (by decide) ?_
    refine lv_aload_n hx hb dL_circuit_2 rfl (lv_at hl 0 rfl) ?_
    refine lv_iload_n hx hb dL_circuit_3 rfl (lv_at hl 1 rfl) ?_
    refine k_iX (ws2 := fun _ => [(qc, .inr (5, [.ref q, .ref qn, .ref qk, .ref qa, .ref qd, .int (zB false)])), (qb, aJ G 1 bx)]) (wr := [(qb, aJ G 1 bx)]) (k_runVX (n := 1) (As := [.int x]) (rest := [.int (nI 0), .ref qb]) hx hb hml hown hTX hP hD hK hS hA hE hDX (k_C_circuit_x l htr G H.size qc q qn qk qa qd x ) b503 b504 b505 b1 b506 (by decide +kernel) rfl rfl ⟨by rw [hRf]; exact Nat.le_of_ble_eq_true rfl, by rw [hRl]; exact Nat.le_of_ble_eq_true rfl⟩ [0] rfl (by decide) 0 rfl rfl rfl rfl hl.1 rfl (Nat.le_of_ble_eq_true rfl) dL_circuit_4 ⟨by rw [hRc]; exact Nat.le_of_ble_eq_true rfl, by rw [hRs]; exact Nat.le_of_ble_eq_true rfl⟩) hP hD hS hA [0] [1] [1, 0] rfl rfl (by decide) (by decide) (fun u => rfl) (by decide) (fun u H locs q9 ce hw hP hD hS hce hcv hcl => ?_)
    have hP : va_P (gD G) vC [(qc, .inr (5, [.ref q, .ref qn, .ref qk, .ref qa, .ref qd, .int (zB false)])), (qb, aJ G 1 bx)] H := hP
    have hD : va_D A [(qc, .inr (5, [.ref q, .ref qn, .ref qk, .ref qa, .ref qd, .int (zB false)])), (qb, aJ G 1 bx)] := hD
    refine vx_catch (name := "java/lang/IllegalStateException") hown [] _ _ htab (fun z hz => nomatch hz) (by decide) (by decide) (htb _ b502) (DX.use hDX (.castable "java/lang/IllegalStateException" "java/lang/IllegalStateException") (by decide)) hce hcv hcl ?_
    refine W.eq (g2 := F0 m 12 ls [.ref q9]) rfl ?_
    refine lv_astore_n (lv' := [(3, .ref q9), (0, .ref qc), (1, .int x), (2, .ref qb)]) hx hb dL_circuit_12 rfl hl (by decide) rfl (fun ls hl => ?_)
    refine lv_iconst (v := nI 1) hx hb dL_circuit_13 (by decide) ?_
    -- end 0
    rw [← hQ]
    exact vx_ret (k_iret hx hb hr hlocks rfl (u := bx) (⟨rfl, rfl⟩) hP hD hK hS dL_circuit_14)
  rw [hH, hlc] at hgo
  exact hgo
set_option maxRecDepth 100000 in
set_option maxHeartbeats 4000000 in
theorem k_L_go_x (l : Launch) (htr : l.stackTraces = false) (G : GG) (sz : Nat) (qc : Nat) (q : Nat) (qn : Nat) (qk : Nat) (qa : Nat) (qd : Nat) (x : Int32) (y : Int32) (qb : Nat) (bx : Nat → Int64) : vx_Met l yL_go (Cond.codeWith yL_go cL_go 5 (some .int) [(0, 10, 13, 21), (0, 10, 17, 27)] :: TBX) { frames := 8, cells := 1, slots := 6, locals := 132 } (va_Pc [.ref qc, .int x, .int y, .ref qb] (befX G [(qc, .inr (5, [.ref q, .ref qn, .ref qk, .ref qa, .ref qd, .int (zB false)])), (qb, aJ G 1 bx)] sz)) (va_Qi (fun (r : Int32) (u : (Nat → Int64)) => (nI 1 = r ∧ bx = u)) (fun u => aft G (va_A [(qc, .inr (5, [.ref q, .ref qn, .ref qk, .ref qa, .ref qd, .int (zB false)])), (qb, aJ G 1 bx)] sz) ((fun (u : (Nat → Int64)) => [(qc, .inr (5, [.ref q, .ref qn, .ref qk, .ref qa, .ref qd, .int (zB false)])), (qb, aJ G 1 u)]) u)) (va_A [(qc, .inr (5, [.ref q, .ref qn, .ref qk, .ref qa, .ref qd, .int (zB false)])), (qb, aJ G 1 bx)] sz)) (fun _ _ _ => False) 1 6 (va_A [(qc, .inr (5, [.ref q, .ref qn, .ref qk, .ref qa, .ref qd, .int (zB false)])), (qb, aJ G 1 bx)] sz) := by
  refine vx_ofWH (cc := cL_go) (maxL := 5) (ret := (some .int)) (by decide) rfl ?_
  intro p e s m args below meth c s₁ B hml hv
  obtain ⟨hav, ⟨hsz, hP, hK, hD0, hE⟩, hDX⟩ := hv
  have hx := B.exec
  have hb := B.bytes
  have hr := B.returns
  have hTX : ∀ w ∈ TBX, w.before args s = true := fun w h => atoms_spec (ws := Cond.codeWith yL_go cL_go 5 (some .int) [(0, 10, 13, 21), (0, 10, 17, 27)] :: TBX) B.pre w (List.mem_cons_of_mem _ h)
  have htb : ∀ w ∈ TB, w.before args s = true := fun w h => hTX w (List.mem_append_left _ h)
  have hown : s.vm.findClass "CircuitProverLaw" = some m.cls := findClass_of_methodNamed B.named
  have hlocks := B.notSynchronized
  have htab : c.exceptionTable.toList = tableOf [(0, 10, 13, 21), (0, 10, 17, 27)] := vx_table (x := yL_go) B (atoms_spec (ws := Cond.codeWith yL_go cL_go 5 (some .int) [(0, 10, 13, 21), (0, 10, 17, 27)] :: TBX) B.pre _ List.mem_cons_self)
  subst hsz
  have hD := hD0.self (sz := s.heap.size)
  clear hD0
  generalize hRm : (headSpec (Cond.codeWith yL_go cL_go 5 (some .int) [(0, 10, 13, 21), (0, 10, 17, 27)] :: TBX) { frames := 8, cells := 1, slots := 6, locals := 132 }).room = R
  have hRf : R.frames = 8 := by rw [← hRm]; rfl
  have hRl : R.locals = 132 := by rw [← hRm]; rfl
  have hRc : R.cells = 1 := by rw [← hRm]; rfl
  have hRs : R.slots = 6 := by rw [← hRm]; rfl
  clear hRm
  generalize hAe : va_A [(qc, .inr (5, [.ref q, .ref qn, .ref qk, .ref qa, .ref qd, .int (zB false)])), (qb, aJ G 1 bx)] s.heap.size = A at hD hE ⊢
  have hA : ∀ q : Nat, s.heap.size ≤ q → A q := fun q h => by rw [← hAe]; exact Or.inr h
  clear hAe
  have hS : va_S A s.heap s.heap [] := va_S.rf
  have hl := lv_entry ([.ref qc, .int x, .int y, .ref qb]) (n := 5) (Nat.le_of_ble_eq_true rfl)
  have hent := lg_entry_eq m ([.ref qc, .int x, .int y, .ref qb]) 5
  rw [← hav] at hent
  rw [hent]
  clear hent hav
  generalize (lg_sl ([.ref qc, .int x, .int y, .ref qb]) ++ List.replicate (5 - (lg_sl ([.ref qc, .int x, .int y, .ref qb])).length) Slot.unset).toArray = ls at hl ⊢
  have hl : lv_has ls 5 [(0, .ref qc), (1, .int x), (2, .int y), (3, .ref qb)] := hl
  generalize hQ : vx_MQ below _ _ args s 1 6 _ = Q
  have hP : va_P (gD G) vC [(qc, .inr (5, [.ref q, .ref qn, .ref qk, .ref qa, .ref qd, .int (zB false)])), (qb, aJ G 1 bx)] s.heap := hP
  obtain ⟨H, hH⟩ : ∃ H : Heap, H = s.heap := ⟨_, rfl⟩
  obtain ⟨locs, hlc⟩ : ∃ L : List Loc, L = [] := ⟨_, rfl⟩
  have hS : va_S A s.heap H locs := by rw [hH, hlc]; exact hS
  have hP : va_P (gD G) vC [(qc, .inr (5, [.ref q, .ref qn, .ref qk, .ref qa, .ref qd, .int (zB false)])), (qb, aJ G 1 bx)] H := by rw [hH]; exact hP
  have hgo : W p l e R s m args below meth c H locs 0 0 Q (F0 m 0 ls []) := by
    clear hH hlc
    refine lv_aload_n hx hb dL_go_0 rfl (lv_at hl 3 rfl) ?_
    refine lv_iconst (v := nI 0) hx hb dL_go_1 (by decide) ?_
    refine lv_aload_n hx hb dL_go_2 rfl (lv_at hl 0 rfl) ?_
    refine lv_iload_n hx hb dL_go_3 rfl (lv_at hl 1 rfl) ?_
    refine lv_iload_n hx hb dL_go_4 rfl (lv_at hl 2 rfl) ?_
    refine k_iX (ws2 := fun _ => [(qc, .inr (5, [.ref q, .ref qn, .ref qk, .ref qa, .ref qd, .int (zB false)])), (qb, aJ G 1 bx)]) (wr := [(qb, aJ G 1 bx)]) (k_runVX (n := 2) (As := [.int x, .int y]) (rest := [.int (nI 0), .ref qb]) hx hb hml hown hTX hP hD hK hS hA hE hDX (k_C_go_x l htr G H.size qc q qn qk qa qd x y ) b531 b532 b533 b1 b534 (by decide +kernel) rfl rfl ⟨by rw [hRf]; exact Nat.le_of_ble_eq_true rfl, by rw [hRl]; exact Nat.le_of_ble_eq_true rfl⟩ [0] rfl (by decide) 0 rfl rfl rfl rfl hl.1 rfl (Nat.le_of_ble_eq_true rfl) dL_go_5 ⟨by rw [hRc]; exact Nat.le_of_ble_eq_true rfl, by rw [hRs]; exact Nat.le_of_ble_eq_true rfl⟩) hP hD hS hA [0] [1] [1, 0] rfl rfl (by decide) (by decide) (fun u => rfl) (by decide) (fun u H locs q9 ce hw hP hD hS hce hcv hcl => ?_)
    have hP : va_P (gD G) vC [(qc, .inr (5, [.ref q, .ref qn, .ref qk, .ref qa, .ref qd, .int (zB false)])), (qb, aJ G 1 bx)] H := hP
    have hD : va_D A [(qc, .inr (5, [.ref q, .ref qn, .ref qk, .ref qa, .ref qd, .int (zB false)])), (qb, aJ G 1 bx)] := hD
    refine vx_catch (name := "java/lang/IllegalStateException") hown [] _ _ htab (fun z hz => nomatch hz) (by decide) (by decide) (htb _ b502) (DX.use hDX (.castable "java/lang/IllegalStateException" "java/lang/IllegalStateException") (by decide)) hce hcv hcl ?_
    refine W.eq (g2 := F0 m 13 ls [.ref q9]) rfl ?_
    refine lv_astore (lv' := [(4, .ref q9), (0, .ref qc), (1, .int x), (2, .int y), (3, .ref qb)]) hx hb dL_go_13 hl (by decide) rfl (fun ls hl => ?_)
    refine lv_iconst (v := nI 1) hx hb dL_go_15 (by decide) ?_
    -- end 0
    rw [← hQ]
    exact vx_ret (k_iret hx hb hr hlocks rfl (u := bx) (⟨rfl, rfl⟩) hP hD hK hS dL_go_16)
  rw [hH, hlc] at hgo
  exact hgo
set_option maxRecDepth 100000 in
set_option maxHeartbeats 4000000 in
theorem k_L_output_x (l : Launch) (htr : l.stackTraces = false) (G : GG) (sz : Nat) (qc : Nat) (q : Nat) (qn : Nat) (qk : Nat) (qa : Nat) (qd : Nat) (x : Int32) (y : Int32) (qb : Nat) (bx : Nat → Int64) : vx_Met l yL_output (Cond.codeWith yL_output cL_output 5 (some .int) [(0, 17, 20, 21), (0, 17, 24, 27)] :: TBX) { frames := 8, cells := 1, slots := 6, locals := 132 } (va_Pc [.ref qc, .int x, .int y, .ref qb] (befX G [(qc, .inr (5, [.ref q, .ref qn, .ref qk, .ref qa, .ref qd, .int (zB false)])), (qb, aJ G 1 bx)] sz)) (va_Qi (fun (r : Int32) (u : (Nat → Int64)) => (nI 1 = r ∧ bx = u)) (fun u => aft G (va_A [(qc, .inr (5, [.ref q, .ref qn, .ref qk, .ref qa, .ref qd, .int (zB false)])), (qb, aJ G 1 bx)] sz) ((fun (u : (Nat → Int64)) => [(qc, .inr (5, [.ref q, .ref qn, .ref qk, .ref qa, .ref qd, .int (zB false)])), (qb, aJ G 1 u)]) u)) (va_A [(qc, .inr (5, [.ref q, .ref qn, .ref qk, .ref qa, .ref qd, .int (zB false)])), (qb, aJ G 1 bx)] sz)) (fun _ _ _ => False) 1 6 (va_A [(qc, .inr (5, [.ref q, .ref qn, .ref qk, .ref qa, .ref qd, .int (zB false)])), (qb, aJ G 1 bx)] sz) := by
  refine vx_ofWH (cc := cL_output) (maxL := 5) (ret := (some .int)) (by decide) rfl ?_
  intro p e s m args below meth c s₁ B hml hv
  obtain ⟨hav, ⟨hsz, hP, hK, hD0, hE⟩, hDX⟩ := hv
  have hx := B.exec
  have hb := B.bytes
  have hr := B.returns
  have hTX : ∀ w ∈ TBX, w.before args s = true := fun w h => atoms_spec (ws := Cond.codeWith yL_output cL_output 5 (some .int) [(0, 17, 20, 21), (0, 17, 24, 27)] :: TBX) B.pre w (List.mem_cons_of_mem _ h)
  have htb : ∀ w ∈ TB, w.before args s = true := fun w h => hTX w (List.mem_append_left _ h)
  have hown : s.vm.findClass "CircuitProverLaw" = some m.cls := findClass_of_methodNamed B.named
  have hlocks := B.notSynchronized
  have htab : c.exceptionTable.toList = tableOf [(0, 17, 20, 21), (0, 17, 24, 27)] := vx_table (x := yL_output) B (atoms_spec (ws := Cond.codeWith yL_output cL_output 5 (some .int) [(0, 17, 20, 21), (0, 17, 24, 27)] :: TBX) B.pre _ List.mem_cons_self)
  subst hsz
  have hD := hD0.self (sz := s.heap.size)
  clear hD0
  generalize hRm : (headSpec (Cond.codeWith yL_output cL_output 5 (some .int) [(0, 17, 20, 21), (0, 17, 24, 27)] :: TBX) { frames := 8, cells := 1, slots := 6, locals := 132 }).room = R
  have hRf : R.frames = 8 := by rw [← hRm]; rfl
  have hRl : R.locals = 132 := by rw [← hRm]; rfl
  have hRc : R.cells = 1 := by rw [← hRm]; rfl
  have hRs : R.slots = 6 := by rw [← hRm]; rfl
  clear hRm
  generalize hAe : va_A [(qc, .inr (5, [.ref q, .ref qn, .ref qk, .ref qa, .ref qd, .int (zB false)])), (qb, aJ G 1 bx)] s.heap.size = A at hD hE ⊢
  have hA : ∀ q : Nat, s.heap.size ≤ q → A q := fun q h => by rw [← hAe]; exact Or.inr h
  clear hAe
  have hS : va_S A s.heap s.heap [] := va_S.rf
  have hl := lv_entry ([.ref qc, .int x, .int y, .ref qb]) (n := 5) (Nat.le_of_ble_eq_true rfl)
  have hent := lg_entry_eq m ([.ref qc, .int x, .int y, .ref qb]) 5
  rw [← hav] at hent
  rw [hent]
  clear hent hav
  generalize (lg_sl ([.ref qc, .int x, .int y, .ref qb]) ++ List.replicate (5 - (lg_sl ([.ref qc, .int x, .int y, .ref qb])).length) Slot.unset).toArray = ls at hl ⊢
  have hl : lv_has ls 5 [(0, .ref qc), (1, .int x), (2, .int y), (3, .ref qb)] := hl
  generalize hQ : vx_MQ below _ _ args s 1 6 _ = Q
  have hP : va_P (gD G) vC [(qc, .inr (5, [.ref q, .ref qn, .ref qk, .ref qa, .ref qd, .int (zB false)])), (qb, aJ G 1 bx)] s.heap := hP
  obtain ⟨H, hH⟩ : ∃ H : Heap, H = s.heap := ⟨_, rfl⟩
  obtain ⟨locs, hlc⟩ : ∃ L : List Loc, L = [] := ⟨_, rfl⟩
  have hS : va_S A s.heap H locs := by rw [hH, hlc]; exact hS
  have hP : va_P (gD G) vC [(qc, .inr (5, [.ref q, .ref qn, .ref qk, .ref qa, .ref qd, .int (zB false)])), (qb, aJ G 1 bx)] H := by rw [hH]; exact hP
  have hgo : W p l e R s m args below meth c H locs 0 0 Q (F0 m 0 ls []) := by
    clear hH hlc
    refine lv_aload_n hx hb dL_output_0 rfl (lv_at hl 3 rfl) ?_
    refine lv_iconst (v := nI 0) hx hb dL_output_1 (by decide) ?_
    refine lv_aload_n hx hb dL_output_2 rfl (lv_at hl 0 rfl) ?_
    refine lv_iload_n hx hb dL_output_3 rfl (lv_at hl 1 rfl) ?_
    refine lv_iload_n hx hb dL_output_4 rfl (lv_at hl 2 rfl) ?_
    refine k_iX (ws2 := fun _ => [(qc, .inr (5, [.ref q, .ref qn, .ref qk, .ref qa, .ref qd, .int (zB false)])), (qb, aJ G 1 bx)]) (wr := [(qb, aJ G 1 bx)]) (k_runVX (n := 2) (As := [.int x, .int y]) (rest := [.int (nI 0), .ref qb]) hx hb hml hown hTX hP hD hK hS hA hE hDX (k_C_output_x l htr G H.size qc q qn qk qa qd x y ) b567 b568 b569 b1 b570 (by decide +kernel) rfl rfl ⟨by rw [hRf]; exact Nat.le_of_ble_eq_true rfl, by rw [hRl]; exact Nat.le_of_ble_eq_true rfl⟩ [0] rfl (by decide) 0 rfl rfl rfl rfl hl.1 rfl (Nat.le_of_ble_eq_true rfl) dL_output_5 ⟨by rw [hRc]; exact Nat.le_of_ble_eq_true rfl, by rw [hRs]; exact Nat.le_of_ble_eq_true rfl⟩) hP hD hS hA [0] [1] [1, 0] rfl rfl (by decide) (by decide) (fun u => rfl) (by decide) (fun u H locs q9 ce hw hP hD hS hce hcv hcl => ?_)
    have hP : va_P (gD G) vC [(qc, .inr (5, [.ref q, .ref qn, .ref qk, .ref qa, .ref qd, .int (zB false)])), (qb, aJ G 1 bx)] H := hP
    have hD : va_D A [(qc, .inr (5, [.ref q, .ref qn, .ref qk, .ref qa, .ref qd, .int (zB false)])), (qb, aJ G 1 bx)] := hD
    refine vx_catch (name := "java/lang/IllegalStateException") hown [] _ _ htab (fun z hz => nomatch hz) (by decide) (by decide) (htb _ b502) (DX.use hDX (.castable "java/lang/IllegalStateException" "java/lang/IllegalStateException") (by decide)) hce hcv hcl ?_
    refine W.eq (g2 := F0 m 20 ls [.ref q9]) rfl ?_
    refine lv_astore (lv' := [(4, .ref q9), (0, .ref qc), (1, .int x), (2, .int y), (3, .ref qb)]) hx hb dL_output_20 hl (by decide) rfl (fun ls hl => ?_)
    refine lv_iconst (v := nI 1) hx hb dL_output_22 (by decide) ?_
    -- end 0
    rw [← hQ]
    exact vx_ret (k_iret hx hb hr hlocks rfl (u := bx) (⟨rfl, rfl⟩) hP hD hK hS dL_output_23)
  rw [hH, hlc] at hgo
  exact hgo
set_option maxRecDepth 100000 in
set_option maxHeartbeats 4000000 in
theorem k_L_safe_x (l : Launch) (htr : l.stackTraces = false) (G : GG) (sz : Nat) (qc : Nat) (q : Nat) (qn : Nat) (qk : Nat) (qa : Nat) (qd : Nat) (qb : Nat) (bx : Nat → Int64) : vx_Met l yL_safe (Cond.codeWith yL_safe cL_safe 3 (some .int) [(0, 15, 18, 21)] :: TBX) { frames := 8, cells := 1, slots := 6, locals := 130 } (va_Pc [.ref qc, .ref qb] (befX G [(qc, .inr (5, [.ref q, .ref qn, .ref qk, .ref qa, .ref qd, .int (zB false)])), (qb, aJ G 1 bx)] sz)) (va_Qi (fun (r : Int32) (u : (Nat → Int64)) => (nI 1 = r ∧ bx = u)) (fun u => aft G (va_A [(qc, .inr (5, [.ref q, .ref qn, .ref qk, .ref qa, .ref qd, .int (zB false)])), (qb, aJ G 1 bx)] sz) ((fun (u : (Nat → Int64)) => [(qc, .inr (5, [.ref q, .ref qn, .ref qk, .ref qa, .ref qd, .int (zB false)])), (qb, aJ G 1 u)]) u)) (va_A [(qc, .inr (5, [.ref q, .ref qn, .ref qk, .ref qa, .ref qd, .int (zB false)])), (qb, aJ G 1 bx)] sz)) (fun _ _ _ => False) 1 6 (va_A [(qc, .inr (5, [.ref q, .ref qn, .ref qk, .ref qa, .ref qd, .int (zB false)])), (qb, aJ G 1 bx)] sz) := by
  refine vx_ofWH (cc := cL_safe) (maxL := 3) (ret := (some .int)) (by decide) rfl ?_
  intro p e s m args below meth c s₁ B hml hv
  obtain ⟨hav, ⟨hsz, hP, hK, hD0, hE⟩, hDX⟩ := hv
  have hx := B.exec
  have hb := B.bytes
  have hr := B.returns
  have hTX : ∀ w ∈ TBX, w.before args s = true := fun w h => atoms_spec (ws := Cond.codeWith yL_safe cL_safe 3 (some .int) [(0, 15, 18, 21)] :: TBX) B.pre w (List.mem_cons_of_mem _ h)
  have htb : ∀ w ∈ TB, w.before args s = true := fun w h => hTX w (List.mem_append_left _ h)
  have hown : s.vm.findClass "CircuitProverLaw" = some m.cls := findClass_of_methodNamed B.named
  have hlocks := B.notSynchronized
  have htab : c.exceptionTable.toList = tableOf [(0, 15, 18, 21)] := vx_table (x := yL_safe) B (atoms_spec (ws := Cond.codeWith yL_safe cL_safe 3 (some .int) [(0, 15, 18, 21)] :: TBX) B.pre _ List.mem_cons_self)
  subst hsz
  have hD := hD0.self (sz := s.heap.size)
  clear hD0
  generalize hRm : (headSpec (Cond.codeWith yL_safe cL_safe 3 (some .int) [(0, 15, 18, 21)] :: TBX) { frames := 8, cells := 1, slots := 6, locals := 130 }).room = R
  have hRf : R.frames = 8 := by rw [← hRm]; rfl
  have hRl : R.locals = 130 := by rw [← hRm]; rfl
  have hRc : R.cells = 1 := by rw [← hRm]; rfl
  have hRs : R.slots = 6 := by rw [← hRm]; rfl
  clear hRm
  generalize hAe : va_A [(qc, .inr (5, [.ref q, .ref qn, .ref qk, .ref qa, .ref qd, .int (zB false)])), (qb, aJ G 1 bx)] s.heap.size = A at hD hE ⊢
  have hA : ∀ q : Nat, s.heap.size ≤ q → A q := fun q h => by rw [← hAe]; exact Or.inr h
  clear hAe
  have hS : va_S A s.heap s.heap [] := va_S.rf
  have hl := lv_entry ([.ref qc, .ref qb]) (n := 3) (Nat.le_of_ble_eq_true rfl)
  have hent := lg_entry_eq m ([.ref qc, .ref qb]) 3
  rw [← hav] at hent
  rw [hent]
  clear hent hav
  generalize (lg_sl ([.ref qc, .ref qb]) ++ List.replicate (3 - (lg_sl ([.ref qc, .ref qb])).length) Slot.unset).toArray = ls at hl ⊢
  have hl : lv_has ls 3 [(0, .ref qc), (1, .ref qb)] := hl
  generalize hQ : vx_MQ below _ _ args s 1 6 _ = Q
  have hP : va_P (gD G) vC [(qc, .inr (5, [.ref q, .ref qn, .ref qk, .ref qa, .ref qd, .int (zB false)])), (qb, aJ G 1 bx)] s.heap := hP
  obtain ⟨H, hH⟩ : ∃ H : Heap, H = s.heap := ⟨_, rfl⟩
  obtain ⟨locs, hlc⟩ : ∃ L : List Loc, L = [] := ⟨_, rfl⟩
  have hS : va_S A s.heap H locs := by rw [hH, hlc]; exact hS
  have hP : va_P (gD G) vC [(qc, .inr (5, [.ref q, .ref qn, .ref qk, .ref qa, .ref qd, .int (zB false)])), (qb, aJ G 1 bx)] H := by rw [hH]; exact hP
  have hgo : W p l e R s m args below meth c H locs 0 0 Q (F0 m 0 ls []) := by
    clear hH hlc
    refine lv_aload_n hx hb dL_safe_0 rfl (lv_at hl 1 rfl) ?_
    refine lv_iconst (v := nI 0) hx hb dL_safe_1 (by decide) ?_
    refine lv_aload_n hx hb dL_safe_2 rfl (lv_at hl 0 rfl) ?_
    refine k_iX (ws2 := fun _ => [(qc, .inr (5, [.ref q, .ref qn, .ref qk, .ref qa, .ref qd, .int (zB false)])), (qb, aJ G 1 bx)]) (wr := [(qb, aJ G 1 bx)]) (k_runVX (n := 0) (As := []) (rest := [.int (nI 0), .ref qb]) hx hb hml hown hTX hP hD hK hS hA hE hDX (k_C_safe_x l htr G H.size qc q qn qk qa qd ) b575 b576 b577 b1 b578 (by decide +kernel) rfl rfl ⟨by rw [hRf]; exact Nat.le_of_ble_eq_true rfl, by rw [hRl]; exact Nat.le_of_ble_eq_true rfl⟩ [0] rfl (by decide) 0 rfl rfl rfl rfl hl.1 rfl (Nat.le_of_ble_eq_true rfl) dL_safe_3 ⟨by rw [hRc]; exact Nat.le_of_ble_eq_true rfl, by rw [hRs]; exact Nat.le_of_ble_eq_true rfl⟩) hP hD hS hA [0] [1] [1, 0] rfl rfl (by decide) (by decide) (fun u => rfl) (by decide) (fun u H locs q9 ce hw hP hD hS hce hcv hcl => ?_)
    have hP : va_P (gD G) vC [(qc, .inr (5, [.ref q, .ref qn, .ref qk, .ref qa, .ref qd, .int (zB false)])), (qb, aJ G 1 bx)] H := hP
    have hD : va_D A [(qc, .inr (5, [.ref q, .ref qn, .ref qk, .ref qa, .ref qd, .int (zB false)])), (qb, aJ G 1 bx)] := hD
    refine vx_catch (name := "java/lang/IllegalStateException") hown [] _ _ htab (fun z hz => nomatch hz) (by decide) (by decide) (htb _ b502) (DX.use hDX (.castable "java/lang/IllegalStateException" "java/lang/IllegalStateException") (by decide)) hce hcv hcl ?_
    refine W.eq (g2 := F0 m 18 ls [.ref q9]) rfl ?_
    refine lv_astore_n (lv' := [(2, .ref q9), (0, .ref qc), (1, .ref qb)]) hx hb dL_safe_18 rfl hl (by decide) rfl (fun ls hl => ?_)
    refine lv_iconst (v := nI 1) hx hb dL_safe_19 (by decide) ?_
    -- end 0
    rw [← hQ]
    exact vx_ret (k_iret hx hb hr hlocks rfl (u := bx) (⟨rfl, rfl⟩) hP hD hK hS dL_safe_20)
  rw [hH, hlc] at hgo
  exact hgo
set_option maxRecDepth 100000 in
set_option maxHeartbeats 4000000 in
theorem k_L_depth_x (l : Launch) (htr : l.stackTraces = false) (G : GG) (sz : Nat) (qc : Nat) (q : Nat) (qn : Nat) (qk : Nat) (qa : Nat) (qd : Nat) (qb : Nat) (bx : Nat → Int64) : vx_Met l yL_depth (Cond.codeWith yL_depth cL_depth 3 (some .int) [(0, 8, 11, 21)] :: TBX) { frames := 8, cells := 1, slots := 6, locals := 130 } (va_Pc [.ref qc, .ref qb] (befX G [(qc, .inr (5, [.ref q, .ref qn, .ref qk, .ref qa, .ref qd, .int (zB false)])), (qb, aJ G 1 bx)] sz)) (va_Qi (fun (r : Int32) (u : (Nat → Int64)) => (nI 1 = r ∧ bx = u)) (fun u => aft G (va_A [(qc, .inr (5, [.ref q, .ref qn, .ref qk, .ref qa, .ref qd, .int (zB false)])), (qb, aJ G 1 bx)] sz) ((fun (u : (Nat → Int64)) => [(qc, .inr (5, [.ref q, .ref qn, .ref qk, .ref qa, .ref qd, .int (zB false)])), (qb, aJ G 1 u)]) u)) (va_A [(qc, .inr (5, [.ref q, .ref qn, .ref qk, .ref qa, .ref qd, .int (zB false)])), (qb, aJ G 1 bx)] sz)) (fun _ _ _ => False) 1 6 (va_A [(qc, .inr (5, [.ref q, .ref qn, .ref qk, .ref qa, .ref qd, .int (zB false)])), (qb, aJ G 1 bx)] sz) := by
  refine vx_ofWH (cc := cL_depth) (maxL := 3) (ret := (some .int)) (by decide) rfl ?_
  intro p e s m args below meth c s₁ B hml hv
  obtain ⟨hav, ⟨hsz, hP, hK, hD0, hE⟩, hDX⟩ := hv
  have hx := B.exec
  have hb := B.bytes
  have hr := B.returns
  have hTX : ∀ w ∈ TBX, w.before args s = true := fun w h => atoms_spec (ws := Cond.codeWith yL_depth cL_depth 3 (some .int) [(0, 8, 11, 21)] :: TBX) B.pre w (List.mem_cons_of_mem _ h)
  have htb : ∀ w ∈ TB, w.before args s = true := fun w h => hTX w (List.mem_append_left _ h)
  have hown : s.vm.findClass "CircuitProverLaw" = some m.cls := findClass_of_methodNamed B.named
  have hlocks := B.notSynchronized
  have htab : c.exceptionTable.toList = tableOf [(0, 8, 11, 21)] := vx_table (x := yL_depth) B (atoms_spec (ws := Cond.codeWith yL_depth cL_depth 3 (some .int) [(0, 8, 11, 21)] :: TBX) B.pre _ List.mem_cons_self)
  subst hsz
  have hD := hD0.self (sz := s.heap.size)
  clear hD0
  generalize hRm : (headSpec (Cond.codeWith yL_depth cL_depth 3 (some .int) [(0, 8, 11, 21)] :: TBX) { frames := 8, cells := 1, slots := 6, locals := 130 }).room = R
  have hRf : R.frames = 8 := by rw [← hRm]; rfl
  have hRl : R.locals = 130 := by rw [← hRm]; rfl
  have hRc : R.cells = 1 := by rw [← hRm]; rfl
  have hRs : R.slots = 6 := by rw [← hRm]; rfl
  clear hRm
  generalize hAe : va_A [(qc, .inr (5, [.ref q, .ref qn, .ref qk, .ref qa, .ref qd, .int (zB false)])), (qb, aJ G 1 bx)] s.heap.size = A at hD hE ⊢
  have hA : ∀ q : Nat, s.heap.size ≤ q → A q := fun q h => by rw [← hAe]; exact Or.inr h
  clear hAe
  have hS : va_S A s.heap s.heap [] := va_S.rf
  have hl := lv_entry ([.ref qc, .ref qb]) (n := 3) (Nat.le_of_ble_eq_true rfl)
  have hent := lg_entry_eq m ([.ref qc, .ref qb]) 3
  rw [← hav] at hent
  rw [hent]
  clear hent hav
  generalize (lg_sl ([.ref qc, .ref qb]) ++ List.replicate (3 - (lg_sl ([.ref qc, .ref qb])).length) Slot.unset).toArray = ls at hl ⊢
  have hl : lv_has ls 3 [(0, .ref qc), (1, .ref qb)] := hl
  generalize hQ : vx_MQ below _ _ args s 1 6 _ = Q
  have hP : va_P (gD G) vC [(qc, .inr (5, [.ref q, .ref qn, .ref qk, .ref qa, .ref qd, .int (zB false)])), (qb, aJ G 1 bx)] s.heap := hP
  obtain ⟨H, hH⟩ : ∃ H : Heap, H = s.heap := ⟨_, rfl⟩
  obtain ⟨locs, hlc⟩ : ∃ L : List Loc, L = [] := ⟨_, rfl⟩
  have hS : va_S A s.heap H locs := by rw [hH, hlc]; exact hS
  have hP : va_P (gD G) vC [(qc, .inr (5, [.ref q, .ref qn, .ref qk, .ref qa, .ref qd, .int (zB false)])), (qb, aJ G 1 bx)] H := by rw [hH]; exact hP
  have hgo : W p l e R s m args below meth c H locs 0 0 Q (F0 m 0 ls []) := by
    clear hH hlc
    refine lv_aload_n hx hb dL_depth_0 rfl (lv_at hl 1 rfl) ?_
    refine lv_iconst (v := nI 0) hx hb dL_depth_1 (by decide) ?_
    refine lv_aload_n hx hb dL_depth_2 rfl (lv_at hl 0 rfl) ?_
    refine k_iX (ws2 := fun _ => [(qc, .inr (5, [.ref q, .ref qn, .ref qk, .ref qa, .ref qd, .int (zB false)])), (qb, aJ G 1 bx)]) (wr := [(qb, aJ G 1 bx)]) (k_runVX (n := 0) (As := []) (rest := [.int (nI 0), .ref qb]) hx hb hml hown hTX hP hD hK hS hA hE hDX (k_C_depth_x l htr G H.size qc q qn qk qa qd ) b583 b584 b585 b1 b586 (by decide +kernel) rfl rfl ⟨by rw [hRf]; exact Nat.le_of_ble_eq_true rfl, by rw [hRl]; exact Nat.le_of_ble_eq_true rfl⟩ [0] rfl (by decide) 0 rfl rfl rfl rfl hl.1 rfl (Nat.le_of_ble_eq_true rfl) dL_depth_3 ⟨by rw [hRc]; exact Nat.le_of_ble_eq_true rfl, by rw [hRs]; exact Nat.le_of_ble_eq_true rfl⟩) hP hD hS hA [0] [1] [1, 0] rfl rfl (by decide) (by decide) (fun u => rfl) (by decide) (fun u H locs q9 ce hw hP hD hS hce hcv hcl => ?_)
    have hP : va_P (gD G) vC [(qc, .inr (5, [.ref q, .ref qn, .ref qk, .ref qa, .ref qd, .int (zB false)])), (qb, aJ G 1 bx)] H := hP
    have hD : va_D A [(qc, .inr (5, [.ref q, .ref qn, .ref qk, .ref qa, .ref qd, .int (zB false)])), (qb, aJ G 1 bx)] := hD
    refine vx_catch (name := "java/lang/IllegalStateException") hown [] _ _ htab (fun z hz => nomatch hz) (by decide) (by decide) (htb _ b502) (DX.use hDX (.castable "java/lang/IllegalStateException" "java/lang/IllegalStateException") (by decide)) hce hcv hcl ?_
    refine W.eq (g2 := F0 m 11 ls [.ref q9]) rfl ?_
    refine lv_astore_n (lv' := [(2, .ref q9), (0, .ref qc), (1, .ref qb)]) hx hb dL_depth_11 rfl hl (by decide) rfl (fun ls hl => ?_)
    refine lv_iconst (v := nI 1) hx hb dL_depth_12 (by decide) ?_
    -- end 0
    rw [← hQ]
    exact vx_ret (k_iret hx hb hr hlocks rfl (u := bx) (⟨rfl, rfl⟩) hP hD hK hS dL_depth_13)
  rw [hH, hlc] at hgo
  exact hgo
set_option maxRecDepth 100000 in
set_option maxHeartbeats 4000000 in
theorem k_L_witness_x (l : Launch) (htr : l.stackTraces = false) (G : GG) (sz : Nat) (qc : Nat) (q : Nat) (qn : Nat) (qk : Nat) (qa : Nat) (qd : Nat) (x : Int32) (qb : Nat) (bx : Nat → Int64) : vx_Met l yL_witness (Cond.codeWith yL_witness cL_witness 4 (some .int) [(0, 9, 12, 21)] :: TBX) { frames := 8, cells := 1, slots := 6, locals := 131 } (va_Pc [.ref qc, .int x, .ref qb] (befX G [(qc, .inr (5, [.ref q, .ref qn, .ref qk, .ref qa, .ref qd, .int (zB false)])), (qb, aJ G 1 bx)] sz)) (va_Qi (fun (r : Int32) (u : (Nat → Int64)) => (nI 1 = r ∧ bx = u)) (fun u => aft G (va_A [(qc, .inr (5, [.ref q, .ref qn, .ref qk, .ref qa, .ref qd, .int (zB false)])), (qb, aJ G 1 bx)] sz) ((fun (u : (Nat → Int64)) => [(qc, .inr (5, [.ref q, .ref qn, .ref qk, .ref qa, .ref qd, .int (zB false)])), (qb, aJ G 1 u)]) u)) (va_A [(qc, .inr (5, [.ref q, .ref qn, .ref qk, .ref qa, .ref qd, .int (zB false)])), (qb, aJ G 1 bx)] sz)) (fun _ _ _ => False) 1 6 (va_A [(qc, .inr (5, [.ref q, .ref qn, .ref qk, .ref qa, .ref qd, .int (zB false)])), (qb, aJ G 1 bx)] sz) := by
  refine vx_ofWH (cc := cL_witness) (maxL := 4) (ret := (some .int)) (by decide) rfl ?_
  intro p e s m args below meth c s₁ B hml hv
  obtain ⟨hav, ⟨hsz, hP, hK, hD0, hE⟩, hDX⟩ := hv
  have hx := B.exec
  have hb := B.bytes
  have hr := B.returns
  have hTX : ∀ w ∈ TBX, w.before args s = true := fun w h => atoms_spec (ws := Cond.codeWith yL_witness cL_witness 4 (some .int) [(0, 9, 12, 21)] :: TBX) B.pre w (List.mem_cons_of_mem _ h)
  have htb : ∀ w ∈ TB, w.before args s = true := fun w h => hTX w (List.mem_append_left _ h)
  have hown : s.vm.findClass "CircuitProverLaw" = some m.cls := findClass_of_methodNamed B.named
  have hlocks := B.notSynchronized
  have htab : c.exceptionTable.toList = tableOf [(0, 9, 12, 21)] := vx_table (x := yL_witness) B (atoms_spec (ws := Cond.codeWith yL_witness cL_witness 4 (some .int) [(0, 9, 12, 21)] :: TBX) B.pre _ List.mem_cons_self)
  subst hsz
  have hD := hD0.self (sz := s.heap.size)
  clear hD0
  generalize hRm : (headSpec (Cond.codeWith yL_witness cL_witness 4 (some .int) [(0, 9, 12, 21)] :: TBX) { frames := 8, cells := 1, slots := 6, locals := 131 }).room = R
  have hRf : R.frames = 8 := by rw [← hRm]; rfl
  have hRl : R.locals = 131 := by rw [← hRm]; rfl
  have hRc : R.cells = 1 := by rw [← hRm]; rfl
  have hRs : R.slots = 6 := by rw [← hRm]; rfl
  clear hRm
  generalize hAe : va_A [(qc, .inr (5, [.ref q, .ref qn, .ref qk, .ref qa, .ref qd, .int (zB false)])), (qb, aJ G 1 bx)] s.heap.size = A at hD hE ⊢
  have hA : ∀ q : Nat, s.heap.size ≤ q → A q := fun q h => by rw [← hAe]; exact Or.inr h
  clear hAe
  have hS : va_S A s.heap s.heap [] := va_S.rf
  have hl := lv_entry ([.ref qc, .int x, .ref qb]) (n := 4) (Nat.le_of_ble_eq_true rfl)
  have hent := lg_entry_eq m ([.ref qc, .int x, .ref qb]) 4
  rw [← hav] at hent
  rw [hent]
  clear hent hav
  generalize (lg_sl ([.ref qc, .int x, .ref qb]) ++ List.replicate (4 - (lg_sl ([.ref qc, .int x, .ref qb])).length) Slot.unset).toArray = ls at hl ⊢
  have hl : lv_has ls 4 [(0, .ref qc), (1, .int x), (2, .ref qb)] := hl
  generalize hQ : vx_MQ below _ _ args s 1 6 _ = Q
  have hP : va_P (gD G) vC [(qc, .inr (5, [.ref q, .ref qn, .ref qk, .ref qa, .ref qd, .int (zB false)])), (qb, aJ G 1 bx)] s.heap := hP
  obtain ⟨H, hH⟩ : ∃ H : Heap, H = s.heap := ⟨_, rfl⟩
  obtain ⟨locs, hlc⟩ : ∃ L : List Loc, L = [] := ⟨_, rfl⟩
  have hS : va_S A s.heap H locs := by rw [hH, hlc]; exact hS
  have hP : va_P (gD G) vC [(qc, .inr (5, [.ref q, .ref qn, .ref qk, .ref qa, .ref qd, .int (zB false)])), (qb, aJ G 1 bx)] H := by rw [hH]; exact hP
  have hgo : W p l e R s m args below meth c H locs 0 0 Q (F0 m 0 ls []) := by
    clear hH hlc
    refine lv_aload_n hx hb dL_witness_0 rfl (lv_at hl 2 rfl) ?_
    refine lv_iconst (v := nI 0) hx hb dL_witness_1 (by decide) ?_
    refine lv_aload_n hx hb dL_witness_2 rfl (lv_at hl 0 rfl) ?_
    refine lv_iload_n hx hb dL_witness_3 rfl (lv_at hl 1 rfl) ?_
    refine k_iX (ws2 := fun _ => [(qc, .inr (5, [.ref q, .ref qn, .ref qk, .ref qa, .ref qd, .int (zB false)])), (qb, aJ G 1 bx)]) (wr := [(qb, aJ G 1 bx)]) (k_runVX (n := 1) (As := [.int x]) (rest := [.int (nI 0), .ref qb]) hx hb hml hown hTX hP hD hK hS hA hE hDX (k_C_witness_x l htr G H.size qc q qn qk qa qd x ) b590 b591 b592 b1 b593 (by decide +kernel) rfl rfl ⟨by rw [hRf]; exact Nat.le_of_ble_eq_true rfl, by rw [hRl]; exact Nat.le_of_ble_eq_true rfl⟩ [0] rfl (by decide) 0 rfl rfl rfl rfl hl.1 rfl (Nat.le_of_ble_eq_true rfl) dL_witness_4 ⟨by rw [hRc]; exact Nat.le_of_ble_eq_true rfl, by rw [hRs]; exact Nat.le_of_ble_eq_true rfl⟩) hP hD hS hA [0] [1] [1, 0] rfl rfl (by decide) (by decide) (fun u => rfl) (by decide) (fun u H locs q9 ce hw hP hD hS hce hcv hcl => ?_)
    have hP : va_P (gD G) vC [(qc, .inr (5, [.ref q, .ref qn, .ref qk, .ref qa, .ref qd, .int (zB false)])), (qb, aJ G 1 bx)] H := hP
    have hD : va_D A [(qc, .inr (5, [.ref q, .ref qn, .ref qk, .ref qa, .ref qd, .int (zB false)])), (qb, aJ G 1 bx)] := hD
    refine vx_catch (name := "java/lang/IllegalStateException") hown [] _ _ htab (fun z hz => nomatch hz) (by decide) (by decide) (htb _ b502) (DX.use hDX (.castable "java/lang/IllegalStateException" "java/lang/IllegalStateException") (by decide)) hce hcv hcl ?_
    refine W.eq (g2 := F0 m 12 ls [.ref q9]) rfl ?_
    refine lv_astore_n (lv' := [(3, .ref q9), (0, .ref qc), (1, .int x), (2, .ref qb)]) hx hb dL_witness_12 rfl hl (by decide) rfl (fun ls hl => ?_)
    refine lv_iconst (v := nI 1) hx hb dL_witness_13 (by decide) ?_
    -- end 0
    rw [← hQ]
    exact vx_ret (k_iret hx hb hr hlocks rfl (u := bx) (⟨rfl, rfl⟩) hP hD hK hS dL_witness_14)
  rw [hH, hlc] at hgo
  exact hgo
set_option maxRecDepth 100000 in
set_option maxHeartbeats 4000000 in
theorem k_L_bound_x (l : Launch) (htr : l.stackTraces = false) (G : GG) (sz : Nat) (qc : Nat) (q : Nat) (qn : Nat) (qk : Nat) (qa : Nat) (qd : Nat) (qb : Nat) (bx : Nat → Int64) : vx_Met l yL_bound (Cond.codeWith yL_bound cL_bound 3 (some .int) [(0, 8, 11, 21)] :: TBX) { frames := 8, cells := 1, slots := 6, locals := 130 } (va_Pc [.ref qc, .ref qb] (befX G [(qc, .inr (5, [.ref q, .ref qn, .ref qk, .ref qa, .ref qd, .int (zB false)])), (qb, aJ G 1 bx)] sz)) (va_Qi (fun (r : Int32) (u : (Nat → Int64)) => (nI 1 = r ∧ bx = u)) (fun u => aft G (va_A [(qc, .inr (5, [.ref q, .ref qn, .ref qk, .ref qa, .ref qd, .int (zB false)])), (qb, aJ G 1 bx)] sz) ((fun (u : (Nat → Int64)) => [(qc, .inr (5, [.ref q, .ref qn, .ref qk, .ref qa, .ref qd, .int (zB false)])), (qb, aJ G 1 u)]) u)) (va_A [(qc, .inr (5, [.ref q, .ref qn, .ref qk, .ref qa, .ref qd, .int (zB false)])), (qb, aJ G 1 bx)] sz)) (fun _ _ _ => False) 1 6 (va_A [(qc, .inr (5, [.ref q, .ref qn, .ref qk, .ref qa, .ref qd, .int (zB false)])), (qb, aJ G 1 bx)] sz) := by
  refine vx_ofWH (cc := cL_bound) (maxL := 3) (ret := (some .int)) (by decide) rfl ?_
  intro p e s m args below meth c s₁ B hml hv
  obtain ⟨hav, ⟨hsz, hP, hK, hD0, hE⟩, hDX⟩ := hv
  have hx := B.exec
  have hb := B.bytes
  have hr := B.returns
  have hTX : ∀ w ∈ TBX, w.before args s = true := fun w h => atoms_spec (ws := Cond.codeWith yL_bound cL_bound 3 (some .int) [(0, 8, 11, 21)] :: TBX) B.pre w (List.mem_cons_of_mem _ h)
  have htb : ∀ w ∈ TB, w.before args s = true := fun w h => hTX w (List.mem_append_left _ h)
  have hown : s.vm.findClass "CircuitProverLaw" = some m.cls := findClass_of_methodNamed B.named
  have hlocks := B.notSynchronized
  have htab : c.exceptionTable.toList = tableOf [(0, 8, 11, 21)] := vx_table (x := yL_bound) B (atoms_spec (ws := Cond.codeWith yL_bound cL_bound 3 (some .int) [(0, 8, 11, 21)] :: TBX) B.pre _ List.mem_cons_self)
  subst hsz
  have hD := hD0.self (sz := s.heap.size)
  clear hD0
  generalize hRm : (headSpec (Cond.codeWith yL_bound cL_bound 3 (some .int) [(0, 8, 11, 21)] :: TBX) { frames := 8, cells := 1, slots := 6, locals := 130 }).room = R
  have hRf : R.frames = 8 := by rw [← hRm]; rfl
  have hRl : R.locals = 130 := by rw [← hRm]; rfl
  have hRc : R.cells = 1 := by rw [← hRm]; rfl
  have hRs : R.slots = 6 := by rw [← hRm]; rfl
  clear hRm
  generalize hAe : va_A [(qc, .inr (5, [.ref q, .ref qn, .ref qk, .ref qa, .ref qd, .int (zB false)])), (qb, aJ G 1 bx)] s.heap.size = A at hD hE ⊢
  have hA : ∀ q : Nat, s.heap.size ≤ q → A q := fun q h => by rw [← hAe]; exact Or.inr h
  clear hAe
  have hS : va_S A s.heap s.heap [] := va_S.rf
  have hl := lv_entry ([.ref qc, .ref qb]) (n := 3) (Nat.le_of_ble_eq_true rfl)
  have hent := lg_entry_eq m ([.ref qc, .ref qb]) 3
  rw [← hav] at hent
  rw [hent]
  clear hent hav
  generalize (lg_sl ([.ref qc, .ref qb]) ++ List.replicate (3 - (lg_sl ([.ref qc, .ref qb])).length) Slot.unset).toArray = ls at hl ⊢
  have hl : lv_has ls 3 [(0, .ref qc), (1, .ref qb)] := hl
  generalize hQ : vx_MQ below _ _ args s 1 6 _ = Q
  have hP : va_P (gD G) vC [(qc, .inr (5, [.ref q, .ref qn, .ref qk, .ref qa, .ref qd, .int (zB false)])), (qb, aJ G 1 bx)] s.heap := hP
  obtain ⟨H, hH⟩ : ∃ H : Heap, H = s.heap := ⟨_, rfl⟩
  obtain ⟨locs, hlc⟩ : ∃ L : List Loc, L = [] := ⟨_, rfl⟩
  have hS : va_S A s.heap H locs := by rw [hH, hlc]; exact hS
  have hP : va_P (gD G) vC [(qc, .inr (5, [.ref q, .ref qn, .ref qk, .ref qa, .ref qd, .int (zB false)])), (qb, aJ G 1 bx)] H := by rw [hH]; exact hP
  have hgo : W p l e R s m args below meth c H locs 0 0 Q (F0 m 0 ls []) := by
    clear hH hlc
    refine lv_aload_n hx hb dL_bound_0 rfl (lv_at hl 1 rfl) ?_
    refine lv_iconst (v := nI 0) hx hb dL_bound_1 (by decide) ?_
    refine lv_aload_n hx hb dL_bound_2 rfl (lv_at hl 0 rfl) ?_
    refine k_iX (ws2 := fun _ => [(qc, .inr (5, [.ref q, .ref qn, .ref qk, .ref qa, .ref qd, .int (zB false)])), (qb, aJ G 1 bx)]) (wr := [(qb, aJ G 1 bx)]) (k_runVX (n := 0) (As := []) (rest := [.int (nI 0), .ref qb]) hx hb hml hown hTX hP hD hK hS hA hE hDX (k_C_bound_x l htr G H.size qc q qn qk qa qd ) b597 b598 b599 b1 b600 (by decide +kernel) rfl rfl ⟨by rw [hRf]; exact Nat.le_of_ble_eq_true rfl, by rw [hRl]; exact Nat.le_of_ble_eq_true rfl⟩ [0] rfl (by decide) 0 rfl rfl rfl rfl hl.1 rfl (Nat.le_of_ble_eq_true rfl) dL_bound_3 ⟨by rw [hRc]; exact Nat.le_of_ble_eq_true rfl, by rw [hRs]; exact Nat.le_of_ble_eq_true rfl⟩) hP hD hS hA [0] [1] [1, 0] rfl rfl (by decide) (by decide) (fun u => rfl) (by decide) (fun u H locs q9 ce hw hP hD hS hce hcv hcl => ?_)
    have hP : va_P (gD G) vC [(qc, .inr (5, [.ref q, .ref qn, .ref qk, .ref qa, .ref qd, .int (zB false)])), (qb, aJ G 1 bx)] H := hP
    have hD : va_D A [(qc, .inr (5, [.ref q, .ref qn, .ref qk, .ref qa, .ref qd, .int (zB false)])), (qb, aJ G 1 bx)] := hD
    refine vx_catch (name := "java/lang/IllegalStateException") hown [] _ _ htab (fun z hz => nomatch hz) (by decide) (by decide) (htb _ b502) (DX.use hDX (.castable "java/lang/IllegalStateException" "java/lang/IllegalStateException") (by decide)) hce hcv hcl ?_
    refine W.eq (g2 := F0 m 11 ls [.ref q9]) rfl ?_
    refine lv_astore_n (lv' := [(2, .ref q9), (0, .ref qc), (1, .ref qb)]) hx hb dL_bound_11 rfl hl (by decide) rfl (fun ls hl => ?_)
    refine lv_iconst (v := nI 1) hx hb dL_bound_12 (by decide) ?_
    -- end 0
    rw [← hQ]
    exact vx_ret (k_iret hx hb hr hlocks rfl (u := bx) (⟨rfl, rfl⟩) hP hD hK hS dL_bound_13)
  rw [hH, hlc] at hgo
  exact hgo
set_option maxRecDepth 100000 in
set_option maxHeartbeats 4000000 in
theorem k_L_rounds_x (l : Launch) (htr : l.stackTraces = false) (G : GG) (sz : Nat) (qc : Nat) (q : Nat) (qn : Nat) (qk : Nat) (qa : Nat) (qd : Nat) (qb : Nat) (bx : Nat → Int64) : vx_Met l yL_rounds (Cond.codeWith yL_rounds cL_rounds 3 (some .int) [(0, 8, 11, 21)] :: TBX) { frames := 8, cells := 1, slots := 6, locals := 130 } (va_Pc [.ref qc, .ref qb] (befX G [(qc, .inr (5, [.ref q, .ref qn, .ref qk, .ref qa, .ref qd, .int (zB false)])), (qb, aJ G 1 bx)] sz)) (va_Qi (fun (r : Int32) (u : (Nat → Int64)) => (nI 1 = r ∧ bx = u)) (fun u => aft G (va_A [(qc, .inr (5, [.ref q, .ref qn, .ref qk, .ref qa, .ref qd, .int (zB false)])), (qb, aJ G 1 bx)] sz) ((fun (u : (Nat → Int64)) => [(qc, .inr (5, [.ref q, .ref qn, .ref qk, .ref qa, .ref qd, .int (zB false)])), (qb, aJ G 1 u)]) u)) (va_A [(qc, .inr (5, [.ref q, .ref qn, .ref qk, .ref qa, .ref qd, .int (zB false)])), (qb, aJ G 1 bx)] sz)) (fun _ _ _ => False) 1 6 (va_A [(qc, .inr (5, [.ref q, .ref qn, .ref qk, .ref qa, .ref qd, .int (zB false)])), (qb, aJ G 1 bx)] sz) := by
  refine vx_ofWH (cc := cL_rounds) (maxL := 3) (ret := (some .int)) (by decide) rfl ?_
  intro p e s m args below meth c s₁ B hml hv
  obtain ⟨hav, ⟨hsz, hP, hK, hD0, hE⟩, hDX⟩ := hv
  have hx := B.exec
  have hb := B.bytes
  have hr := B.returns
  have hTX : ∀ w ∈ TBX, w.before args s = true := fun w h => atoms_spec (ws := Cond.codeWith yL_rounds cL_rounds 3 (some .int) [(0, 8, 11, 21)] :: TBX) B.pre w (List.mem_cons_of_mem _ h)
  have htb : ∀ w ∈ TB, w.before args s = true := fun w h => hTX w (List.mem_append_left _ h)
  have hown : s.vm.findClass "CircuitProverLaw" = some m.cls := findClass_of_methodNamed B.named
  have hlocks := B.notSynchronized
  have htab : c.exceptionTable.toList = tableOf [(0, 8, 11, 21)] := vx_table (x := yL_rounds) B (atoms_spec (ws := Cond.codeWith yL_rounds cL_rounds 3 (some .int) [(0, 8, 11, 21)] :: TBX) B.pre _ List.mem_cons_self)
  subst hsz
  have hD := hD0.self (sz := s.heap.size)
  clear hD0
  generalize hRm : (headSpec (Cond.codeWith yL_rounds cL_rounds 3 (some .int) [(0, 8, 11, 21)] :: TBX) { frames := 8, cells := 1, slots := 6, locals := 130 }).room = R
  have hRf : R.frames = 8 := by rw [← hRm]; rfl
  have hRl : R.locals = 130 := by rw [← hRm]; rfl
  have hRc : R.cells = 1 := by rw [← hRm]; rfl
  have hRs : R.slots = 6 := by rw [← hRm]; rfl
  clear hRm
  generalize hAe : va_A [(qc, .inr (5, [.ref q, .ref qn, .ref qk, .ref qa, .ref qd, .int (zB false)])), (qb, aJ G 1 bx)] s.heap.size = A at hD hE ⊢
  have hA : ∀ q : Nat, s.heap.size ≤ q → A q := fun q h => by rw [← hAe]; exact Or.inr h
  clear hAe
  have hS : va_S A s.heap s.heap [] := va_S.rf
  have hl := lv_entry ([.ref qc, .ref qb]) (n := 3) (Nat.le_of_ble_eq_true rfl)
  have hent := lg_entry_eq m ([.ref qc, .ref qb]) 3
  rw [← hav] at hent
  rw [hent]
  clear hent hav
  generalize (lg_sl ([.ref qc, .ref qb]) ++ List.replicate (3 - (lg_sl ([.ref qc, .ref qb])).length) Slot.unset).toArray = ls at hl ⊢
  have hl : lv_has ls 3 [(0, .ref qc), (1, .ref qb)] := hl
  generalize hQ : vx_MQ below _ _ args s 1 6 _ = Q
  have hP : va_P (gD G) vC [(qc, .inr (5, [.ref q, .ref qn, .ref qk, .ref qa, .ref qd, .int (zB false)])), (qb, aJ G 1 bx)] s.heap := hP
  obtain ⟨H, hH⟩ : ∃ H : Heap, H = s.heap := ⟨_, rfl⟩
  obtain ⟨locs, hlc⟩ : ∃ L : List Loc, L = [] := ⟨_, rfl⟩
  have hS : va_S A s.heap H locs := by rw [hH, hlc]; exact hS
  have hP : va_P (gD G) vC [(qc, .inr (5, [.ref q, .ref qn, .ref qk, .ref qa, .ref qd, .int (zB false)])), (qb, aJ G 1 bx)] H := by rw [hH]; exact hP
  have hgo : W p l e R s m args below meth c H locs 0 0 Q (F0 m 0 ls []) := by
    clear hH hlc
    refine lv_aload_n hx hb dL_rounds_0 rfl (lv_at hl 1 rfl) ?_
    refine lv_iconst (v := nI 0) hx hb dL_rounds_1 (by decide) ?_
    refine lv_aload_n hx hb dL_rounds_2 rfl (lv_at hl 0 rfl) ?_
    refine k_iX (ws2 := fun _ => [(qc, .inr (5, [.ref q, .ref qn, .ref qk, .ref qa, .ref qd, .int (zB false)])), (qb, aJ G 1 bx)]) (wr := [(qb, aJ G 1 bx)]) (k_runVX (n := 0) (As := []) (rest := [.int (nI 0), .ref qb]) hx hb hml hown hTX hP hD hK hS hA hE hDX (k_C_rounds_x l htr G H.size qc q qn qk qa qd ) b604 b605 b606 b1 b607 (by decide +kernel) rfl rfl ⟨by rw [hRf]; exact Nat.le_of_ble_eq_true rfl, by rw [hRl]; exact Nat.le_of_ble_eq_true rfl⟩ [0] rfl (by decide) 0 rfl rfl rfl rfl hl.1 rfl (Nat.le_of_ble_eq_true rfl) dL_rounds_3 ⟨by rw [hRc]; exact Nat.le_of_ble_eq_true rfl, by rw [hRs]; exact Nat.le_of_ble_eq_true rfl⟩) hP hD hS hA [0] [1] [1, 0] rfl rfl (by decide) (by decide) (fun u => rfl) (by decide) (fun u H locs q9 ce hw hP hD hS hce hcv hcl => ?_)
    have hP : va_P (gD G) vC [(qc, .inr (5, [.ref q, .ref qn, .ref qk, .ref qa, .ref qd, .int (zB false)])), (qb, aJ G 1 bx)] H := hP
    have hD : va_D A [(qc, .inr (5, [.ref q, .ref qn, .ref qk, .ref qa, .ref qd, .int (zB false)])), (qb, aJ G 1 bx)] := hD
    refine vx_catch (name := "java/lang/IllegalStateException") hown [] _ _ htab (fun z hz => nomatch hz) (by decide) (by decide) (htb _ b502) (DX.use hDX (.castable "java/lang/IllegalStateException" "java/lang/IllegalStateException") (by decide)) hce hcv hcl ?_
    refine W.eq (g2 := F0 m 11 ls [.ref q9]) rfl ?_
    refine lv_astore_n (lv' := [(2, .ref q9), (0, .ref qc), (1, .ref qb)]) hx hb dL_rounds_11 rfl hl (by decide) rfl (fun ls hl => ?_)
    refine lv_iconst (v := nI 1) hx hb dL_rounds_12 (by decide) ?_
    -- end 0
    rw [← hQ]
    exact vx_ret (k_iret hx hb hr hlocks rfl (u := bx) (⟨rfl, rfl⟩) hP hD hK hS dL_rounds_13)
  rw [hH, hlc] at hgo
  exact hgo
set_option maxRecDepth 100000 in
set_option maxHeartbeats 4000000 in
theorem k_L_holds_x (l : Launch) (htr : l.stackTraces = false) (G : GG) (sz : Nat) (qc : Nat) (q : Nat) (qn : Nat) (qk : Nat) (qa : Nat) (qd : Nat) (x : Int32) (qb : Nat) (bx : Nat → Int64) : vx_Met l yL_holds (Cond.codeWith yL_holds cL_holds 4 (some .int) [(0, 16, 19, 21)] :: TBX) { frames := 8, cells := 1, slots := 6, locals := 131 } (va_Pc [.ref qc, .int x, .ref qb] (befX G [(qc, .inr (5, [.ref q, .ref qn, .ref qk, .ref qa, .ref qd, .int (zB false)])), (qb, aJ G 1 bx)] sz)) (va_Qi (fun (r : Int32) (u : (Nat → Int64)) => (nI 1 = r ∧ bx = u)) (fun u => aft G (va_A [(qc, .inr (5, [.ref q, .ref qn, .ref qk, .ref qa, .ref qd, .int (zB false)])), (qb, aJ G 1 bx)] sz) ((fun (u : (Nat → Int64)) => [(qc, .inr (5, [.ref q, .ref qn, .ref qk, .ref qa, .ref qd, .int (zB false)])), (qb, aJ G 1 u)]) u)) (va_A [(qc, .inr (5, [.ref q, .ref qn, .ref qk, .ref qa, .ref qd, .int (zB false)])), (qb, aJ G 1 bx)] sz)) (fun _ _ _ => False) 1 6 (va_A [(qc, .inr (5, [.ref q, .ref qn, .ref qk, .ref qa, .ref qd, .int (zB false)])), (qb, aJ G 1 bx)] sz) := by
  refine vx_ofWH (cc := cL_holds) (maxL := 4) (ret := (some .int)) (by decide) rfl ?_
  intro p e s m args below meth c s₁ B hml hv
  obtain ⟨hav, ⟨hsz, hP, hK, hD0, hE⟩, hDX⟩ := hv
  have hx := B.exec
  have hb := B.bytes
  have hr := B.returns
  have hTX : ∀ w ∈ TBX, w.before args s = true := fun w h => atoms_spec (ws := Cond.codeWith yL_holds cL_holds 4 (some .int) [(0, 16, 19, 21)] :: TBX) B.pre w (List.mem_cons_of_mem _ h)
  have htb : ∀ w ∈ TB, w.before args s = true := fun w h => hTX w (List.mem_append_left _ h)
  have hown : s.vm.findClass "CircuitProverLaw" = some m.cls := findClass_of_methodNamed B.named
  have hlocks := B.notSynchronized
  have htab : c.exceptionTable.toList = tableOf [(0, 16, 19, 21)] := vx_table (x := yL_holds) B (atoms_spec (ws := Cond.codeWith yL_holds cL_holds 4 (some .int) [(0, 16, 19, 21)] :: TBX) B.pre _ List.mem_cons_self)
  subst hsz
  have hD := hD0.self (sz := s.heap.size)
  clear hD0
  generalize hRm : (headSpec (Cond.codeWith yL_holds cL_holds 4 (some .int) [(0, 16, 19, 21)] :: TBX) { frames := 8, cells := 1, slots := 6, locals := 131 }).room = R
  have hRf : R.frames = 8 := by rw [← hRm]; rfl
  have hRl : R.locals = 131 := by rw [← hRm]; rfl
  have hRc : R.cells = 1 := by rw [← hRm]; rfl
  have hRs : R.slots = 6 := by rw [← hRm]; rfl
  clear hRm
  generalize hAe : va_A [(qc, .inr (5, [.ref q, .ref qn, .ref qk, .ref qa, .ref qd, .int (zB false)])), (qb, aJ G 1 bx)] s.heap.size = A at hD hE ⊢
  have hA : ∀ q : Nat, s.heap.size ≤ q → A q := fun q h => by rw [← hAe]; exact Or.inr h
  clear hAe
  have hS : va_S A s.heap s.heap [] := va_S.rf
  have hl := lv_entry ([.ref qc, .int x, .ref qb]) (n := 4) (Nat.le_of_ble_eq_true rfl)
  have hent := lg_entry_eq m ([.ref qc, .int x, .ref qb]) 4
  rw [← hav] at hent
  rw [hent]
  clear hent hav
  generalize (lg_sl ([.ref qc, .int x, .ref qb]) ++ List.replicate (4 - (lg_sl ([.ref qc, .int x, .ref qb])).length) Slot.unset).toArray = ls at hl ⊢
  have hl : lv_has ls 4 [(0, .ref qc), (1, .int x), (2, .ref qb)] := hl
  generalize hQ : vx_MQ below _ _ args s 1 6 _ = Q
  have hP : va_P (gD G) vC [(qc, .inr (5, [.ref q, .ref qn, .ref qk, .ref qa, .ref qd, .int (zB false)])), (qb, aJ G 1 bx)] s.heap := hP
  obtain ⟨H, hH⟩ : ∃ H : Heap, H = s.heap := ⟨_, rfl⟩
  obtain ⟨locs, hlc⟩ : ∃ L : List Loc, L = [] := ⟨_, rfl⟩
  have hS : va_S A s.heap H locs := by rw [hH, hlc]; exact hS
  have hP : va_P (gD G) vC [(qc, .inr (5, [.ref q, .ref qn, .ref qk, .ref qa, .ref qd, .int (zB false)])), (qb, aJ G 1 bx)] H := by rw [hH]; exact hP
  have hgo : W p l e R s m args below meth c H locs 0 0 Q (F0 m 0 ls []) := by
    clear hH hlc
    refine lv_aload_n hx hb dL_holds_0 rfl (lv_at hl 2 rfl) ?_
    refine lv_iconst (v := nI 0) hx hb dL_holds_1 (by decide) ?_
    refine lv_aload_n hx hb dL_holds_2 rfl (lv_at hl 0 rfl) ?_
    refine lv_iload_n hx hb dL_holds_3 rfl (lv_at hl 1 rfl) ?_
    refine k_iX (ws2 := fun _ => [(qc, .inr (5, [.ref q, .ref qn, .ref qk, .ref qa, .ref qd, .int (zB false)])), (qb, aJ G 1 bx)]) (wr := [(qb, aJ G 1 bx)]) (k_runVX (n := 1) (As := [.int x]) (rest := [.int (nI 0), .ref qb]) hx hb hml hown hTX hP hD hK hS hA hE hDX (k_C_holds_x l htr G H.size qc q qn qk qa qd x ) b611 b612 b613 b1 b614 (by decide +kernel) rfl rfl ⟨by rw [hRf]; exact Nat.le_of_ble_eq_true rfl, by rw [hRl]; exact Nat.le_of_ble_eq_true rfl⟩ [0] rfl (by decide) 0 rfl rfl rfl rfl hl.1 rfl (Nat.le_of_ble_eq_true rfl) dL_holds_4 ⟨by rw [hRc]; exact Nat.le_of_ble_eq_true rfl, by rw [hRs]; exact Nat.le_of_ble_eq_true rfl⟩) hP hD hS hA [0] [1] [1, 0] rfl rfl (by decide) (by decide) (fun u => rfl) (by decide) (fun u H locs q9 ce hw hP hD hS hce hcv hcl => ?_)
    have hP : va_P (gD G) vC [(qc, .inr (5, [.ref q, .ref qn, .ref qk, .ref qa, .ref qd, .int (zB false)])), (qb, aJ G 1 bx)] H := hP
    have hD : va_D A [(qc, .inr (5, [.ref q, .ref qn, .ref qk, .ref qa, .ref qd, .int (zB false)])), (qb, aJ G 1 bx)] := hD
    refine vx_catch (name := "java/lang/IllegalStateException") hown [] _ _ htab (fun z hz => nomatch hz) (by decide) (by decide) (htb _ b502) (DX.use hDX (.castable "java/lang/IllegalStateException" "java/lang/IllegalStateException") (by decide)) hce hcv hcl ?_
    refine W.eq (g2 := F0 m 19 ls [.ref q9]) rfl ?_
    refine lv_astore_n (lv' := [(3, .ref q9), (0, .ref qc), (1, .int x), (2, .ref qb)]) hx hb dL_holds_19 rfl hl (by decide) rfl (fun ls hl => ?_)
    refine lv_iconst (v := nI 1) hx hb dL_holds_20 (by decide) ?_
    -- end 0
    rw [← hQ]
    exact vx_ret (k_iret hx hb hr hlocks rfl (u := bx) (⟨rfl, rfl⟩) hP hD hK hS dL_holds_21)
  rw [hH, hlc] at hgo
  exact hgo
set_option maxRecDepth 100000 in
set_option maxHeartbeats 4000000 in
theorem k_L_count_x (l : Launch) (htr : l.stackTraces = false) (G : GG) (sz : Nat) (qc : Nat) (q : Nat) (qn : Nat) (qk : Nat) (qa : Nat) (qd : Nat) (x : Int32) (qb : Nat) (bx : Nat → Int64) : vx_Met l yL_count (Cond.codeWith yL_count cL_count 4 (some .int) [(0, 9, 12, 21)] :: TBX) { frames := 8, cells := 1, slots := 6, locals := 131 } (va_Pc [.ref qc, .int x, .ref qb] (befX G [(qc, .inr (5, [.ref q, .ref qn, .ref qk, .ref qa, .ref qd, .int (zB false)])), (qb, aJ G 1 bx)] sz)) (va_Qi (fun (r : Int32) (u : (Nat → Int64)) => (nI 1 = r ∧ bx = u)) (fun u => aft G (va_A [(qc, .inr (5, [.ref q, .ref qn, .ref qk, .ref qa, .ref qd, .int (zB false)])), (qb, aJ G 1 bx)] sz) ((fun (u : (Nat → Int64)) => [(qc, .inr (5, [.ref q, .ref qn, .ref qk, .ref qa, .ref qd, .int (zB false)])), (qb, aJ G 1 u)]) u)) (va_A [(qc, .inr (5, [.ref q, .ref qn, .ref qk, .ref qa, .ref qd, .int (zB false)])), (qb, aJ G 1 bx)] sz)) (fun _ _ _ => False) 1 6 (va_A [(qc, .inr (5, [.ref q, .ref qn, .ref qk, .ref qa, .ref qd, .int (zB false)])), (qb, aJ G 1 bx)] sz) := by
  refine vx_ofWH (cc := cL_count) (maxL := 4) (ret := (some .int)) (by decide) rfl ?_
  intro p e s m args below meth c s₁ B hml hv
  obtain ⟨hav, ⟨hsz, hP, hK, hD0, hE⟩, hDX⟩ := hv
  have hx := B.exec
  have hb := B.bytes
  have hr := B.returns
  have hTX : ∀ w ∈ TBX, w.before args s = true := fun w h => atoms_spec (ws := Cond.codeWith yL_count cL_count 4 (some .int) [(0, 9, 12, 21)] :: TBX) B.pre w (List.mem_cons_of_mem _ h)
  have htb : ∀ w ∈ TB, w.before args s = true := fun w h => hTX w (List.mem_append_left _ h)
  have hown : s.vm.findClass "CircuitProverLaw" = some m.cls := findClass_of_methodNamed B.named
  have hlocks := B.notSynchronized
  have htab : c.exceptionTable.toList = tableOf [(0, 9, 12, 21)] := vx_table (x := yL_count) B (atoms_spec (ws := Cond.codeWith yL_count cL_count 4 (some .int) [(0, 9, 12, 21)] :: TBX) B.pre _ List.mem_cons_self)
  subst hsz
  have hD := hD0.self (sz := s.heap.size)
  clear hD0
  generalize hRm : (headSpec (Cond.codeWith yL_count cL_count 4 (some .int) [(0, 9, 12, 21)] :: TBX) { frames := 8, cells := 1, slots := 6, locals := 131 }).room = R
  have hRf : R.frames = 8 := by rw [← hRm]; rfl
  have hRl : R.locals = 131 := by rw [← hRm]; rfl
  have hRc : R.cells = 1 := by rw [← hRm]; rfl
  have hRs : R.slots = 6 := by rw [← hRm]; rfl
  clear hRm
  generalize hAe : va_A [(qc, .inr (5, [.ref q, .ref qn, .ref qk, .ref qa, .ref qd, .int (zB false)])), (qb, aJ G 1 bx)] s.heap.size = A at hD hE ⊢
  have hA : ∀ q : Nat, s.heap.size ≤ q → A q := fun q h => by rw [← hAe]; exact Or.inr h
  clear hAe
  have hS : va_S A s.heap s.heap [] := va_S.rf
  have hl := lv_entry ([.ref qc, .int x, .ref qb]) (n := 4) (Nat.le_of_ble_eq_true rfl)
  have hent := lg_entry_eq m ([.ref qc, .int x, .ref qb]) 4
  rw [← hav] at hent
  rw [hent]
  clear hent hav
  generalize (lg_sl ([.ref qc, .int x, .ref qb]) ++ List.replicate (4 - (lg_sl ([.ref qc, .int x, .ref qb])).length) Slot.unset).toArray = ls at hl ⊢
  have hl : lv_has ls 4 [(0, .ref qc), (1, .int x), (2, .ref qb)] := hl
  generalize hQ : vx_MQ below _ _ args s 1 6 _ = Q
  have hP : va_P (gD G) vC [(qc, .inr (5, [.ref q, .ref qn, .ref qk, .ref qa, .ref qd, .int (zB false)])), (qb, aJ G 1 bx)] s.heap := hP
  obtain ⟨H, hH⟩ : ∃ H : Heap, H = s.heap := ⟨_, rfl⟩
  obtain ⟨locs, hlc⟩ : ∃ L : List Loc, L = [] := ⟨_, rfl⟩
  have hS : va_S A s.heap H locs := by rw [hH, hlc]; exact hS
  have hP : va_P (gD G) vC [(qc, .inr (5, [.ref q, .ref qn, .ref qk, .ref qa, .ref qd, .int (zB false)])), (qb, aJ G 1 bx)] H := by rw [hH]; exact hP
  have hgo : W p l e R s m args below meth c H locs 0 0 Q (F0 m 0 ls []) := by
    clear hH hlc
    refine lv_aload_n hx hb dL_count_0 rfl (lv_at hl 2 rfl) ?_
    refine lv_iconst (v := nI 0) hx hb dL_count_1 (by decide) ?_
    refine lv_aload_n hx hb dL_count_2 rfl (lv_at hl 0 rfl) ?_
    refine lv_iload_n hx hb dL_count_3 rfl (lv_at hl 1 rfl) ?_
    refine k_iX (ws2 := fun _ => [(qc, .inr (5, [.ref q, .ref qn, .ref qk, .ref qa, .ref qd, .int (zB false)])), (qb, aJ G 1 bx)]) (wr := [(qb, aJ G 1 bx)]) (k_runVX (n := 1) (As := [.int x]) (rest := [.int (nI 0), .ref qb]) hx hb hml hown hTX hP hD hK hS hA hE hDX (k_C_count_x l htr G H.size qc q qn qk qa qd x ) b619 b620 b621 b1 b622 (by decide +kernel) rfl rfl ⟨by rw [hRf]; exact Nat.le_of_ble_eq_true rfl, by rw [hRl]; exact Nat.le_of_ble_eq_true rfl⟩ [0] rfl (by decide) 0 rfl rfl rfl rfl hl.1 rfl (Nat.le_of_ble_eq_true rfl) dL_count_4 ⟨by rw [hRc]; exact Nat.le_of_ble_eq_true rfl, by rw [hRs]; exact Nat.le_of_ble_eq_true rfl⟩) hP hD hS hA [0] [1] [1, 0] rfl rfl (by decide) (by decide) (fun u => rfl) (by decide) (fun u H locs q9 ce hw hP hD hS hce hcv hcl => ?_)
    have hP : va_P (gD G) vC [(qc, .inr (5, [.ref q, .ref qn, .ref qk, .ref qa, .ref qd, .int (zB false)])), (qb, aJ G 1 bx)] H := hP
    have hD : va_D A [(qc, .inr (5, [.ref q, .ref qn, .ref qk, .ref qa, .ref qd, .int (zB false)])), (qb, aJ G 1 bx)] := hD
    refine vx_catch (name := "java/lang/IllegalStateException") hown [] _ _ htab (fun z hz => nomatch hz) (by decide) (by decide) (htb _ b502) (DX.use hDX (.castable "java/lang/IllegalStateException" "java/lang/IllegalStateException") (by decide)) hce hcv hcl ?_
    refine W.eq (g2 := F0 m 12 ls [.ref q9]) rfl ?_
    refine lv_astore_n (lv' := [(3, .ref q9), (0, .ref qc), (1, .int x), (2, .ref qb)]) hx hb dL_count_12 rfl hl (by decide) rfl (fun ls hl => ?_)
    refine lv_iconst (v := nI 1) hx hb dL_count_13 (by decide) ?_
    -- end 0
    rw [← hQ]
    exact vx_ret (k_iret hx hb hr hlocks rfl (u := bx) (⟨rfl, rfl⟩) hP hD hK hS dL_count_14)
  rw [hH, hlc] at hgo
  exact hgo
set_option maxRecDepth 100000 in
set_option maxHeartbeats 4000000 in
theorem k_L_size_x (l : Launch) (htr : l.stackTraces = false) (G : GG) (sz : Nat) (qc : Nat) (q : Nat) (qn : Nat) (qk : Nat) (qa : Nat) (qd : Nat) (x : Int32) (qb : Nat) (bx : Nat → Int64) : vx_Met l yL_size (Cond.codeWith yL_size cL_size 4 (some .int) [(0, 9, 12, 21)] :: TBX) { frames := 8, cells := 1, slots := 6, locals := 131 } (va_Pc [.ref qc, .int x, .ref qb] (befX G [(qc, .inr (5, [.ref q, .ref qn, .ref qk, .ref qa, .ref qd, .int (zB false)])), (qb, aJ G 1 bx)] sz)) (va_Qi (fun (r : Int32) (u : (Nat → Int64)) => (nI 1 = r ∧ bx = u)) (fun u => aft G (va_A [(qc, .inr (5, [.ref q, .ref qn, .ref qk, .ref qa, .ref qd, .int (zB false)])), (qb, aJ G 1 bx)] sz) ((fun (u : (Nat → Int64)) => [(qc, .inr (5, [.ref q, .ref qn, .ref qk, .ref qa, .ref qd, .int (zB false)])), (qb, aJ G 1 u)]) u)) (va_A [(qc, .inr (5, [.ref q, .ref qn, .ref qk, .ref qa, .ref qd, .int (zB false)])), (qb, aJ G 1 bx)] sz)) (fun _ _ _ => False) 1 6 (va_A [(qc, .inr (5, [.ref q, .ref qn, .ref qk, .ref qa, .ref qd, .int (zB false)])), (qb, aJ G 1 bx)] sz) := by
  refine vx_ofWH (cc := cL_size) (maxL := 4) (ret := (some .int)) (by decide) rfl ?_
  intro p e s m args below meth c s₁ B hml hv
  obtain ⟨hav, ⟨hsz, hP, hK, hD0, hE⟩, hDX⟩ := hv
  have hx := B.exec
  have hb := B.bytes
  have hr := B.returns
  have hTX : ∀ w ∈ TBX, w.before args s = true := fun w h => atoms_spec (ws := Cond.codeWith yL_size cL_size 4 (some .int) [(0, 9, 12, 21)] :: TBX) B.pre w (List.mem_cons_of_mem _ h)
  have htb : ∀ w ∈ TB, w.before args s = true := fun w h => hTX w (List.mem_append_left _ h)
  have hown : s.vm.findClass "CircuitProverLaw" = some m.cls := findClass_of_methodNamed B.named
  have hlocks := B.notSynchronized
  have htab : c.exceptionTable.toList = tableOf [(0, 9, 12, 21)] := vx_table (x := yL_size) B (atoms_spec (ws := Cond.codeWith yL_size cL_size 4 (some .int) [(0, 9, 12, 21)] :: TBX) B.pre _ List.mem_cons_self)
  subst hsz
  have hD := hD0.self (sz := s.heap.size)
  clear hD0
  generalize hRm : (headSpec (Cond.codeWith yL_size cL_size 4 (some .int) [(0, 9, 12, 21)] :: TBX) { frames := 8, cells := 1, slots := 6, locals := 131 }).room = R
  have hRf : R.frames = 8 := by rw [← hRm]; rfl
  have hRl : R.locals = 131 := by rw [← hRm]; rfl
  have hRc : R.cells = 1 := by rw [← hRm]; rfl
  have hRs : R.slots = 6 := by rw [← hRm]; rfl
  clear hRm
  generalize hAe : va_A [(qc, .inr (5, [.ref q, .ref qn, .ref qk, .ref qa, .ref qd, .int (zB false)])), (qb, aJ G 1 bx)] s.heap.size = A at hD hE ⊢
  have hA : ∀ q : Nat, s.heap.size ≤ q → A q := fun q h => by rw [← hAe]; exact Or.inr h
  clear hAe
  have hS : va_S A s.heap s.heap [] := va_S.rf
  have hl := lv_entry ([.ref qc, .int x, .ref qb]) (n := 4) (Nat.le_of_ble_eq_true rfl)
  have hent := lg_entry_eq m ([.ref qc, .int x, .ref qb]) 4
  rw [← hav] at hent
  rw [hent]
  clear hent hav
  generalize (lg_sl ([.ref qc, .int x, .ref qb]) ++ List.replicate (4 - (lg_sl ([.ref qc, .int x, .ref qb])).length) Slot.unset).toArray = ls at hl ⊢
  have hl : lv_has ls 4 [(0, .ref qc), (1, .int x), (2, .ref qb)] := hl
  generalize hQ : vx_MQ below _ _ args s 1 6 _ = Q
  have hP : va_P (gD G) vC [(qc, .inr (5, [.ref q, .ref qn, .ref qk, .ref qa, .ref qd, .int (zB false)])), (qb, aJ G 1 bx)] s.heap := hP
  obtain ⟨H, hH⟩ : ∃ H : Heap, H = s.heap := ⟨_, rfl⟩
  obtain ⟨locs, hlc⟩ : ∃ L : List Loc, L = [] := ⟨_, rfl⟩
  have hS : va_S A s.heap H locs := by rw [hH, hlc]; exact hS
  have hP : va_P (gD G) vC [(qc, .inr (5, [.ref q, .ref qn, .ref qk, .ref qa, .ref qd, .int (zB false)])), (qb, aJ G 1 bx)] H := by rw [hH]; exact hP
  have hgo : W p l e R s m args below meth c H locs 0 0 Q (F0 m 0 ls []) := by
    clear hH hlc
    refine lv_aload_n hx hb dL_size_0 rfl (lv_at hl 2 rfl) ?_
    refine lv_iconst (v := nI 0) hx hb dL_size_1 (by decide) ?_
    refine lv_aload_n hx hb dL_size_2 rfl (lv_at hl 0 rfl) ?_
    refine lv_iload_n hx hb dL_size_3 rfl (lv_at hl 1 rfl) ?_
    refine k_iX (ws2 := fun _ => [(qc, .inr (5, [.ref q, .ref qn, .ref qk, .ref qa, .ref qd, .int (zB false)])), (qb, aJ G 1 bx)]) (wr := [(qb, aJ G 1 bx)]) (k_runVX (n := 1) (As := [.int x]) (rest := [.int (nI 0), .ref qb]) hx hb hml hown hTX hP hD hK hS hA hE hDX (k_C_size_x l htr G H.size qc q qn qk qa qd x ) b644 b645 b646 b1 b647 (by decide +kernel) rfl rfl ⟨by rw [hRf]; exact Nat.le_of_ble_eq_true rfl, by rw [hRl]; exact Nat.le_of_ble_eq_true rfl⟩ [0] rfl (by decide) 0 rfl rfl rfl rfl hl.1 rfl (Nat.le_of_ble_eq_true rfl) dL_size_4 ⟨by rw [hRc]; exact Nat.le_of_ble_eq_true rfl, by rw [hRs]; exact Nat.le_of_ble_eq_true rfl⟩) hP hD hS hA [0] [1] [1, 0] rfl rfl (by decide) (by decide) (fun u => rfl) (by decide) (fun u H locs q9 ce hw hP hD hS hce hcv hcl => ?_)
    have hP : va_P (gD G) vC [(qc, .inr (5, [.ref q, .ref qn, .ref qk, .ref qa, .ref qd, .int (zB false)])), (qb, aJ G 1 bx)] H := hP
    have hD : va_D A [(qc, .inr (5, [.ref q, .ref qn, .ref qk, .ref qa, .ref qd, .int (zB false)])), (qb, aJ G 1 bx)] := hD
    refine vx_catch (name := "java/lang/IllegalStateException") hown [] _ _ htab (fun z hz => nomatch hz) (by decide) (by decide) (htb _ b502) (DX.use hDX (.castable "java/lang/IllegalStateException" "java/lang/IllegalStateException") (by decide)) hce hcv hcl ?_
    refine W.eq (g2 := F0 m 12 ls [.ref q9]) rfl ?_
    refine lv_astore_n (lv' := [(3, .ref q9), (0, .ref qc), (1, .int x), (2, .ref qb)]) hx hb dL_size_12 rfl hl (by decide) rfl (fun ls hl => ?_)
    refine lv_iconst (v := nI 1) hx hb dL_size_13 (by decide) ?_
    -- end 0
    rw [← hQ]
    exact vx_ret (k_iret hx hb hr hlocks rfl (u := bx) (⟨rfl, rfl⟩) hP hD hK hS dL_size_14)
  rw [hH, hlc] at hgo
  exact hgo
