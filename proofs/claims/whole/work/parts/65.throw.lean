theorem tbx_good {l : List Cond} (h : ∀ c ∈ l, c ∈ TBX) : GoodIn TBX l := fun w hw => by
  have h1 := h w hw
  refine ⟨h1, ?_⟩
  unfold TBX at h1
  rcases List.mem_append.mp h1 with h2 | h2
  · exact ((tb_good (fun c (hc : c ∈ [w]) => by rw [List.mem_singleton.mp hc]; exact h2)) w (List.mem_singleton.mpr rfl)).2
  · rcases List.mem_append.mp h2 with h3 | h2
    · exact good_of_word (List.mem_filter.mp h3).2
    · rcases List.mem_append.mp h2 with h3 | h2
      · exact good_of_word (List.mem_filter.mp h3).2
      · rcases List.mem_append.mp h2 with h3 | h3
        · exact good_of_word (List.mem_filter.mp h3).2
        · exact good_of_word (List.mem_filter.mp h3).2
theorem DX.same {U V : State} (hv : U.vm = V.vm) (h : DX U) : DX V := by
  intro w hw
  have h1 := h w hw
  simp only [dW, List.mem_cons, List.not_mem_nil, or_false] at hw
  rcases hw with rfl | rfl | rfl | rfl | rfl | rfl | rfl <;> exact va_tabs rfl hv h1
theorem bef_blindX (G : GG) (av : List Value) (w : va_W) (sz : Nat) : FrameBlind (va_Pc av (befX G w sz)) := by
  intro a U g mk q
  obtain ⟨q0, qb, qx⟩ := q
  have h := bef_blind G av w sz a U g mk ⟨q0, qb⟩
  exact ⟨h.1, h.2, DX.same (U := U) (V := U.calling g mk a) rfl qx⟩
section KITX
variable {p : Program} {l : Launch} {e : Env} {R : Room} {s : State} {m : MethodId} {args : Array Value} {below : List Frame} {meth : Method} {c : Code} {H : Heap} {locs : List Loc} {cells slots : Nat} {Q : State → Prop}
variable {cc bytes : ByteArray} {pc nL maxL mc ms n index : Nat} {ls : Array Slot} {rest st0 As : List Value} {A0 : Nat → Prop} {G : GG} {ws wc wr : va_W} {own C : String} {y : MethodName} {ret : Option FieldType} {rm : Room} {Qc : Array Value → State → Outcome → State → Prop} {free : Addr → Prop} {a b : Nat} {av : Array Value}
theorem k_preX (hP : va_P (gD G) vC ws H) (hD : va_D A0 ws) (hK : va_K (gD G) vC (tyG G) s) (hS : va_S A0 s.heap H locs) (hA : ∀ q, s.heap.size ≤ q → A0 q) (hE : EV A0 s s.heap) (hDX : DX s) (isC : List Nat) (hC : isC.map (fun i => ws[i]?) = wc.map some) (hn : va_nd isC = true) (av : List Value) : PreS s H (va_Pc av (befX G wc H.size)) av :=
  ⟨bef_blindX G av wc H.size, fun U hU hW => ⟨((k_pre hP hD hK hS hA hE isC hC hn av).2 U hU hW).1, ((k_pre hP hD hK hS hA hE isC hC hn av).2 U hU hW).2, hDX.warm hW⟩⟩
theorem k_wsX {w : List Cond} (h : ∀ c ∈ w, c ∈ TB) (hc : Cond.code y bytes maxL ret ∈ TB) : GoodIn TBX (w ++ (Cond.code y bytes maxL ret :: TBX)) := tbx_good (fun c hcm => by
  rcases List.mem_append.mp hcm with h1 | h1
  · exact List.mem_append_left _ (h c h1)
  · rcases List.mem_cons.mp h1 with rfl | h2
    · exact List.mem_append_left _ hc
    · exact h2)
theorem k_runVX {XC : String → State → State → Prop} (hx : p.tables.exec = Jvm.exec) (hb : c.code = cc) (hml : c.maxLocals = nL) (hown : s.vm.findClass own = some m.cls) (hTX : ∀ w ∈ TBX, w.before args s = true)
    (hP : va_P (gD G) vC ws H) (hD : va_D A0 ws) (hK : va_K (gD G) vC (tyG G) s) (hS : va_S A0 s.heap H locs) (hA : ∀ q, s.heap.size ≤ q → A0 q) (hE : EV A0 s s.heap) (hDX : DX s)
    (hM : vx_Met l y (Cond.code y bytes maxL ret :: TBX) rm (va_Pc (.ref b :: As) (befX G wc H.size)) Qc XC mc ms free)
    (w1 : Cond.methodLink own index y ∈ TB) (w2 : Cond.instanceMethod y ∈ TB) (w3 : Cond.selects C y y ∈ TB) (w4 : Cond.initialized C ∈ TB) (w5 : Cond.code y bytes maxL ret ∈ TB)
    (hd : y.cls = C ∧ y.cls ≠ "java/lang/invoke/MethodHandle" ∧ y.cls ≠ "java/lang/invoke/VarHandle" ∧ (parseMethodDescriptor y.desc).map (fun d => d.parameters.length) = some n) (hrc : rm.cells = mc) (hrs : rm.slots = ms) (hR : rm.frames + 1 ≤ R.frames ∧ 8 + (maxL + 11) + rm.locals ≤ R.locals)
    (isC : List Nat) (hC : isC.map (fun i => ws[i]?) = wc.map some) (hnd : va_nd isC = true) (q0 : Nat) {ci : Nat} {fs : List Value} {vq : vw_C} (he : ws[q0]? = some (b, .inr (ci, fs))) (hc : vC[ci]? = some vq) (hCq : vq.1 = C)
    (hn : As.length = n) (hsize : ls.size = nL) (hst : st0 = As.reverse ++ .ref b :: rest) (hW : (rest.map fun v => v.category).sum ≤ 8) (hdg : decode cc pc = .ok (.invokevirtual index, 3)) (hf : cells + mc ≤ R.cells ∧ slots + ms ≤ R.slots) :
    vx_Run p l e R s m args below meth c H locs cells slots mc ms (F0 m pc ls st0) rest (Qc (Value.ref b :: As).toArray) XC free := by
  have hpre := k_preX hP hD hK hS hA hE hDX isC hC hnd (.ref b :: As)
  refine vx_runV (C := C) ⟨hx, hb, hml, hown, hTX⟩ hM (cwV n hTX (k_wsX (w := [.methodLink own index y, .instanceMethod y, .selects C y y, .initialized C]) (fun z hz => ?_) w5) rfl hrc hrs hd hR) ⟨hpre.1, ?_, hpre.2⟩ rfl hn hsize hst (lv_room hW) hdg hf
  · simp only [List.mem_cons, List.not_mem_nil, or_false] at hz
    rcases hz with rfl | rfl | rfl | rfl
    · exact w1
    · exact w2
    · exact w3
    · exact w4
  · have := va_recv hK hP hc he
    rw [hCq] at this
    exact this
theorem k_vX {T : Type} {E : String} {px : T → Prop} {w1 ws2 : T → va_W} (hr : vx_Run p l e R s m args below meth c H locs cells slots mc ms (F0 m pc ls st0) rest (va_Qv (fun (_ : Unit) => False) (fun _ _ => True) (va_A wc H.size) av) (XT G E px w1 (va_A wc H.size)) (va_A wc H.size))
    (hP : va_P (gD G) vC ws H) (hD : va_D A0 ws) (hS : va_S A0 s.heap H locs) (hA : ∀ q, s.heap.size ≤ q → A0 q) (isC isR pm : List Nat) (hC : isC.map (fun i => ws[i]?) = wc.map some) (hR : isR.map (fun i => ws[i]?) = wr.map some) (hn : va_nd isR = true) (hdis : ∀ i ∈ isR, i ∉ isC)
    (hpm : ∀ u, pm.map (fun i => (wr ++ w1 u)[i]?) = (ws2 u).map some) (hpn : va_nd pm = true)
    (kk : ∀ (u : T) (H1 : Heap) (locs1 : List Loc) (q9 : Addr) (ce : Cell), px u → va_P (gD G) vC (ws2 u) H1 → va_D A0 (ws2 u) → va_S A0 s.heap H1 locs1 → H1[q9]? = some ce → ce.vm = .none → s.vm.findClass E = some ce.cls → vx_W p l e R s m args below meth c H1 locs1 (cells + mc) (slots + ms) Q (F0 m pc ls rest) q9) : W p l e R s m args below meth c H locs cells slots Q (F0 m pc ls st0) := by
  have hF := va_free hD hS hA isC hC
  refine vx_callv hr hS (fun q _ h => hF q h) hF (fun q _ h => hF q h) (fun E' ce q9 u t H1 locs1 ht hvm hp hB hz hk hS1 hce hcv hcl => ?_) (fun u t H1 locs1 ht hvm hp => hp.elim)
  obtain ⟨rfl, hP1, -, hD1⟩ := hB
  rw [ht] at hP1
  obtain ⟨hP2, hD2⟩ := va_join hP hD isC isR hC hR hn hdis hk hF hP1 hD1
  exact kk u H1 locs1 q9 ce hp (hP2.sub pm (va_sub_f (hpm u))) (hD2.sub pm hpn (hpm u)) hS1 hce hcv hcl
end KITX
theorem k_thrO {S : Type} {G : GG} {E : String} {px : S → Prop} {w1 : S → va_W} {A0 : Nat → Prop} {s : State} {H : Heap} {locs : List Loc} (u : S) (hpx : px u) (hP : va_P (gD G) vC (w1 u) H) (hD : va_D A0 (w1 u)) (hK : va_K (gD G) vC (tyG G) s) (hS : va_S A0 s.heap H locs) :
    ∀ t : State, t.heap = H → s.vm.Alike t.vm → XT G E px w1 A0 E s t := fun t ht ha => k_thr u hpx hP hD hK hS t ha (by rw [ht]; exact Nat.le_refl _) (fun q _ => by rw [ht])
set_option maxRecDepth 100000 in
set_option maxHeartbeats 4000000 in
theorem k_C_circuit_x (l : Launch) (htr : l.stackTraces = false) (G : GG) (sz : Nat) (qc : Nat) (q : Nat) (qn : Nat) (qk : Nat) (qa : Nat) (qd : Nat) (x : Int32) : vx_Met l yC_circuit (Cond.code yC_circuit cC_circuit 2 (some .int) :: TBX) { frames := 7, cells := 1, slots := 6, locals := 110 } (va_Pc [.ref qc, .int x] (befX G [(qc, .inr (5, [.ref q, .ref qn, .ref qk, .ref qa, .ref qd, .int (zB false)]))] sz)) (va_Qi (fun (_ : Int32) (_ : Unit) => False) (fun _ _ => True) (va_A [(qc, .inr (5, [.ref q, .ref qn, .ref qk, .ref qa, .ref qd, .int (zB false)]))] sz)) (XT G "java/lang/IllegalStateException" (fun (u : Unit) => (() = u)) (fun (u : Unit) => [(qc, .inr (5, [.ref q, .ref qn, .ref qk, .ref qa, .ref qd, .int (zB false)]))]) (va_A [(qc, .inr (5, [.ref q, .ref qn, .ref qk, .ref qa, .ref qd, .int (zB false)]))] sz)) 1 6 (va_A [(qc, .inr (5, [.ref q, .ref qn, .ref qk, .ref qa, .ref qd, .int (zB false)]))] sz) := by
  refine vx_ofW (cc := cC_circuit) (maxL := 2) (ret := (some .int)) (by decide) rfl ?_
  intro p e s m args below meth c s₁ B hml hno hv
  obtain ⟨hav, ⟨hsz, hP, hK, hD0, hE⟩, hDX⟩ := hv
  have hx := B.exec
  have hb := B.bytes
  have hr := B.returns
  have hTX : ∀ w ∈ TBX, w.before args s = true := fun w h => atoms_spec (ws := Cond.code yC_circuit cC_circuit 2 (some .int) :: TBX) B.pre w (List.mem_cons_of_mem _ h)
  have htb : ∀ w ∈ TB, w.before args s = true := fun w h => hTX w (List.mem_append_left _ h)
  have hown : s.vm.findClass "CircuitProver" = some m.cls := findClass_of_methodNamed B.named
  have hlocks := B.notSynchronized
  subst hsz
  have hD := hD0.self (sz := s.heap.size)
  clear hD0
  generalize hRm : (headSpec (Cond.code yC_circuit cC_circuit 2 (some .int) :: TBX) { frames := 7, cells := 1, slots := 6, locals := 110 }).room = R
  have hRf : R.frames = 7 := by rw [← hRm]; rfl
  have hRl : R.locals = 110 := by rw [← hRm]; rfl
  have hRc : R.cells = 1 := by rw [← hRm]; rfl
  have hRs : R.slots = 6 := by rw [← hRm]; rfl
  clear hRm
  generalize hAe : va_A [(qc, .inr (5, [.ref q, .ref qn, .ref qk, .ref qa, .ref qd, .int (zB false)]))] s.heap.size = A at hD hE ⊢
  have hA : ∀ q : Nat, s.heap.size ≤ q → A q := fun q h => by rw [← hAe]; exact Or.inr h
  clear hAe
  have hS : va_S A s.heap s.heap [] := va_S.rf
  have hl := lv_entry ([.ref qc, .int x]) (n := 2) (Nat.le_of_ble_eq_true rfl)
  have hent := lg_entry_eq m ([.ref qc, .int x]) 2
  rw [← hav] at hent
  rw [hent]
  clear hent hav
  generalize (lg_sl ([.ref qc, .int x]) ++ List.replicate (2 - (lg_sl ([.ref qc, .int x])).length) Slot.unset).toArray = ls at hl ⊢
  have hl : lv_has ls 2 [(0, .ref qc), (1, .int x)] := hl
  generalize hQ : vx_MQ below _ _ args s 1 6 _ = Q
  have hP : va_P (gD G) vC [(qc, .inr (5, [.ref q, .ref qn, .ref qk, .ref qa, .ref qd, .int (zB false)]))] s.heap := hP
  obtain ⟨H, hH⟩ : ∃ H : Heap, H = s.heap := ⟨_, rfl⟩
  obtain ⟨locs, hlc⟩ : ∃ L : List Loc, L = [] := ⟨_, rfl⟩
  have hS : va_S A s.heap H locs := by rw [hH, hlc]; exact hS
  have hP : va_P (gD G) vC [(qc, .inr (5, [.ref q, .ref qn, .ref qk, .ref qa, .ref qd, .int (zB false)]))] H := by rw [hH]; exact hP
  have hgo : W p l e R s m args below meth c H locs 0 0 Q (F0 m 0 ls []) := by
    clear hH hlc
    refine lv_aload_n hx hb dC_circuit_0 rfl (lv_at hl 0 rfl) ?_
    refine k_vX (ws2 := fun _ => [(qc, .inr (5, [.ref q, .ref qn, .ref qk, .ref qa, .ref qd, .int (zB false)]))]) (wr := []) (k_runVX (n := 0) (As := []) (rest := []) hx hb hml hown hTX hP hD hK hS hA hE hDX (k_C_requireCircuit_x l htr G H.size qc q qn qk qa qd ) b507 b509 s23 b1 b510 (by decide +kernel) rfl rfl ⟨by rw [hRf]; exact Nat.le_of_ble_eq_true rfl, by rw [hRl]; exact Nat.le_of_ble_eq_true rfl⟩ [0] rfl (by decide) 0 rfl rfl rfl rfl hl.1 rfl (Nat.le_of_ble_eq_true rfl) dC_circuit_1 ⟨by rw [hRc]; exact Nat.le_of_ble_eq_true rfl, by rw [hRs]; exact Nat.le_of_ble_eq_true rfl⟩) hP hD hS hA [0] [] [0] rfl rfl (by decide) (by decide) (fun u => rfl) (by decide) (fun u H locs q9 ce hw hP hD hS hce hcv hcl => ?_)
    rw [← hQ]
    exact vx_out (fun x hx => (hno x hx).elim) hlocks hce hcv hcl (k_thrO () (rfl) hP hD hK hS) hS.2.2 (Nat.le_of_ble_eq_true rfl) (Nat.le_of_ble_eq_true rfl)
  rw [hH, hlc] at hgo
  exact hgo
set_option maxRecDepth 100000 in
set_option maxHeartbeats 4000000 in
theorem k_C_go_x (l : Launch) (htr : l.stackTraces = false) (G : GG) (sz : Nat) (qc : Nat) (q : Nat) (qn : Nat) (qk : Nat) (qa : Nat) (qd : Nat) (x : Int32) (y : Int32) : vx_Met l yC_go (Cond.code yC_go cC_go 3 (some .int) :: TBX) { frames := 7, cells := 1, slots := 6, locals := 110 } (va_Pc [.ref qc, .int x, .int y] (befX G [(qc, .inr (5, [.ref q, .ref qn, .ref qk, .ref qa, .ref qd, .int (zB false)]))] sz)) (va_Qi (fun (_ : Int32) (_ : Unit) => False) (fun _ _ => True) (va_A [(qc, .inr (5, [.ref q, .ref qn, .ref qk, .ref qa, .ref qd, .int (zB false)]))] sz)) (XT G "java/lang/IllegalStateException" (fun (u : Unit) => (() = u)) (fun (u : Unit) => [(qc, .inr (5, [.ref q, .ref qn, .ref qk, .ref qa, .ref qd, .int (zB false)]))]) (va_A [(qc, .inr (5, [.ref q, .ref qn, .ref qk, .ref qa, .ref qd, .int (zB false)]))] sz)) 1 6 (va_A [(qc, .inr (5, [.ref q, .ref qn, .ref qk, .ref qa, .ref qd, .int (zB false)]))] sz) := by
  refine vx_ofW (cc := cC_go) (maxL := 3) (ret := (some .int)) (by decide) rfl ?_
  intro p e s m args below meth c s₁ B hml hno hv
  obtain ⟨hav, ⟨hsz, hP, hK, hD0, hE⟩, hDX⟩ := hv
  have hx := B.exec
  have hb := B.bytes
  have hr := B.returns
  have hTX : ∀ w ∈ TBX, w.before args s = true := fun w h => atoms_spec (ws := Cond.code yC_go cC_go 3 (some .int) :: TBX) B.pre w (List.mem_cons_of_mem _ h)
  have htb : ∀ w ∈ TB, w.before args s = true := fun w h => hTX w (List.mem_append_left _ h)
  have hown : s.vm.findClass "CircuitProver" = some m.cls := findClass_of_methodNamed B.named
  have hlocks := B.notSynchronized
  subst hsz
  have hD := hD0.self (sz := s.heap.size)
  clear hD0
  generalize hRm : (headSpec (Cond.code yC_go cC_go 3 (some .int) :: TBX) { frames := 7, cells := 1, slots := 6, locals := 110 }).room = R
  have hRf : R.frames = 7 := by rw [← hRm]; rfl
  have hRl : R.locals = 110 := by rw [← hRm]; rfl
  have hRc : R.cells = 1 := by rw [← hRm]; rfl
  have hRs : R.slots = 6 := by rw [← hRm]; rfl
  clear hRm
  generalize hAe : va_A [(qc, .inr (5, [.ref q, .ref qn, .ref qk, .ref qa, .ref qd, .int (zB false)]))] s.heap.size = A at hD hE ⊢
  have hA : ∀ q : Nat, s.heap.size ≤ q → A q := fun q h => by rw [← hAe]; exact Or.inr h
  clear hAe
  have hS : va_S A s.heap s.heap [] := va_S.rf
  have hl := lv_entry ([.ref qc, .int x, .int y]) (n := 3) (Nat.le_of_ble_eq_true rfl)
  have hent := lg_entry_eq m ([.ref qc, .int x, .int y]) 3
  rw [← hav] at hent
  rw [hent]
  clear hent hav
  generalize (lg_sl ([.ref qc, .int x, .int y]) ++ List.replicate (3 - (lg_sl ([.ref qc, .int x, .int y])).length) Slot.unset).toArray = ls at hl ⊢
  have hl : lv_has ls 3 [(0, .ref qc), (1, .int x), (2, .int y)] := hl
  generalize hQ : vx_MQ below _ _ args s 1 6 _ = Q
  have hP : va_P (gD G) vC [(qc, .inr (5, [.ref q, .ref qn, .ref qk, .ref qa, .ref qd, .int (zB false)]))] s.heap := hP
  obtain ⟨H, hH⟩ : ∃ H : Heap, H = s.heap := ⟨_, rfl⟩
  obtain ⟨locs, hlc⟩ : ∃ L : List Loc, L = [] := ⟨_, rfl⟩
  have hS : va_S A s.heap H locs := by rw [hH, hlc]; exact hS
  have hP : va_P (gD G) vC [(qc, .inr (5, [.ref q, .ref qn, .ref qk, .ref qa, .ref qd, .int (zB false)]))] H := by rw [hH]; exact hP
  have hgo : W p l e R s m args below meth c H locs 0 0 Q (F0 m 0 ls []) := by
    clear hH hlc
    refine lv_aload_n hx hb dC_go_0 rfl (lv_at hl 0 rfl) ?_
    refine k_vX (ws2 := fun _ => [(qc, .inr (5, [.ref q, .ref qn, .ref qk, .ref qa, .ref qd, .int (zB false)]))]) (wr := []) (k_runVX (n := 0) (As := []) (rest := []) hx hb hml hown hTX hP hD hK hS hA hE hDX (k_C_requireCircuit_x l htr G H.size qc q qn qk qa qd ) b507 b509 s23 b1 b510 (by decide +kernel) rfl rfl ⟨by rw [hRf]; exact Nat.le_of_ble_eq_true rfl, by rw [hRl]; exact Nat.le_of_ble_eq_true rfl⟩ [0] rfl (by decide) 0 rfl rfl rfl rfl hl.1 rfl (Nat.le_of_ble_eq_true rfl) dC_go_1 ⟨by rw [hRc]; exact Nat.le_of_ble_eq_true rfl, by rw [hRs]; exact Nat.le_of_ble_eq_true rfl⟩) hP hD hS hA [0] [] [0] rfl rfl (by decide) (by decide) (fun u => rfl) (by decide) (fun u H locs q9 ce hw hP hD hS hce hcv hcl => ?_)
    rw [← hQ]
    exact vx_out (fun x hx => (hno x hx).elim) hlocks hce hcv hcl (k_thrO () (rfl) hP hD hK hS) hS.2.2 (Nat.le_of_ble_eq_true rfl) (Nat.le_of_ble_eq_true rfl)
  rw [hH, hlc] at hgo
  exact hgo
set_option maxRecDepth 100000 in
set_option maxHeartbeats 4000000 in
theorem k_C_output_x (l : Launch) (htr : l.stackTraces = false) (G : GG) (sz : Nat) (qc : Nat) (q : Nat) (qn : Nat) (qk : Nat) (qa : Nat) (qd : Nat) (x : Int32) (y : Int32) : vx_Met l yC_output (Cond.code yC_output cC_output 3 (some .boolean) :: TBX) { frames := 7, cells := 1, slots := 6, locals := 110 } (va_Pc [.ref qc, .int x, .int y] (befX G [(qc, .inr (5, [.ref q, .ref qn, .ref qk, .ref qa, .ref qd, .int (zB false)]))] sz)) (va_Qi (fun (_ : Int32) (_ : Unit) => False) (fun _ _ => True) (va_A [(qc, .inr (5, [.ref q, .ref qn, .ref qk, .ref qa, .ref qd, .int (zB false)]))] sz)) (XT G "java/lang/IllegalStateException" (fun (u : Unit) => (() = u)) (fun (u : Unit) => [(qc, .inr (5, [.ref q, .ref qn, .ref qk, .ref qa, .ref qd, .int (zB false)]))]) (va_A [(qc, .inr (5, [.ref q, .ref qn, .ref qk, .ref qa, .ref qd, .int (zB false)]))] sz)) 1 6 (va_A [(qc, .inr (5, [.ref q, .ref qn, .ref qk, .ref qa, .ref qd, .int (zB false)]))] sz) := by
  refine vx_ofW (cc := cC_output) (maxL := 3) (ret := (some .boolean)) (by decide) rfl ?_
  intro p e s m args below meth c s₁ B hml hno hv
  obtain ⟨hav, ⟨hsz, hP, hK, hD0, hE⟩, hDX⟩ := hv
  have hx := B.exec
  have hb := B.bytes
  have hr := B.returns
  have hTX : ∀ w ∈ TBX, w.before args s = true := fun w h => atoms_spec (ws := Cond.code yC_output cC_output 3 (some .boolean) :: TBX) B.pre w (List.mem_cons_of_mem _ h)
  have htb : ∀ w ∈ TB, w.before args s = true := fun w h => hTX w (List.mem_append_left _ h)
  have hown : s.vm.findClass "CircuitProver" = some m.cls := findClass_of_methodNamed B.named
  have hlocks := B.notSynchronized
  subst hsz
  have hD := hD0.self (sz := s.heap.size)
  clear hD0
  generalize hRm : (headSpec (Cond.code yC_output cC_output 3 (some .boolean) :: TBX) { frames := 7, cells := 1, slots := 6, locals := 110 }).room = R
  have hRf : R.frames = 7 := by rw [← hRm]; rfl
  have hRl : R.locals = 110 := by rw [← hRm]; rfl
  have hRc : R.cells = 1 := by rw [← hRm]; rfl
  have hRs : R.slots = 6 := by rw [← hRm]; rfl
  clear hRm
  generalize hAe : va_A [(qc, .inr (5, [.ref q, .ref qn, .ref qk, .ref qa, .ref qd, .int (zB false)]))] s.heap.size = A at hD hE ⊢
  have hA : ∀ q : Nat, s.heap.size ≤ q → A q := fun q h => by rw [← hAe]; exact Or.inr h
  clear hAe
  have hS : va_S A s.heap s.heap [] := va_S.rf
  have hl := lv_entry ([.ref qc, .int x, .int y]) (n := 3) (Nat.le_of_ble_eq_true rfl)
  have hent := lg_entry_eq m ([.ref qc, .int x, .int y]) 3
  rw [← hav] at hent
  rw [hent]
  clear hent hav
  generalize (lg_sl ([.ref qc, .int x, .int y]) ++ List.replicate (3 - (lg_sl ([.ref qc, .int x, .int y])).length) Slot.unset).toArray = ls at hl ⊢
  have hl : lv_has ls 3 [(0, .ref qc), (1, .int x), (2, .int y)] := hl
  generalize hQ : vx_MQ below _ _ args s 1 6 _ = Q
  have hP : va_P (gD G) vC [(qc, .inr (5, [.ref q, .ref qn, .ref qk, .ref qa, .ref qd, .int (zB false)]))] s.heap := hP
  obtain ⟨H, hH⟩ : ∃ H : Heap, H = s.heap := ⟨_, rfl⟩
  obtain ⟨locs, hlc⟩ : ∃ L : List Loc, L = [] := ⟨_, rfl⟩
  have hS : va_S A s.heap H locs := by rw [hH, hlc]; exact hS
  have hP : va_P (gD G) vC [(qc, .inr (5, [.ref q, .ref qn, .ref qk, .ref qa, .ref qd, .int (zB false)]))] H := by rw [hH]; exact hP
  have hgo : W p l e R s m args below meth c H locs 0 0 Q (F0 m 0 ls []) := by
    clear hH hlc
    refine lv_aload_n hx hb dC_output_0 rfl (lv_at hl 0 rfl) ?_
    refine k_vX (ws2 := fun _ => [(qc, .inr (5, [.ref q, .ref qn, .ref qk, .ref qa, .ref qd, .int (zB false)]))]) (wr := []) (k_runVX (n := 0) (As := []) (rest := []) hx hb hml hown hTX hP hD hK hS hA hE hDX (k_C_requireCircuit_x l htr G H.size qc q qn qk qa qd ) b507 b509 s23 b1 b510 (by decide +kernel) rfl rfl ⟨by rw [hRf]; exact Nat.le_of_ble_eq_true rfl, by rw [hRl]; exact Nat.le_of_ble_eq_true rfl⟩ [0] rfl (by decide) 0 rfl rfl rfl rfl hl.1 rfl (Nat.le_of_ble_eq_true rfl) dC_output_1 ⟨by rw [hRc]; exact Nat.le_of_ble_eq_true rfl, by rw [hRs]; exact Nat.le_of_ble_eq_true rfl⟩) hP hD hS hA [0] [] [0] rfl rfl (by decide) (by decide) (fun u => rfl) (by decide) (fun u H locs q9 ce hw hP hD hS hce hcv hcl => ?_)
    rw [← hQ]
    exact vx_out (fun x hx => (hno x hx).elim) hlocks hce hcv hcl (k_thrO () (rfl) hP hD hK hS) hS.2.2 (Nat.le_of_ble_eq_true rfl) (Nat.le_of_ble_eq_true rfl)
  rw [hH, hlc] at hgo
  exact hgo
set_option maxRecDepth 100000 in
set_option maxHeartbeats 4000000 in
theorem k_C_safe_x (l : Launch) (htr : l.stackTraces = false) (G : GG) (sz : Nat) (qc : Nat) (q : Nat) (qn : Nat) (qk : Nat) (qa : Nat) (qd : Nat) : vx_Met l yC_safe (Cond.code yC_safe cC_safe 1 (some .boolean) :: TBX) { frames := 7, cells := 1, slots := 6, locals := 110 } (va_Pc [.ref qc] (befX G [(qc, .inr (5, [.ref q, .ref qn, .ref qk, .ref qa, .ref qd, .int (zB false)]))] sz)) (va_Qi (fun (_ : Int32) (_ : Unit) => False) (fun _ _ => True) (va_A [(qc, .inr (5, [.ref q, .ref qn, .ref qk, .ref qa, .ref qd, .int (zB false)]))] sz)) (XT G "java/lang/IllegalStateException" (fun (u : Unit) => (() = u)) (fun (u : Unit) => [(qc, .inr (5, [.ref q, .ref qn, .ref qk, .ref qa, .ref qd, .int (zB false)]))]) (va_A [(qc, .inr (5, [.ref q, .ref qn, .ref qk, .ref qa, .ref qd, .int (zB false)]))] sz)) 1 6 (va_A [(qc, .inr (5, [.ref q, .ref qn, .ref qk, .ref qa, .ref qd, .int (zB false)]))] sz) := by
  refine vx_ofW (cc := cC_safe) (maxL := 1) (ret := (some .boolean)) (by decide) rfl ?_
  intro p e s m args below meth c s₁ B hml hno hv
  obtain ⟨hav, ⟨hsz, hP, hK, hD0, hE⟩, hDX⟩ := hv
  have hx := B.exec
  have hb := B.bytes
  have hr := B.returns
  have hTX : ∀ w ∈ TBX, w.before args s = true := fun w h => atoms_spec (ws := Cond.code yC_safe cC_safe 1 (some .boolean) :: TBX) B.pre w (List.mem_cons_of_mem _ h)
  have htb : ∀ w ∈ TB, w.before args s = true := fun w h => hTX w (List.mem_append_left _ h)
  have hown : s.vm.findClass "CircuitProver" = some m.cls := findClass_of_methodNamed B.named
  have hlocks := B.notSynchronized
  subst hsz
  have hD := hD0.self (sz := s.heap.size)
  clear hD0
  generalize hRm : (headSpec (Cond.code yC_safe cC_safe 1 (some .boolean) :: TBX) { frames := 7, cells := 1, slots := 6, locals := 110 }).room = R
  have hRf : R.frames = 7 := by rw [← hRm]; rfl
  have hRl : R.locals = 110 := by rw [← hRm]; rfl
  have hRc : R.cells = 1 := by rw [← hRm]; rfl
  have hRs : R.slots = 6 := by rw [← hRm]; rfl
  clear hRm
  generalize hAe : va_A [(qc, .inr (5, [.ref q, .ref qn, .ref qk, .ref qa, .ref qd, .int (zB false)]))] s.heap.size = A at hD hE ⊢
  have hA : ∀ q : Nat, s.heap.size ≤ q → A q := fun q h => by rw [← hAe]; exact Or.inr h
  clear hAe
  have hS : va_S A s.heap s.heap [] := va_S.rf
  have hl := lv_entry ([.ref qc]) (n := 1) (Nat.le_of_ble_eq_true rfl)
  have hent := lg_entry_eq m ([.ref qc]) 1
  rw [← hav] at hent
  rw [hent]
  clear hent hav
  generalize (lg_sl ([.ref qc]) ++ List.replicate (1 - (lg_sl ([.ref qc])).length) Slot.unset).toArray = ls at hl ⊢
  have hl : lv_has ls 1 [(0, .ref qc)] := hl
  generalize hQ : vx_MQ below _ _ args s 1 6 _ = Q
  have hP : va_P (gD G) vC [(qc, .inr (5, [.ref q, .ref qn, .ref qk, .ref qa, .ref qd, .int (zB false)]))] s.heap := hP
  obtain ⟨H, hH⟩ : ∃ H : Heap, H = s.heap := ⟨_, rfl⟩
  obtain ⟨locs, hlc⟩ : ∃ L : List Loc, L = [] := ⟨_, rfl⟩
  have hS : va_S A s.heap H locs := by rw [hH, hlc]; exact hS
  have hP : va_P (gD G) vC [(qc, .inr (5, [.ref q, .ref qn, .ref qk, .ref qa, .ref qd, .int (zB false)]))] H := by rw [hH]; exact hP
  have hgo : W p l e R s m args below meth c H locs 0 0 Q (F0 m 0 ls []) := by
    clear hH hlc
    refine lv_aload_n hx hb dC_safe_0 rfl (lv_at hl 0 rfl) ?_
    refine k_vX (ws2 := fun _ => [(qc, .inr (5, [.ref q, .ref qn, .ref qk, .ref qa, .ref qd, .int (zB false)]))]) (wr := []) (k_runVX (n := 0) (As := []) (rest := []) hx hb hml hown hTX hP hD hK hS hA hE hDX (k_C_requireCircuit_x l htr G H.size qc q qn qk qa qd ) b507 b509 s23 b1 b510 (by decide +kernel) rfl rfl ⟨by rw [hRf]; exact Nat.le_of_ble_eq_true rfl, by rw [hRl]; exact Nat.le_of_ble_eq_true rfl⟩ [0] rfl (by decide) 0 rfl rfl rfl rfl hl.1 rfl (Nat.le_of_ble_eq_true rfl) dC_safe_1 ⟨by rw [hRc]; exact Nat.le_of_ble_eq_true rfl, by rw [hRs]; exact Nat.le_of_ble_eq_true rfl⟩) hP hD hS hA [0] [] [0] rfl rfl (by decide) (by decide) (fun u => rfl) (by decide) (fun u H locs q9 ce hw hP hD hS hce hcv hcl => ?_)
    rw [← hQ]
    exact vx_out (fun x hx => (hno x hx).elim) hlocks hce hcv hcl (k_thrO () (rfl) hP hD hK hS) hS.2.2 (Nat.le_of_ble_eq_true rfl) (Nat.le_of_ble_eq_true rfl)
  rw [hH, hlc] at hgo
  exact hgo
set_option maxRecDepth 100000 in
set_option maxHeartbeats 4000000 in
theorem k_C_depth_x (l : Launch) (htr : l.stackTraces = false) (G : GG) (sz : Nat) (qc : Nat) (q : Nat) (qn : Nat) (qk : Nat) (qa : Nat) (qd : Nat) : vx_Met l yC_depth (Cond.code yC_depth cC_depth 1 (some .int) :: TBX) { frames := 7, cells := 1, slots := 6, locals := 110 } (va_Pc [.ref qc] (befX G [(qc, .inr (5, [.ref q, .ref qn, .ref qk, .ref qa, .ref qd, .int (zB false)]))] sz)) (va_Qi (fun (_ : Int32) (_ : Unit) => False) (fun _ _ => True) (va_A [(qc, .inr (5, [.ref q, .ref qn, .ref qk, .ref qa, .ref qd, .int (zB false)]))] sz)) (XT G "java/lang/IllegalStateException" (fun (u : Unit) => (() = u)) (fun (u : Unit) => [(qc, .inr (5, [.ref q, .ref qn, .ref qk, .ref qa, .ref qd, .int (zB false)]))]) (va_A [(qc, .inr (5, [.ref q, .ref qn, .ref qk, .ref qa, .ref qd, .int (zB false)]))] sz)) 1 6 (va_A [(qc, .inr (5, [.ref q, .ref qn, .ref qk, .ref qa, .ref qd, .int (zB false)]))] sz) := by
  refine vx_ofW (cc := cC_depth) (maxL := 1) (ret := (some .int)) (by decide) rfl ?_
  intro p e s m args below meth c s₁ B hml hno hv
  obtain ⟨hav, ⟨hsz, hP, hK, hD0, hE⟩, hDX⟩ := hv
  have hx := B.exec
  have hb := B.bytes
  have hr := B.returns
  have hTX : ∀ w ∈ TBX, w.before args s = true := fun w h => atoms_spec (ws := Cond.code yC_depth cC_depth 1 (some .int) :: TBX) B.pre w (List.mem_cons_of_mem _ h)
  have htb : ∀ w ∈ TB, w.before args s = true := fun w h => hTX w (List.mem_append_left _ h)
  have hown : s.vm.findClass "CircuitProver" = some m.cls := findClass_of_methodNamed B.named
  have hlocks := B.notSynchronized
  subst hsz
  have hD := hD0.self (sz := s.heap.size)
  clear hD0
  generalize hRm : (headSpec (Cond.code yC_depth cC_depth 1 (some .int) :: TBX) { frames := 7, cells := 1, slots := 6, locals := 110 }).room = R
  have hRf : R.frames = 7 := by rw [← hRm]; rfl
  have hRl : R.locals = 110 := by rw [← hRm]; rfl
  have hRc : R.cells = 1 := by rw [← hRm]; rfl
  have hRs : R.slots = 6 := by rw [← hRm]; rfl
  clear hRm
  generalize hAe : va_A [(qc, .inr (5, [.ref q, .ref qn, .ref qk, .ref qa, .ref qd, .int (zB false)]))] s.heap.size = A at hD hE ⊢
  have hA : ∀ q : Nat, s.heap.size ≤ q → A q := fun q h => by rw [← hAe]; exact Or.inr h
  clear hAe
  have hS : va_S A s.heap s.heap [] := va_S.rf
  have hl := lv_entry ([.ref qc]) (n := 1) (Nat.le_of_ble_eq_true rfl)
  have hent := lg_entry_eq m ([.ref qc]) 1
  rw [← hav] at hent
  rw [hent]
  clear hent hav
  generalize (lg_sl ([.ref qc]) ++ List.replicate (1 - (lg_sl ([.ref qc])).length) Slot.unset).toArray = ls at hl ⊢
  have hl : lv_has ls 1 [(0, .ref qc)] := hl
  generalize hQ : vx_MQ below _ _ args s 1 6 _ = Q
  have hP : va_P (gD G) vC [(qc, .inr (5, [.ref q, .ref qn, .ref qk, .ref qa, .ref qd, .int (zB false)]))] s.heap := hP
  obtain ⟨H, hH⟩ : ∃ H : Heap, H = s.heap := ⟨_, rfl⟩
  obtain ⟨locs, hlc⟩ : ∃ L : List Loc, L = [] := ⟨_, rfl⟩
  have hS : va_S A s.heap H locs := by rw [hH, hlc]; exact hS
  have hP : va_P (gD G) vC [(qc, .inr (5, [.ref q, .ref qn, .ref qk, .ref qa, .ref qd, .int (zB false)]))] H := by rw [hH]; exact hP
  have hgo : W p l e R s m args below meth c H locs 0 0 Q (F0 m 0 ls []) := by
    clear hH hlc
    refine lv_aload_n hx hb dC_depth_0 rfl (lv_at hl 0 rfl) ?_
    refine k_vX (ws2 := fun _ => [(qc, .inr (5, [.ref q, .ref qn, .ref qk, .ref qa, .ref qd, .int (zB false)]))]) (wr := []) (k_runVX (n := 0) (As := []) (rest := []) hx hb hml hown hTX hP hD hK hS hA hE hDX (k_C_requireCircuit_x l htr G H.size qc q qn qk qa qd ) b507 b509 s23 b1 b510 (by decide +kernel) rfl rfl ⟨by rw [hRf]; exact Nat.le_of_ble_eq_true rfl, by rw [hRl]; exact Nat.le_of_ble_eq_true rfl⟩ [0] rfl (by decide) 0 rfl rfl rfl rfl hl.1 rfl (Nat.le_of_ble_eq_true rfl) dC_depth_1 ⟨by rw [hRc]; exact Nat.le_of_ble_eq_true rfl, by rw [hRs]; exact Nat.le_of_ble_eq_true rfl⟩) hP hD hS hA [0] [] [0] rfl rfl (by decide) (by decide) (fun u => rfl) (by decide) (fun u H locs q9 ce hw hP hD hS hce hcv hcl => ?_)
    rw [← hQ]
    exact vx_out (fun x hx => (hno x hx).elim) hlocks hce hcv hcl (k_thrO () (rfl) hP hD hK hS) hS.2.2 (Nat.le_of_ble_eq_true rfl) (Nat.le_of_ble_eq_true rfl)
  rw [hH, hlc] at hgo
  exact hgo
set_option maxRecDepth 100000 in
set_option maxHeartbeats 4000000 in
theorem k_C_witness_x (l : Launch) (htr : l.stackTraces = false) (G : GG) (sz : Nat) (qc : Nat) (q : Nat) (qn : Nat) (qk : Nat) (qa : Nat) (qd : Nat) (x : Int32) : vx_Met l yC_witness (Cond.code yC_witness cC_witness 2 (some .int) :: TBX) { frames := 7, cells := 1, slots := 6, locals := 110 } (va_Pc [.ref qc, .int x] (befX G [(qc, .inr (5, [.ref q, .ref qn, .ref qk, .ref qa, .ref qd, .int (zB false)]))] sz)) (va_Qi (fun (_ : Int32) (_ : Unit) => False) (fun _ _ => True) (va_A [(qc, .inr (5, [.ref q, .ref qn, .ref qk, .ref qa, .ref qd, .int (zB false)]))] sz)) (XT G "java/lang/IllegalStateException" (fun (u : Unit) => (() = u)) (fun (u : Unit) => [(qc, .inr (5, [.ref q, .ref qn, .ref qk, .ref qa, .ref qd, .int (zB false)]))]) (va_A [(qc, .inr (5, [.ref q, .ref qn, .ref qk, .ref qa, .ref qd, .int (zB false)]))] sz)) 1 6 (va_A [(qc, .inr (5, [.ref q, .ref qn, .ref qk, .ref qa, .ref qd, .int (zB false)]))] sz) := by
  refine vx_ofW (cc := cC_witness) (maxL := 2) (ret := (some .int)) (by decide) rfl ?_
  intro p e s m args below meth c s₁ B hml hno hv
  obtain ⟨hav, ⟨hsz, hP, hK, hD0, hE⟩, hDX⟩ := hv
  have hx := B.exec
  have hb := B.bytes
  have hr := B.returns
  have hTX : ∀ w ∈ TBX, w.before args s = true := fun w h => atoms_spec (ws := Cond.code yC_witness cC_witness 2 (some .int) :: TBX) B.pre w (List.mem_cons_of_mem _ h)
  have htb : ∀ w ∈ TB, w.before args s = true := fun w h => hTX w (List.mem_append_left _ h)
  have hown : s.vm.findClass "CircuitProver" = some m.cls := findClass_of_methodNamed B.named
  have hlocks := B.notSynchronized
  subst hsz
  have hD := hD0.self (sz := s.heap.size)
  clear hD0
  generalize hRm : (headSpec (Cond.code yC_witness cC_witness 2 (some .int) :: TBX) { frames := 7, cells := 1, slots := 6, locals := 110 }).room = R
  have hRf : R.frames = 7 := by rw [← hRm]; rfl
  have hRl : R.locals = 110 := by rw [← hRm]; rfl
  have hRc : R.cells = 1 := by rw [← hRm]; rfl
  have hRs : R.slots = 6 := by rw [← hRm]; rfl
  clear hRm
  generalize hAe : va_A [(qc, .inr (5, [.ref q, .ref qn, .ref qk, .ref qa, .ref qd, .int (zB false)]))] s.heap.size = A at hD hE ⊢
  have hA : ∀ q : Nat, s.heap.size ≤ q → A q := fun q h => by rw [← hAe]; exact Or.inr h
  clear hAe
  have hS : va_S A s.heap s.heap [] := va_S.rf
  have hl := lv_entry ([.ref qc, .int x]) (n := 2) (Nat.le_of_ble_eq_true rfl)
  have hent := lg_entry_eq m ([.ref qc, .int x]) 2
  rw [← hav] at hent
  rw [hent]
  clear hent hav
  generalize (lg_sl ([.ref qc, .int x]) ++ List.replicate (2 - (lg_sl ([.ref qc, .int x])).length) Slot.unset).toArray = ls at hl ⊢
  have hl : lv_has ls 2 [(0, .ref qc), (1, .int x)] := hl
  generalize hQ : vx_MQ below _ _ args s 1 6 _ = Q
  have hP : va_P (gD G) vC [(qc, .inr (5, [.ref q, .ref qn, .ref qk, .ref qa, .ref qd, .int (zB false)]))] s.heap := hP
  obtain ⟨H, hH⟩ : ∃ H : Heap, H = s.heap := ⟨_, rfl⟩
  obtain ⟨locs, hlc⟩ : ∃ L : List Loc, L = [] := ⟨_, rfl⟩
  have hS : va_S A s.heap H locs := by rw [hH, hlc]; exact hS
  have hP : va_P (gD G) vC [(qc, .inr (5, [.ref q, .ref qn, .ref qk, .ref qa, .ref qd, .int (zB false)]))] H := by rw [hH]; exact hP
  have hgo : W p l e R s m args below meth c H locs 0 0 Q (F0 m 0 ls []) := by
    clear hH hlc
    refine lv_aload_n hx hb dC_witness_0 rfl (lv_at hl 0 rfl) ?_
    refine k_vX (ws2 := fun _ => [(qc, .inr (5, [.ref q, .ref qn, .ref qk, .ref qa, .ref qd, .int (zB false)]))]) (wr := []) (k_runVX (n := 0) (As := []) (rest := []) hx hb hml hown hTX hP hD hK hS hA hE hDX (k_C_requireCircuit_x l htr G H.size qc q qn qk qa qd ) b507 b509 s23 b1 b510 (by decide +kernel) rfl rfl ⟨by rw [hRf]; exact Nat.le_of_ble_eq_true rfl, by rw [hRl]; exact Nat.le_of_ble_eq_true rfl⟩ [0] rfl (by decide) 0 rfl rfl rfl rfl hl.1 rfl (Nat.le_of_ble_eq_true rfl) dC_witness_1 ⟨by rw [hRc]; exact Nat.le_of_ble_eq_true rfl, by rw [hRs]; exact Nat.le_of_ble_eq_true rfl⟩) hP hD hS hA [0] [] [0] rfl rfl (by decide) (by decide) (fun u => rfl) (by decide) (fun u H locs q9 ce hw hP hD hS hce hcv hcl => ?_)
    rw [← hQ]
    exact vx_out (fun x hx => (hno x hx).elim) hlocks hce hcv hcl (k_thrO () (rfl) hP hD hK hS) hS.2.2 (Nat.le_of_ble_eq_true rfl) (Nat.le_of_ble_eq_true rfl)
  rw [hH, hlc] at hgo
  exact hgo
set_option maxRecDepth 100000 in
set_option maxHeartbeats 4000000 in
theorem k_C_bound_x (l : Launch) (htr : l.stackTraces = false) (G : GG) (sz : Nat) (qc : Nat) (q : Nat) (qn : Nat) (qk : Nat) (qa : Nat) (qd : Nat) : vx_Met l yC_bound (Cond.code yC_bound cC_bound 1 (some .int) :: TBX) { frames := 7, cells := 1, slots := 6, locals := 110 } (va_Pc [.ref qc] (befX G [(qc, .inr (5, [.ref q, .ref qn, .ref qk, .ref qa, .ref qd, .int (zB false)]))] sz)) (va_Qi (fun (_ : Int32) (_ : Unit) => False) (fun _ _ => True) (va_A [(qc, .inr (5, [.ref q, .ref qn, .ref qk, .ref qa, .ref qd, .int (zB false)]))] sz)) (XT G "java/lang/IllegalStateException" (fun (u : Unit) => (() = u)) (fun (u : Unit) => [(qc, .inr (5, [.ref q, .ref qn, .ref qk, .ref qa, .ref qd, .int (zB false)]))]) (va_A [(qc, .inr (5, [.ref q, .ref qn, .ref qk, .ref qa, .ref qd, .int (zB false)]))] sz)) 1 6 (va_A [(qc, .inr (5, [.ref q, .ref qn, .ref qk, .ref qa, .ref qd, .int (zB false)]))] sz) := by
  refine vx_ofW (cc := cC_bound) (maxL := 1) (ret := (some .int)) (by decide) rfl ?_
  intro p e s m args below meth c s₁ B hml hno hv
  obtain ⟨hav, ⟨hsz, hP, hK, hD0, hE⟩, hDX⟩ := hv
  have hx := B.exec
  have hb := B.bytes
  have hr := B.returns
  have hTX : ∀ w ∈ TBX, w.before args s = true := fun w h => atoms_spec (ws := Cond.code yC_bound cC_bound 1 (some .int) :: TBX) B.pre w (List.mem_cons_of_mem _ h)
  have htb : ∀ w ∈ TB, w.before args s = true := fun w h => hTX w (List.mem_append_left _ h)
  have hown : s.vm.findClass "CircuitProver" = some m.cls := findClass_of_methodNamed B.named
  have hlocks := B.notSynchronized
  subst hsz
  have hD := hD0.self (sz := s.heap.size)
  clear hD0
  generalize hRm : (headSpec (Cond.code yC_bound cC_bound 1 (some .int) :: TBX) { frames := 7, cells := 1, slots := 6, locals := 110 }).room = R
  have hRf : R.frames = 7 := by rw [← hRm]; rfl
  have hRl : R.locals = 110 := by rw [← hRm]; rfl
  have hRc : R.cells = 1 := by rw [← hRm]; rfl
  have hRs : R.slots = 6 := by rw [← hRm]; rfl
  clear hRm
  generalize hAe : va_A [(qc, .inr (5, [.ref q, .ref qn, .ref qk, .ref qa, .ref qd, .int (zB false)]))] s.heap.size = A at hD hE ⊢
  have hA : ∀ q : Nat, s.heap.size ≤ q → A q := fun q h => by rw [← hAe]; exact Or.inr h
  clear hAe
  have hS : va_S A s.heap s.heap [] := va_S.rf
  have hl := lv_entry ([.ref qc]) (n := 1) (Nat.le_of_ble_eq_true rfl)
  have hent := lg_entry_eq m ([.ref qc]) 1
  rw [← hav] at hent
  rw [hent]
  clear hent hav
  generalize (lg_sl ([.ref qc]) ++ List.replicate (1 - (lg_sl ([.ref qc])).length) Slot.unset).toArray = ls at hl ⊢
  have hl : lv_has ls 1 [(0, .ref qc)] := hl
  generalize hQ : vx_MQ below _ _ args s 1 6 _ = Q
  have hP : va_P (gD G) vC [(qc, .inr (5, [.ref q, .ref qn, .ref qk, .ref qa, .ref qd, .int (zB false)]))] s.heap := hP
  obtain ⟨H, hH⟩ : ∃ H : Heap, H = s.heap := ⟨_, rfl⟩
  obtain ⟨locs, hlc⟩ : ∃ L : List Loc, L = [] := ⟨_, rfl⟩
  have hS : va_S A s.heap H locs := by rw [hH, hlc]; exact hS
  have hP : va_P (gD G) vC [(qc, .inr (5, [.ref q, .ref qn, .ref qk, .ref qa, .ref qd, .int (zB false)]))] H := by rw [hH]; exact hP
  have hgo : W p l e R s m args below meth c H locs 0 0 Q (F0 m 0 ls []) := by
    clear hH hlc
    refine lv_aload_n hx hb dC_bound_0 rfl (lv_at hl 0 rfl) ?_
    refine k_vX (ws2 := fun _ => [(qc, .inr (5, [.ref q, .ref qn, .ref qk, .ref qa, .ref qd, .int (zB false)]))]) (wr := []) (k_runVX (n := 0) (As := []) (rest := []) hx hb hml hown hTX hP hD hK hS hA hE hDX (k_C_requireCircuit_x l htr G H.size qc q qn qk qa qd ) b507 b509 s23 b1 b510 (by decide +kernel) rfl rfl ⟨by rw [hRf]; exact Nat.le_of_ble_eq_true rfl, by rw [hRl]; exact Nat.le_of_ble_eq_true rfl⟩ [0] rfl (by decide) 0 rfl rfl rfl rfl hl.1 rfl (Nat.le_of_ble_eq_true rfl) dC_bound_1 ⟨by rw [hRc]; exact Nat.le_of_ble_eq_true rfl, by rw [hRs]; exact Nat.le_of_ble_eq_true rfl⟩) hP hD hS hA [0] [] [0] rfl rfl (by decide) (by decide) (fun u => rfl) (by decide) (fun u H locs q9 ce hw hP hD hS hce hcv hcl => ?_)
    rw [← hQ]
    exact vx_out (fun x hx => (hno x hx).elim) hlocks hce hcv hcl (k_thrO () (rfl) hP hD hK hS) hS.2.2 (Nat.le_of_ble_eq_true rfl) (Nat.le_of_ble_eq_true rfl)
  rw [hH, hlc] at hgo
  exact hgo
set_option maxRecDepth 100000 in
set_option maxHeartbeats 4000000 in
theorem k_C_rounds_x (l : Launch) (htr : l.stackTraces = false) (G : GG) (sz : Nat) (qc : Nat) (q : Nat) (qn : Nat) (qk : Nat) (qa : Nat) (qd : Nat) : vx_Met l yC_rounds (Cond.code yC_rounds cC_rounds 1 (some .int) :: TBX) { frames := 7, cells := 1, slots := 6, locals := 110 } (va_Pc [.ref qc] (befX G [(qc, .inr (5, [.ref q, .ref qn, .ref qk, .ref qa, .ref qd, .int (zB false)]))] sz)) (va_Qi (fun (_ : Int32) (_ : Unit) => False) (fun _ _ => True) (va_A [(qc, .inr (5, [.ref q, .ref qn, .ref qk, .ref qa, .ref qd, .int (zB false)]))] sz)) (XT G "java/lang/IllegalStateException" (fun (u : Unit) => (() = u)) (fun (u : Unit) => [(qc, .inr (5, [.ref q, .ref qn, .ref qk, .ref qa, .ref qd, .int (zB false)]))]) (va_A [(qc, .inr (5, [.ref q, .ref qn, .ref qk, .ref qa, .ref qd, .int (zB false)]))] sz)) 1 6 (va_A [(qc, .inr (5, [.ref q, .ref qn, .ref qk, .ref qa, .ref qd, .int (zB false)]))] sz) := by
  refine vx_ofW (cc := cC_rounds) (maxL := 1) (ret := (some .int)) (by decide) rfl ?_
  intro p e s m args below meth c s₁ B hml hno hv
  obtain ⟨hav, ⟨hsz, hP, hK, hD0, hE⟩, hDX⟩ := hv
  have hx := B.exec
  have hb := B.bytes
  have hr := B.returns
  have hTX : ∀ w ∈ TBX, w.before args s = true := fun w h => atoms_spec (ws := Cond.code yC_rounds cC_rounds 1 (some .int) :: TBX) B.pre w (List.mem_cons_of_mem _ h)
  have htb : ∀ w ∈ TB, w.before args s = true := fun w h => hTX w (List.mem_append_left _ h)
  have hown : s.vm.findClass "CircuitProver" = some m.cls := findClass_of_methodNamed B.named
  have hlocks := B.notSynchronized
  subst hsz
  have hD := hD0.self (sz := s.heap.size)
  clear hD0
  generalize hRm : (headSpec (Cond.code yC_rounds cC_rounds 1 (some .int) :: TBX) { frames := 7, cells := 1, slots := 6, locals := 110 }).room = R
  have hRf : R.frames = 7 := by rw [← hRm]; rfl
  have hRl : R.locals = 110 := by rw [← hRm]; rfl
  have hRc : R.cells = 1 := by rw [← hRm]; rfl
  have hRs : R.slots = 6 := by rw [← hRm]; rfl
  clear hRm
  generalize hAe : va_A [(qc, .inr (5, [.ref q, .ref qn, .ref qk, .ref qa, .ref qd, .int (zB false)]))] s.heap.size = A at hD hE ⊢
  have hA : ∀ q : Nat, s.heap.size ≤ q → A q := fun q h => by rw [← hAe]; exact Or.inr h
  clear hAe
  have hS : va_S A s.heap s.heap [] := va_S.rf
  have hl := lv_entry ([.ref qc]) (n := 1) (Nat.le_of_ble_eq_true rfl)
  have hent := lg_entry_eq m ([.ref qc]) 1
  rw [← hav] at hent
  rw [hent]
  clear hent hav
  generalize (lg_sl ([.ref qc]) ++ List.replicate (1 - (lg_sl ([.ref qc])).length) Slot.unset).toArray = ls at hl ⊢
  have hl : lv_has ls 1 [(0, .ref qc)] := hl
  generalize hQ : vx_MQ below _ _ args s 1 6 _ = Q
  have hP : va_P (gD G) vC [(qc, .inr (5, [.ref q, .ref qn, .ref qk, .ref qa, .ref qd, .int (zB false)]))] s.heap := hP
  obtain ⟨H, hH⟩ : ∃ H : Heap, H = s.heap := ⟨_, rfl⟩
  obtain ⟨locs, hlc⟩ : ∃ L : List Loc, L = [] := ⟨_, rfl⟩
  have hS : va_S A s.heap H locs := by rw [hH, hlc]; exact hS
  have hP : va_P (gD G) vC [(qc, .inr (5, [.ref q, .ref qn, .ref qk, .ref qa, .ref qd, .int (zB false)]))] H := by rw [hH]; exact hP
  have hgo : W p l e R s m args below meth c H locs 0 0 Q (F0 m 0 ls []) := by
    clear hH hlc
    refine lv_aload_n hx hb dC_rounds_0 rfl (lv_at hl 0 rfl) ?_
    refine k_vX (ws2 := fun _ => [(qc, .inr (5, [.ref q, .ref qn, .ref qk, .ref qa, .ref qd, .int (zB false)]))]) (wr := []) (k_runVX (n := 0) (As := []) (rest := []) hx hb hml hown hTX hP hD hK hS hA hE hDX (k_C_requireCircuit_x l htr G H.size qc q qn qk qa qd ) b507 b509 s23 b1 b510 (by decide +kernel) rfl rfl ⟨by rw [hRf]; exact Nat.le_of_ble_eq_true rfl, by rw [hRl]; exact Nat.le_of_ble_eq_true rfl⟩ [0] rfl (by decide) 0 rfl rfl rfl rfl hl.1 rfl (Nat.le_of_ble_eq_true rfl) dC_rounds_1 ⟨by rw [hRc]; exact Nat.le_of_ble_eq_true rfl, by rw [hRs]; exact Nat.le_of_ble_eq_true rfl⟩) hP hD hS hA [0] [] [0] rfl rfl (by decide) (by decide) (fun u => rfl) (by decide) (fun u H locs q9 ce hw hP hD hS hce hcv hcl => ?_)
    rw [← hQ]
    exact vx_out (fun x hx => (hno x hx).elim) hlocks hce hcv hcl (k_thrO () (rfl) hP hD hK hS) hS.2.2 (Nat.le_of_ble_eq_true rfl) (Nat.le_of_ble_eq_true rfl)
  rw [hH, hlc] at hgo
  exact hgo
set_option maxRecDepth 100000 in
set_option maxHeartbeats 4000000 in
theorem k_C_holds_x (l : Launch) (htr : l.stackTraces = false) (G : GG) (sz : Nat) (qc : Nat) (q : Nat) (qn : Nat) (qk : Nat) (qa : Nat) (qd : Nat) (x : Int32) : vx_Met l yC_holds (Cond.code yC_holds cC_holds 2 (some .boolean) :: TBX) { frames := 7, cells := 1, slots := 6, locals := 110 } (va_Pc [.ref qc, .int x] (befX G [(qc, .inr (5, [.ref q, .ref qn, .ref qk, .ref qa, .ref qd, .int (zB false)]))] sz)) (va_Qi (fun (_ : Int32) (_ : Unit) => False) (fun _ _ => True) (va_A [(qc, .inr (5, [.ref q, .ref qn, .ref qk, .ref qa, .ref qd, .int (zB false)]))] sz)) (XT G "java/lang/IllegalStateException" (fun (u : Unit) => (() = u)) (fun (u : Unit) => [(qc, .inr (5, [.ref q, .ref qn, .ref qk, .ref qa, .ref qd, .int (zB false)]))]) (va_A [(qc, .inr (5, [.ref q, .ref qn, .ref qk, .ref qa, .ref qd, .int (zB false)]))] sz)) 1 6 (va_A [(qc, .inr (5, [.ref q, .ref qn, .ref qk, .ref qa, .ref qd, .int (zB false)]))] sz) := by
  refine vx_ofW (cc := cC_holds) (maxL := 2) (ret := (some .boolean)) (by decide) rfl ?_
  intro p e s m args below meth c s₁ B hml hno hv
  obtain ⟨hav, ⟨hsz, hP, hK, hD0, hE⟩, hDX⟩ := hv
  have hx := B.exec
  have hb := B.bytes
  have hr := B.returns
  have hTX : ∀ w ∈ TBX, w.before args s = true := fun w h => atoms_spec (ws := Cond.code yC_holds cC_holds 2 (some .boolean) :: TBX) B.pre w (List.mem_cons_of_mem _ h)
  have htb : ∀ w ∈ TB, w.before args s = true := fun w h => hTX w (List.mem_append_left _ h)
  have hown : s.vm.findClass "CircuitProver" = some m.cls := findClass_of_methodNamed B.named
  have hlocks := B.notSynchronized
  subst hsz
  have hD := hD0.self (sz := s.heap.size)
  clear hD0
  generalize hRm : (headSpec (Cond.code yC_holds cC_holds 2 (some .boolean) :: TBX) { frames := 7, cells := 1, slots := 6, locals := 110 }).room = R
  have hRf : R.frames = 7 := by rw [← hRm]; rfl
  have hRl : R.locals = 110 := by rw [← hRm]; rfl
  have hRc : R.cells = 1 := by rw [← hRm]; rfl
  have hRs : R.slots = 6 := by rw [← hRm]; rfl
  clear hRm
  generalize hAe : va_A [(qc, .inr (5, [.ref q, .ref qn, .ref qk, .ref qa, .ref qd, .int (zB false)]))] s.heap.size = A at hD hE ⊢
  have hA : ∀ q : Nat, s.heap.size ≤ q → A q := fun q h => by rw [← hAe]; exact Or.inr h
  clear hAe
  have hS : va_S A s.heap s.heap [] := va_S.rf
  have hl := lv_entry ([.ref qc, .int x]) (n := 2) (Nat.le_of_ble_eq_true rfl)
  have hent := lg_entry_eq m ([.ref qc, .int x]) 2
  rw [← hav] at hent
  rw [hent]
  clear hent hav
  generalize (lg_sl ([.ref qc, .int x]) ++ List.replicate (2 - (lg_sl ([.ref qc, .int x])).length) Slot.unset).toArray = ls at hl ⊢
  have hl : lv_has ls 2 [(0, .ref qc), (1, .int x)] := hl
  generalize hQ : vx_MQ below _ _ args s 1 6 _ = Q
  have hP : va_P (gD G) vC [(qc, .inr (5, [.ref q, .ref qn, .ref qk, .ref qa, .ref qd, .int (zB false)]))] s.heap := hP
  obtain ⟨H, hH⟩ : ∃ H : Heap, H = s.heap := ⟨_, rfl⟩
  obtain ⟨locs, hlc⟩ : ∃ L : List Loc, L = [] := ⟨_, rfl⟩
  have hS : va_S A s.heap H locs := by rw [hH, hlc]; exact hS
  have hP : va_P (gD G) vC [(qc, .inr (5, [.ref q, .ref qn, .ref qk, .ref qa, .ref qd, .int (zB false)]))] H := by rw [hH]; exact hP
  have hgo : W p l e R s m args below meth c H locs 0 0 Q (F0 m 0 ls []) := by
    clear hH hlc
    refine lv_aload_n hx hb dC_holds_0 rfl (lv_at hl 0 rfl) ?_
    refine k_vX (ws2 := fun _ => [(qc, .inr (5, [.ref q, .ref qn, .ref qk, .ref qa, .ref qd, .int (zB false)]))]) (wr := []) (k_runVX (n := 0) (As := []) (rest := []) hx hb hml hown hTX hP hD hK hS hA hE hDX (k_C_requireCircuit_x l htr G H.size qc q qn qk qa qd ) b507 b509 s23 b1 b510 (by decide +kernel) rfl rfl ⟨by rw [hRf]; exact Nat.le_of_ble_eq_true rfl, by rw [hRl]; exact Nat.le_of_ble_eq_true rfl⟩ [0] rfl (by decide) 0 rfl rfl rfl rfl hl.1 rfl (Nat.le_of_ble_eq_true rfl) dC_holds_1 ⟨by rw [hRc]; exact Nat.le_of_ble_eq_true rfl, by rw [hRs]; exact Nat.le_of_ble_eq_true rfl⟩) hP hD hS hA [0] [] [0] rfl rfl (by decide) (by decide) (fun u => rfl) (by decide) (fun u H locs q9 ce hw hP hD hS hce hcv hcl => ?_)
    rw [← hQ]
    exact vx_out (fun x hx => (hno x hx).elim) hlocks hce hcv hcl (k_thrO () (rfl) hP hD hK hS) hS.2.2 (Nat.le_of_ble_eq_true rfl) (Nat.le_of_ble_eq_true rfl)
  rw [hH, hlc] at hgo
  exact hgo
set_option maxRecDepth 100000 in
set_option maxHeartbeats 4000000 in
theorem k_C_count_x (l : Launch) (htr : l.stackTraces = false) (G : GG) (sz : Nat) (qc : Nat) (q : Nat) (qn : Nat) (qk : Nat) (qa : Nat) (qd : Nat) (x : Int32) : vx_Met l yC_count (Cond.code yC_count cC_count 2 (some .int) :: TBX) { frames := 7, cells := 1, slots := 6, locals := 110 } (va_Pc [.ref qc, .int x] (befX G [(qc, .inr (5, [.ref q, .ref qn, .ref qk, .ref qa, .ref qd, .int (zB false)]))] sz)) (va_Qi (fun (_ : Int32) (_ : Unit) => False) (fun _ _ => True) (va_A [(qc, .inr (5, [.ref q, .ref qn, .ref qk, .ref qa, .ref qd, .int (zB false)]))] sz)) (XT G "java/lang/IllegalStateException" (fun (u : Unit) => (() = u)) (fun (u : Unit) => [(qc, .inr (5, [.ref q, .ref qn, .ref qk, .ref qa, .ref qd, .int (zB false)]))]) (va_A [(qc, .inr (5, [.ref q, .ref qn, .ref qk, .ref qa, .ref qd, .int (zB false)]))] sz)) 1 6 (va_A [(qc, .inr (5, [.ref q, .ref qn, .ref qk, .ref qa, .ref qd, .int (zB false)]))] sz) := by
  refine vx_ofW (cc := cC_count) (maxL := 2) (ret := (some .int)) (by decide) rfl ?_
  intro p e s m args below meth c s₁ B hml hno hv
  obtain ⟨hav, ⟨hsz, hP, hK, hD0, hE⟩, hDX⟩ := hv
  have hx := B.exec
  have hb := B.bytes
  have hr := B.returns
  have hTX : ∀ w ∈ TBX, w.before args s = true := fun w h => atoms_spec (ws := Cond.code yC_count cC_count 2 (some .int) :: TBX) B.pre w (List.mem_cons_of_mem _ h)
  have htb : ∀ w ∈ TB, w.before args s = true := fun w h => hTX w (List.mem_append_left _ h)
  have hown : s.vm.findClass "CircuitProver" = some m.cls := findClass_of_methodNamed B.named
  have hlocks := B.notSynchronized
  subst hsz
  have hD := hD0.self (sz := s.heap.size)
  clear hD0
  generalize hRm : (headSpec (Cond.code yC_count cC_count 2 (some .int) :: TBX) { frames := 7, cells := 1, slots := 6, locals := 110 }).room = R
  have hRf : R.frames = 7 := by rw [← hRm]; rfl
  have hRl : R.locals = 110 := by rw [← hRm]; rfl
  have hRc : R.cells = 1 := by rw [← hRm]; rfl
  have hRs : R.slots = 6 := by rw [← hRm]; rfl
  clear hRm
  generalize hAe : va_A [(qc, .inr (5, [.ref q, .ref qn, .ref qk, .ref qa, .ref qd, .int (zB false)]))] s.heap.size = A at hD hE ⊢
  have hA : ∀ q : Nat, s.heap.size ≤ q → A q := fun q h => by rw [← hAe]; exact Or.inr h
  clear hAe
  have hS : va_S A s.heap s.heap [] := va_S.rf
  have hl := lv_entry ([.ref qc, .int x]) (n := 2) (Nat.le_of_ble_eq_true rfl)
  have hent := lg_entry_eq m ([.ref qc, .int x]) 2
  rw [← hav] at hent
  rw [hent]
  clear hent hav
  generalize (lg_sl ([.ref qc, .int x]) ++ List.replicate (2 - (lg_sl ([.ref qc, .int x])).length) Slot.unset).toArray = ls at hl ⊢
  have hl : lv_has ls 2 [(0, .ref qc), (1, .int x)] := hl
  generalize hQ : vx_MQ below _ _ args s 1 6 _ = Q
  have hP : va_P (gD G) vC [(qc, .inr (5, [.ref q, .ref qn, .ref qk, .ref qa, .ref qd, .int (zB false)]))] s.heap := hP
  obtain ⟨H, hH⟩ : ∃ H : Heap, H = s.heap := ⟨_, rfl⟩
  obtain ⟨locs, hlc⟩ : ∃ L : List Loc, L = [] := ⟨_, rfl⟩
  have hS : va_S A s.heap H locs := by rw [hH, hlc]; exact hS
  have hP : va_P (gD G) vC [(qc, .inr (5, [.ref q, .ref qn, .ref qk, .ref qa, .ref qd, .int (zB false)]))] H := by rw [hH]; exact hP
  have hgo : W p l e R s m args below meth c H locs 0 0 Q (F0 m 0 ls []) := by
    clear hH hlc
    refine lv_aload_n hx hb dC_count_0 rfl (lv_at hl 0 rfl) ?_
    refine k_vX (ws2 := fun _ => [(qc, .inr (5, [.ref q, .ref qn, .ref qk, .ref qa, .ref qd, .int (zB false)]))]) (wr := []) (k_runVX (n := 0) (As := []) (rest := []) hx hb hml hown hTX hP hD hK hS hA hE hDX (k_C_requireCircuit_x l htr G H.size qc q qn qk qa qd ) b507 b509 s23 b1 b510 (by decide +kernel) rfl rfl ⟨by rw [hRf]; exact Nat.le_of_ble_eq_true rfl, by rw [hRl]; exact Nat.le_of_ble_eq_true rfl⟩ [0] rfl (by decide) 0 rfl rfl rfl rfl hl.1 rfl (Nat.le_of_ble_eq_true rfl) dC_count_1 ⟨by rw [hRc]; exact Nat.le_of_ble_eq_true rfl, by rw [hRs]; exact Nat.le_of_ble_eq_true rfl⟩) hP hD hS hA [0] [] [0] rfl rfl (by decide) (by decide) (fun u => rfl) (by decide) (fun u H locs q9 ce hw hP hD hS hce hcv hcl => ?_)
    rw [← hQ]
    exact vx_out (fun x hx => (hno x hx).elim) hlocks hce hcv hcl (k_thrO () (rfl) hP hD hK hS) hS.2.2 (Nat.le_of_ble_eq_true rfl) (Nat.le_of_ble_eq_true rfl)
  rw [hH, hlc] at hgo
  exact hgo
set_option maxRecDepth 100000 in
set_option maxHeartbeats 4000000 in
theorem k_C_size_x (l : Launch) (htr : l.stackTraces = false) (G : GG) (sz : Nat) (qc : Nat) (q : Nat) (qn : Nat) (qk : Nat) (qa : Nat) (qd : Nat) (x : Int32) : vx_Met l yC_size (Cond.code yC_size cC_size 2 (some .int) :: TBX) { frames := 7, cells := 1, slots := 6, locals := 110 } (va_Pc [.ref qc, .int x] (befX G [(qc, .inr (5, [.ref q, .ref qn, .ref qk, .ref qa, .ref qd, .int (zB false)]))] sz)) (va_Qi (fun (_ : Int32) (_ : Unit) => False) (fun _ _ => True) (va_A [(qc, .inr (5, [.ref q, .ref qn, .ref qk, .ref qa, .ref qd, .int (zB false)]))] sz)) (XT G "java/lang/IllegalStateException" (fun (u : Unit) => (() = u)) (fun (u : Unit) => [(qc, .inr (5, [.ref q, .ref qn, .ref qk, .ref qa, .ref qd, .int (zB false)]))]) (va_A [(qc, .inr (5, [.ref q, .ref qn, .ref qk, .ref qa, .ref qd, .int (zB false)]))] sz)) 1 6 (va_A [(qc, .inr (5, [.ref q, .ref qn, .ref qk, .ref qa, .ref qd, .int (zB false)]))] sz) := by
  refine vx_ofW (cc := cC_size) (maxL := 2) (ret := (some .int)) (by decide) rfl ?_
  intro p e s m args below meth c s₁ B hml hno hv
  obtain ⟨hav, ⟨hsz, hP, hK, hD0, hE⟩, hDX⟩ := hv
  have hx := B.exec
  have hb := B.bytes
  have hr := B.returns
  have hTX : ∀ w ∈ TBX, w.before args s = true := fun w h => atoms_spec (ws := Cond.code yC_size cC_size 2 (some .int) :: TBX) B.pre w (List.mem_cons_of_mem _ h)
  have htb : ∀ w ∈ TB, w.before args s = true := fun w h => hTX w (List.mem_append_left _ h)
  have hown : s.vm.findClass "CircuitProver" = some m.cls := findClass_of_methodNamed B.named
  have hlocks := B.notSynchronized
  subst hsz
  have hD := hD0.self (sz := s.heap.size)
  clear hD0
  generalize hRm : (headSpec (Cond.code yC_size cC_size 2 (some .int) :: TBX) { frames := 7, cells := 1, slots := 6, locals := 110 }).room = R
  have hRf : R.frames = 7 := by rw [← hRm]; rfl
  have hRl : R.locals = 110 := by rw [← hRm]; rfl
  have hRc : R.cells = 1 := by rw [← hRm]; rfl
  have hRs : R.slots = 6 := by rw [← hRm]; rfl
  clear hRm
  generalize hAe : va_A [(qc, .inr (5, [.ref q, .ref qn, .ref qk, .ref qa, .ref qd, .int (zB false)]))] s.heap.size = A at hD hE ⊢
  have hA : ∀ q : Nat, s.heap.size ≤ q → A q := fun q h => by rw [← hAe]; exact Or.inr h
  clear hAe
  have hS : va_S A s.heap s.heap [] := va_S.rf
  have hl := lv_entry ([.ref qc, .int x]) (n := 2) (Nat.le_of_ble_eq_true rfl)
  have hent := lg_entry_eq m ([.ref qc, .int x]) 2
  rw [← hav] at hent
  rw [hent]
  clear hent hav
  generalize (lg_sl ([.ref qc, .int x]) ++ List.replicate (2 - (lg_sl ([.ref qc, .int x])).length) Slot.unset).toArray = ls at hl ⊢
  have hl : lv_has ls 2 [(0, .ref qc), (1, .int x)] := hl
  generalize hQ : vx_MQ below _ _ args s 1 6 _ = Q
  have hP : va_P (gD G) vC [(qc, .inr (5, [.ref q, .ref qn, .ref qk, .ref qa, .ref qd, .int (zB false)]))] s.heap := hP
  obtain ⟨H, hH⟩ : ∃ H : Heap, H = s.heap := ⟨_, rfl⟩
  obtain ⟨locs, hlc⟩ : ∃ L : List Loc, L = [] := ⟨_, rfl⟩
  have hS : va_S A s.heap H locs := by rw [hH, hlc]; exact hS
  have hP : va_P (gD G) vC [(qc, .inr (5, [.ref q, .ref qn, .ref qk, .ref qa, .ref qd, .int (zB false)]))] H := by rw [hH]; exact hP
  have hgo : W p l e R s m args below meth c H locs 0 0 Q (F0 m 0 ls []) := by
    clear hH hlc
    refine lv_aload_n hx hb dC_size_0 rfl (lv_at hl 0 rfl) ?_
    refine k_vX (ws2 := fun _ => [(qc, .inr (5, [.ref q, .ref qn, .ref qk, .ref qa, .ref qd, .int (zB false)]))]) (wr := []) (k_runVX (n := 0) (As := []) (rest := []) hx hb hml hown hTX hP hD hK hS hA hE hDX (k_C_requireCircuit_x l htr G H.size qc q qn qk qa qd ) b507 b509 s23 b1 b510 (by decide +kernel) rfl rfl ⟨by rw [hRf]; exact Nat.le_of_ble_eq_true rfl, by rw [hRl]; exact Nat.le_of_ble_eq_true rfl⟩ [0] rfl (by decide) 0 rfl rfl rfl rfl hl.1 rfl (Nat.le_of_ble_eq_true rfl) dC_size_1 ⟨by rw [hRc]; exact Nat.le_of_ble_eq_true rfl, by rw [hRs]; exact Nat.le_of_ble_eq_true rfl⟩) hP hD hS hA [0] [] [0] rfl rfl (by decide) (by decide) (fun u => rfl) (by decide) (fun u H locs q9 ce hw hP hD hS hce hcv hcl => ?_)
    rw [← hQ]
    exact vx_out (fun x hx => (hno x hx).elim) hlocks hce hcv hcl (k_thrO () (rfl) hP hD hK hS) hS.2.2 (Nat.le_of_ble_eq_true rfl) (Nat.le_of_ble_eq_true rfl)
  rw [hH, hlc] at hgo
  exact hgo
set_option maxRecDepth 100000 in
set_option maxHeartbeats 4000000 in
theorem k_C_go_p (l : Launch) (htr : l.stackTraces = false) (G : GG) (sz : Nat) (qc : Nat) (q : Nat) (qn : Nat) (qk : Nat) (qa : Nat) (qd : Nat) (k1 : Nat) (k2 : Nat) (k3 : Nat) (k4 : Nat) (la : Nat) (ss : Nat) (ii : Nat) (ks : Nat) (kb : Int64) (x : Int32) (y : Int32) (hz : ss ≤ 64) (hii : ii ≤ 8) (hnp : ∀ j i, j < ss → i < ii → x = nI j → ¬ y = nI i) : vx_Met l yC_go (Cond.code yC_go cC_go 3 (some .int) :: TBX) { frames := 7, cells := 1, slots := 6, locals := 112 } (va_Pc [.ref qc, .int x, .int y] (befX G [(qc, .inr (5, [.ref q, .ref qn, .ref qk, .ref qa, .ref qd, .int (zB true)])), (qk, .inr (2, [.ref k1, .int (nI la), .int (nI ss), .int (nI ii), .int (nI ks), .ref k2, .ref k3, .ref k4, .long kb]))] sz)) (va_Qi (fun (_ : Int32) (_ : Unit) => False) (fun _ _ => True) (va_A [(qc, .inr (5, [.ref q, .ref qn, .ref qk, .ref qa, .ref qd, .int (zB true)])), (qk, .inr (2, [.ref k1, .int (nI la), .int (nI ss), .int (nI ii), .int (nI ks), .ref k2, .ref k3, .ref k4, .long kb]))] sz)) (XT G "java/lang/IndexOutOfBoundsException" (fun (u : Unit) => (() = u)) (fun (u : Unit) => [(qc, .inr (5, [.ref q, .ref qn, .ref qk, .ref qa, .ref qd, .int (zB true)])), (qk, .inr (2, [.ref k1, .int (nI la), .int (nI ss), .int (nI ii), .int (nI ks), .ref k2, .ref k3, .ref k4, .long kb]))]) (va_A [(qc, .inr (5, [.ref q, .ref qn, .ref qk, .ref qa, .ref qd, .int (zB true)])), (qk, .inr (2, [.ref k1, .int (nI la), .int (nI ss), .int (nI ii), .int (nI ks), .ref k2, .ref k3, .ref k4, .long kb]))] sz)) 1 6 (va_A [(qc, .inr (5, [.ref q, .ref qn, .ref qk, .ref qa, .ref qd, .int (zB true)])), (qk, .inr (2, [.ref k1, .int (nI la), .int (nI ss), .int (nI ii), .int (nI ks), .ref k2, .ref k3, .ref k4, .long kb]))] sz) := by
  refine vx_ofW (cc := cC_go) (maxL := 3) (ret := (some .int)) (by decide) rfl ?_
  intro p e s m args below meth c s₁ B hml hno hv
  obtain ⟨hav, ⟨hsz, hP, hK, hD0, hE⟩, hDX⟩ := hv
  have hx := B.exec
  have hb := B.bytes
  have hr := B.returns
  have hTX : ∀ w ∈ TBX, w.before args s = true := fun w h => atoms_spec (ws := Cond.code yC_go cC_go 3 (some .int) :: TBX) B.pre w (List.mem_cons_of_mem _ h)
  have htb : ∀ w ∈ TB, w.before args s = true := fun w h => hTX w (List.mem_append_left _ h)
  have hown : s.vm.findClass "CircuitProver" = some m.cls := findClass_of_methodNamed B.named
  have hlocks := B.notSynchronized
  subst hsz
  have hD := hD0.self (sz := s.heap.size)
  clear hD0
  generalize hRm : (headSpec (Cond.code yC_go cC_go 3 (some .int) :: TBX) { frames := 7, cells := 1, slots := 6, locals := 112 }).room = R
  have hRf : R.frames = 7 := by rw [← hRm]; rfl
  have hRl : R.locals = 112 := by rw [← hRm]; rfl
  have hRc : R.cells = 1 := by rw [← hRm]; rfl
  have hRs : R.slots = 6 := by rw [← hRm]; rfl
  clear hRm
  generalize hAe : va_A [(qc, .inr (5, [.ref q, .ref qn, .ref qk, .ref qa, .ref qd, .int (zB true)])), (qk, .inr (2, [.ref k1, .int (nI la), .int (nI ss), .int (nI ii), .int (nI ks), .ref k2, .ref k3, .ref k4, .long kb]))] s.heap.size = A at hD hE ⊢
  have hA : ∀ q : Nat, s.heap.size ≤ q → A q := fun q h => by rw [← hAe]; exact Or.inr h
  clear hAe
  have hS : va_S A s.heap s.heap [] := va_S.rf
  have hl := lv_entry ([.ref qc, .int x, .int y]) (n := 3) (Nat.le_of_ble_eq_true rfl)
  have hent := lg_entry_eq m ([.ref qc, .int x, .int y]) 3
  rw [← hav] at hent
  rw [hent]
  clear hent hav
  generalize (lg_sl ([.ref qc, .int x, .int y]) ++ List.replicate (3 - (lg_sl ([.ref qc, .int x, .int y])).length) Slot.unset).toArray = ls at hl ⊢
  have hl : lv_has ls 3 [(0, .ref qc), (1, .int x), (2, .int y)] := hl
  generalize hQ : vx_MQ below _ _ args s 1 6 _ = Q
  have hP : va_P (gD G) vC [(qc, .inr (5, [.ref q, .ref qn, .ref qk, .ref qa, .ref qd, .int (zB true)])), (qk, .inr (2, [.ref k1, .int (nI la), .int (nI ss), .int (nI ii), .int (nI ks), .ref k2, .ref k3, .ref k4, .long kb]))] s.heap := hP
  obtain ⟨H, hH⟩ : ∃ H : Heap, H = s.heap := ⟨_, rfl⟩
  obtain ⟨locs, hlc⟩ : ∃ L : List Loc, L = [] := ⟨_, rfl⟩
  have hS : va_S A s.heap H locs := by rw [hH, hlc]; exact hS
  have hP : va_P (gD G) vC [(qc, .inr (5, [.ref q, .ref qn, .ref qk, .ref qa, .ref qd, .int (zB true)])), (qk, .inr (2, [.ref k1, .int (nI la), .int (nI ss), .int (nI ii), .int (nI ks), .ref k2, .ref k3, .ref k4, .long kb]))] H := by rw [hH]; exact hP
  have hgo : W p l e R s m args below meth c H locs 0 0 Q (F0 m 0 ls []) := by
    clear hH hlc
    refine lv_aload_n hx hb dC_go_0 rfl (lv_at hl 0 rfl) ?_
    refine k_v (ws2 := fun u => [(qc, .inr (5, [.ref q, .ref qn, .ref qk, .ref qa, .ref qd, .int (zB true)])), (qk, .inr (2, [.ref k1, .int (nI la), .int (nI ss), .int (nI ii), .int (nI ks), .ref k2, .ref k3, .ref k4, .long kb]))]) (wr := [(qk, .inr (2, [.ref k1, .int (nI la), .int (nI ss), .int (nI ii), .int (nI ks), .ref k2, .ref k3, .ref k4, .long kb]))]) (k_runV (n := 0) (As := []) (rest := []) hx hb hml hown htb hP hD hK hS hA hE (k_C_requireCircuit_ok l G H.size qc q qn qk qa qd ) b507 b509 s23 b1 b510 (by decide +kernel) rfl rfl ⟨by rw [hRf]; exact Nat.le_of_ble_eq_true rfl, by rw [hRl]; exact Nat.le_of_ble_eq_true rfl⟩ [0] rfl (by decide) 0 rfl rfl rfl rfl hl.1 rfl (Nat.le_of_ble_eq_true rfl) dC_go_1 ⟨Nat.zero_le _, Nat.zero_le _⟩) hP hD hS hA [0] [1] [1, 0] rfl rfl (by decide) (by decide) (fun u => rfl) (by decide) (fun u H locs hw hP hD hS => ?_)
    obtain rfl := hw
    have hP : va_P (gD G) vC [(qc, .inr (5, [.ref q, .ref qn, .ref qk, .ref qa, .ref qd, .int (zB true)])), (qk, .inr (2, [.ref k1, .int (nI la), .int (nI ss), .int (nI ii), .int (nI ks), .ref k2, .ref k3, .ref k4, .long kb]))] H := hP
    have hD : va_D A [(qc, .inr (5, [.ref q, .ref qn, .ref qk, .ref qa, .ref qd, .int (zB true)])), (qk, .inr (2, [.ref k1, .int (nI la), .int (nI ss), .int (nI ii), .int (nI ks), .ref k2, .ref k3, .ref k4, .long kb]))] := hD
    refine lv_aload_n hx hb dC_go_4 rfl (lv_at hl 0 rfl) ?_
    refine lv_iload_n hx hb dC_go_5 rfl (lv_at hl 1 rfl) ?_
    refine lv_iload_n hx hb dC_go_6 rfl (lv_at hl 2 rfl) ?_
    refine k_vX (ws2 := fun _ => [(qc, .inr (5, [.ref q, .ref qn, .ref qk, .ref qa, .ref qd, .int (zB true)])), (qk, .inr (2, [.ref k1, .int (nI la), .int (nI ss), .int (nI ii), .int (nI ks), .ref k2, .ref k3, .ref k4, .long kb]))]) (wr := []) (k_runVX (n := 2) (As := [.int x, .int y]) (rest := []) hx hb hml hown hTX hP hD hK hS hA hE hDX (k_C_requirePlace_x l htr G H.size qc q qn qk qa qd k1 k2 k3 k4 la ss ii ks kb x y (show ss ≤ 64 from by omega) (show ii ≤ 8 from by omega) (show ∀ j i, j < ss → i < ii → x = nI j → ¬ y = nI i from hnp)) b535 b537 s24 b1 b538 (by decide +kernel) rfl rfl ⟨by rw [hRf]; exact Nat.le_of_ble_eq_true rfl, by rw [hRl]; exact Nat.le_of_ble_eq_true rfl⟩ [0, 1] rfl (by decide) 0 rfl rfl rfl rfl hl.1 rfl (Nat.le_of_ble_eq_true rfl) dC_go_7 ⟨by rw [hRc]; exact Nat.le_of_ble_eq_true rfl, by rw [hRs]; exact Nat.le_of_ble_eq_true rfl⟩) hP hD hS hA [0, 1] [] [0, 1] rfl rfl (by decide) (by decide) (fun u => rfl) (by decide) (fun u H locs q9 ce hw hP hD hS hce hcv hcl => ?_)
    rw [← hQ]
    exact vx_out (fun x hx => (hno x hx).elim) hlocks hce hcv hcl (k_thrO () (rfl) hP hD hK hS) hS.2.2 (Nat.le_of_ble_eq_true rfl) (Nat.le_of_ble_eq_true rfl)
  rw [hH, hlc] at hgo
  exact hgo
set_option maxRecDepth 100000 in
set_option maxHeartbeats 4000000 in
theorem k_C_output_p (l : Launch) (htr : l.stackTraces = false) (G : GG) (sz : Nat) (qc : Nat) (q : Nat) (qn : Nat) (qk : Nat) (qa : Nat) (qd : Nat) (k1 : Nat) (k2 : Nat) (k3 : Nat) (k4 : Nat) (la : Nat) (ss : Nat) (ii : Nat) (ks : Nat) (kb : Int64) (x : Int32) (y : Int32) (hz : ss ≤ 64) (hii : ii ≤ 8) (hnp : ∀ j i, j < ss → i < ii → x = nI j → ¬ y = nI i) : vx_Met l yC_output (Cond.code yC_output cC_output 3 (some .boolean) :: TBX) { frames := 7, cells := 1, slots := 6, locals := 112 } (va_Pc [.ref qc, .int x, .int y] (befX G [(qc, .inr (5, [.ref q, .ref qn, .ref qk, .ref qa, .ref qd, .int (zB true)])), (qk, .inr (2, [.ref k1, .int (nI la), .int (nI ss), .int (nI ii), .int (nI ks), .ref k2, .ref k3, .ref k4, .long kb]))] sz)) (va_Qi (fun (_ : Int32) (_ : Unit) => False) (fun _ _ => True) (va_A [(qc, .inr (5, [.ref q, .ref qn, .ref qk, .ref qa, .ref qd, .int (zB true)])), (qk, .inr (2, [.ref k1, .int (nI la), .int (nI ss), .int (nI ii), .int (nI ks), .ref k2, .ref k3, .ref k4, .long kb]))] sz)) (XT G "java/lang/IndexOutOfBoundsException" (fun (u : Unit) => (() = u)) (fun (u : Unit) => [(qc, .inr (5, [.ref q, .ref qn, .ref qk, .ref qa, .ref qd, .int (zB true)])), (qk, .inr (2, [.ref k1, .int (nI la), .int (nI ss), .int (nI ii), .int (nI ks), .ref k2, .ref k3, .ref k4, .long kb]))]) (va_A [(qc, .inr (5, [.ref q, .ref qn, .ref qk, .ref qa, .ref qd, .int (zB true)])), (qk, .inr (2, [.ref k1, .int (nI la), .int (nI ss), .int (nI ii), .int (nI ks), .ref k2, .ref k3, .ref k4, .long kb]))] sz)) 1 6 (va_A [(qc, .inr (5, [.ref q, .ref qn, .ref qk, .ref qa, .ref qd, .int (zB true)])), (qk, .inr (2, [.ref k1, .int (nI la), .int (nI ss), .int (nI ii), .int (nI ks), .ref k2, .ref k3, .ref k4, .long kb]))] sz) := by
  refine vx_ofW (cc := cC_output) (maxL := 3) (ret := (some .boolean)) (by decide) rfl ?_
  intro p e s m args below meth c s₁ B hml hno hv
  obtain ⟨hav, ⟨hsz, hP, hK, hD0, hE⟩, hDX⟩ := hv
  have hx := B.exec
  have hb := B.bytes
  have hr := B.returns
  have hTX : ∀ w ∈ TBX, w.before args s = true := fun w h => atoms_spec (ws := Cond.code yC_output cC_output 3 (some .boolean) :: TBX) B.pre w (List.mem_cons_of_mem _ h)
  have htb : ∀ w ∈ TB, w.before args s = true := fun w h => hTX w (List.mem_append_left _ h)
  have hown : s.vm.findClass "CircuitProver" = some m.cls := findClass_of_methodNamed B.named
  have hlocks := B.notSynchronized
  subst hsz
  have hD := hD0.self (sz := s.heap.size)
  clear hD0
  generalize hRm : (headSpec (Cond.code yC_output cC_output 3 (some .boolean) :: TBX) { frames := 7, cells := 1, slots := 6, locals := 112 }).room = R
  have hRf : R.frames = 7 := by rw [← hRm]; rfl
  have hRl : R.locals = 112 := by rw [← hRm]; rfl
  have hRc : R.cells = 1 := by rw [← hRm]; rfl
  have hRs : R.slots = 6 := by rw [← hRm]; rfl
  clear hRm
  generalize hAe : va_A [(qc, .inr (5, [.ref q, .ref qn, .ref qk, .ref qa, .ref qd, .int (zB true)])), (qk, .inr (2, [.ref k1, .int (nI la), .int (nI ss), .int (nI ii), .int (nI ks), .ref k2, .ref k3, .ref k4, .long kb]))] s.heap.size = A at hD hE ⊢
  have hA : ∀ q : Nat, s.heap.size ≤ q → A q := fun q h => by rw [← hAe]; exact Or.inr h
  clear hAe
  have hS : va_S A s.heap s.heap [] := va_S.rf
  have hl := lv_entry ([.ref qc, .int x, .int y]) (n := 3) (Nat.le_of_ble_eq_true rfl)
  have hent := lg_entry_eq m ([.ref qc, .int x, .int y]) 3
  rw [← hav] at hent
  rw [hent]
  clear hent hav
  generalize (lg_sl ([.ref qc, .int x, .int y]) ++ List.replicate (3 - (lg_sl ([.ref qc, .int x, .int y])).length) Slot.unset).toArray = ls at hl ⊢
  have hl : lv_has ls 3 [(0, .ref qc), (1, .int x), (2, .int y)] := hl
  generalize hQ : vx_MQ below _ _ args s 1 6 _ = Q
  have hP : va_P (gD G) vC [(qc, .inr (5, [.ref q, .ref qn, .ref qk, .ref qa, .ref qd, .int (zB true)])), (qk, .inr (2, [.ref k1, .int (nI la), .int (nI ss), .int (nI ii), .int (nI ks), .ref k2, .ref k3, .ref k4, .long kb]))] s.heap := hP
  obtain ⟨H, hH⟩ : ∃ H : Heap, H = s.heap := ⟨_, rfl⟩
  obtain ⟨locs, hlc⟩ : ∃ L : List Loc, L = [] := ⟨_, rfl⟩
  have hS : va_S A s.heap H locs := by rw [hH, hlc]; exact hS
  have hP : va_P (gD G) vC [(qc, .inr (5, [.ref q, .ref qn, .ref qk, .ref qa, .ref qd, .int (zB true)])), (qk, .inr (2, [.ref k1, .int (nI la), .int (nI ss), .int (nI ii), .int (nI ks), .ref k2, .ref k3, .ref k4, .long kb]))] H := by rw [hH]; exact hP
  have hgo : W p l e R s m args below meth c H locs 0 0 Q (F0 m 0 ls []) := by
    clear hH hlc
    refine lv_aload_n hx hb dC_output_0 rfl (lv_at hl 0 rfl) ?_
    refine k_v (ws2 := fun u => [(qc, .inr (5, [.ref q, .ref qn, .ref qk, .ref qa, .ref qd, .int (zB true)])), (qk, .inr (2, [.ref k1, .int (nI la), .int (nI ss), .int (nI ii), .int (nI ks), .ref k2, .ref k3, .ref k4, .long kb]))]) (wr := [(qk, .inr (2, [.ref k1, .int (nI la), .int (nI ss), .int (nI ii), .int (nI ks), .ref k2, .ref k3, .ref k4, .long kb]))]) (k_runV (n := 0) (As := []) (rest := []) hx hb hml hown htb hP hD hK hS hA hE (k_C_requireCircuit_ok l G H.size qc q qn qk qa qd ) b507 b509 s23 b1 b510 (by decide +kernel) rfl rfl ⟨by rw [hRf]; exact Nat.le_of_ble_eq_true rfl, by rw [hRl]; exact Nat.le_of_ble_eq_true rfl⟩ [0] rfl (by decide) 0 rfl rfl rfl rfl hl.1 rfl (Nat.le_of_ble_eq_true rfl) dC_output_1 ⟨Nat.zero_le _, Nat.zero_le _⟩) hP hD hS hA [0] [1] [1, 0] rfl rfl (by decide) (by decide) (fun u => rfl) (by decide) (fun u H locs hw hP hD hS => ?_)
    obtain rfl := hw
    have hP : va_P (gD G) vC [(qc, .inr (5, [.ref q, .ref qn, .ref qk, .ref qa, .ref qd, .int (zB true)])), (qk, .inr (2, [.ref k1, .int (nI la), .int (nI ss), .int (nI ii), .int (nI ks), .ref k2, .ref k3, .ref k4, .long kb]))] H := hP
    have hD : va_D A [(qc, .inr (5, [.ref q, .ref qn, .ref qk, .ref qa, .ref qd, .int (zB true)])), (qk, .inr (2, [.ref k1, .int (nI la), .int (nI ss), .int (nI ii), .int (nI ks), .ref k2, .ref k3, .ref k4, .long kb]))] := hD
    refine lv_aload_n hx hb dC_output_4 rfl (lv_at hl 0 rfl) ?_
    refine lv_iload_n hx hb dC_output_5 rfl (lv_at hl 1 rfl) ?_
    refine lv_iload_n hx hb dC_output_6 rfl (lv_at hl 2 rfl) ?_
    refine k_vX (ws2 := fun _ => [(qc, .inr (5, [.ref q, .ref qn, .ref qk, .ref qa, .ref qd, .int (zB true)])), (qk, .inr (2, [.ref k1, .int (nI la), .int (nI ss), .int (nI ii), .int (nI ks), .ref k2, .ref k3, .ref k4, .long kb]))]) (wr := []) (k_runVX (n := 2) (As := [.int x, .int y]) (rest := []) hx hb hml hown hTX hP hD hK hS hA hE hDX (k_C_requirePlace_x l htr G H.size qc q qn qk qa qd k1 k2 k3 k4 la ss ii ks kb x y (show ss ≤ 64 from by omega) (show ii ≤ 8 from by omega) (show ∀ j i, j < ss → i < ii → x = nI j → ¬ y = nI i from hnp)) b535 b537 s24 b1 b538 (by decide +kernel) rfl rfl ⟨by rw [hRf]; exact Nat.le_of_ble_eq_true rfl, by rw [hRl]; exact Nat.le_of_ble_eq_true rfl⟩ [0, 1] rfl (by decide) 0 rfl rfl rfl rfl hl.1 rfl (Nat.le_of_ble_eq_true rfl) dC_output_7 ⟨by rw [hRc]; exact Nat.le_of_ble_eq_true rfl, by rw [hRs]; exact Nat.le_of_ble_eq_true rfl⟩) hP hD hS hA [0, 1] [] [0, 1] rfl rfl (by decide) (by decide) (fun u => rfl) (by decide) (fun u H locs q9 ce hw hP hD hS hce hcv hcl => ?_)
    rw [← hQ]
    exact vx_out (fun x hx => (hno x hx).elim) hlocks hce hcv hcl (k_thrO () (rfl) hP hD hK hS) hS.2.2 (Nat.le_of_ble_eq_true rfl) (Nat.le_of_ble_eq_true rfl)
  rw [hH, hlc] at hgo
  exact hgo
