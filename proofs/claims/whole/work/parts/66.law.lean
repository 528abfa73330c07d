set_option maxRecDepth 100000 in
set_option maxHeartbeats 4000000 in
theorem k_L_depth_ok (l : Launch) (htr : l.stackTraces = false) (G : GG) (sz : Nat) (qc : Nat) (q : Nat) (qn : Nat) (qk : Nat) (qa : Nat) (qd : Nat) (r1 : Nat) (r2 : Nat) (ns : Nat) (re : Int64) (sp : Int32) (lr : Nat) (rt : Nat) (vi : Int64) (qb : Nat) (bx : Nat → Int64) : vx_Met l yL_depth (Cond.codeWith yL_depth cL_depth 3 (some .int) [(0, 8, 11, 21)] :: TBX) { frames := 2, cells := 0, slots := 0, locals := 40 } (va_Pc [.ref qc, .ref qb] (befX G [(qc, .inr (5, [.ref q, .ref qn, .ref qk, .ref qa, .ref qd, .int (zB true)])), (qa, .inr (0, [.ref r1, .int (nI ns), .long re, .int sp, .ref r2, .int (nI lr), .int (nI rt), .long vi])), (qb, aJ G 1 bx)] sz)) (va_Qi (fun (r : Int32) (u : (Nat → Int64)) => (nI 0 = r ∧ va_up bx 0 (Int32.toInt64 sp) = u)) (fun u => aft G (va_A [(qc, .inr (5, [.ref q, .ref qn, .ref qk, .ref qa, .ref qd, .int (zB true)])), (qa, .inr (0, [.ref r1, .int (nI ns), .long re, .int sp, .ref r2, .int (nI lr), .int (nI rt), .long vi])), (qb, aJ G 1 bx)] sz) ((fun (u : (Nat → Int64)) => [(qc, .inr (5, [.ref q, .ref qn, .ref qk, .ref qa, .ref qd, .int (zB true)])), (qa, .inr (0, [.ref r1, .int (nI ns), .long re, .int sp, .ref r2, .int (nI lr), .int (nI rt), .long vi])), (qb, aJ G 1 u)]) u)) (va_A [(qc, .inr (5, [.ref q, .ref qn, .ref qk, .ref qa, .ref qd, .int (zB true)])), (qa, .inr (0, [.ref r1, .int (nI ns), .long re, .int sp, .ref r2, .int (nI lr), .int (nI rt), .long vi])), (qb, aJ G 1 bx)] sz)) (fun _ _ _ => False) 0 0 (va_A [(qc, .inr (5, [.ref q, .ref qn, .ref qk, .ref qa, .ref qd, .int (zB true)])), (qa, .inr (0, [.ref r1, .int (nI ns), .long re, .int sp, .ref r2, .int (nI lr), .int (nI rt), .long vi])), (qb, aJ G 1 bx)] sz) := by
  refine vx_ofWH (cc := cL_depth) (maxL := 3) (ret := (some .int)) (by decide) rfl ?_
  intro p e s m args below meth c s₁ B hml hv
  obtain ⟨hav, ⟨hsz, hP, hK, hD0, hE⟩, hDX⟩ := hv
  have hx := B.exec
  have hb := B.bytes
  have hr := B.returns
  have hTX : ∀ w ∈ TBX, w.before args s = true := fun w h => atoms_spec (ws := Cond.codeWith yL_depth cL_depth 3 (some .int) [(0, 8, 11, 21)] :: TBX) B.pre w (List.mem_cons_of_mem _ h)
  have htb : ∀ w ∈ TB, w.before args s = true := fun w h => hTX w (List.mem_append_left _ h)
  have hown : s.vm.findClass "CircuitProverLaw" = some m.cls := findClass_of_methodNamed B.named
  have hlocks := B.notSynchronized
  subst hsz
  have hD := hD0.self (sz := s.heap.size)
  clear hD0
  generalize hRm : (headSpec (Cond.codeWith yL_depth cL_depth 3 (some .int) [(0, 8, 11, 21)] :: TBX) { frames := 2, cells := 0, slots := 0, locals := 40 }).room = R
  have hRf : R.frames = 2 := by rw [← hRm]; rfl
  have hRl : R.locals = 40 := by rw [← hRm]; rfl
  have hRc : R.cells = 0 := by rw [← hRm]; rfl
  have hRs : R.slots = 0 := by rw [← hRm]; rfl
  clear hRm
  generalize hAe : va_A [(qc, .inr (5, [.ref q, .ref qn, .ref qk, .ref qa, .ref qd, .int (zB true)])), (qa, .inr (0, [.ref r1, .int (nI ns), .long re, .int sp, .ref r2, .int (nI lr), .int (nI rt), .long vi])), (qb, aJ G 1 bx)] s.heap.size = A at hD hE ⊢
  have hA : ∀ q : Nat, s.heap.size ≤ q → A q := fun q h => by rw [← hAe]; exact Or.inr h
  clear hAe
  have hS : va_S A s.heap s.heap [] := va_S.rf
  have hl := lv_entry ([.ref qc, .ref qb]) (n := 3) (Nat.le_of_ble_eq_true rfl)
  have hent := lg_entry_eq m ([.ref qc, .ref qb]) 3
  rw [← hav] at hent
  rw [hent]
  clear hent hav
  generalize (lg_sl ([.ref qc, .ref qb]) ++ List.replicate (3 - (lg_sl ([.ref qc, .ref qb])).length) Slot.unset).toArray = ls at hl ⊢
  have hl : lv_has ls 3 [(0, .ref qc), (1, .ref qb)] := hl
  generalize hQ : vx_MQ below _ _ args s 0 0 _ = Q
  have hP : va_P (gD G) vC [(qc, .inr (5, [.ref q, .ref qn, .ref qk, .ref qa, .ref qd, .int (zB true)])), (qa, .inr (0, [.ref r1, .int (nI ns), .long re, .int sp, .ref r2, .int (nI lr), .int (nI rt), .long vi])), (qb, aJ G 1 bx)] s.heap := hP
  obtain ⟨H, hH⟩ : ∃ H : Heap, H = s.heap := ⟨_, rfl⟩
  obtain ⟨locs, hlc⟩ : ∃ L : List Loc, L = [] := ⟨_, rfl⟩
  have hS : va_S A s.heap H locs := by rw [hH, hlc]; exact hS
  have hP : va_P (gD G) vC [(qc, .inr (5, [.ref q, .ref qn, .ref qk, .ref qa, .ref qd, .int (zB true)])), (qa, .inr (0, [.ref r1, .int (nI ns), .long re, .int sp, .ref r2, .int (nI lr), .int (nI rt), .long vi])), (qb, aJ G 1 bx)] H := by rw [hH]; exact hP
  have hgo : W p l e R s m args below meth c H locs 0 0 Q (F0 m 0 ls []) := by
    clear hH hlc
    refine lv_aload_n hx hb dL_depth_0 rfl (lv_at hl 1 rfl) ?_
    refine lv_iconst (v := nI 0) hx hb dL_depth_1 (by decide) ?_
    refine lv_aload_n hx hb dL_depth_2 rfl (lv_at hl 0 rfl) ?_
    refine k_i (ws2 := fun u => [(qc, .inr (5, [.ref q, .ref qn, .ref qk, .ref qa, .ref qd, .int (zB true)])), (qa, .inr (0, [.ref r1, .int (nI ns), .long re, .int sp, .ref r2, .int (nI lr), .int (nI rt), .long vi])), (qb, aJ G 1 bx)]) (wr := [(qb, aJ G 1 bx)]) (k_runV (n := 0) (As := []) (rest := [.int (nI 0), .ref qb]) hx hb hml hown htb hP hD hK hS hA hE (k_C_depth_ok l G H.size qc q qn qk qa qd r1 r2 ns re sp lr rt vi ) b583 b584 b585 b1 b586 (by decide +kernel) rfl rfl ⟨by rw [hRf]; exact Nat.le_of_ble_eq_true rfl, by rw [hRl]; exact Nat.le_of_ble_eq_true rfl⟩ [0, 1] rfl (by decide) 0 rfl rfl rfl rfl hl.1 rfl (Nat.le_of_ble_eq_true rfl) dL_depth_3 ⟨Nat.zero_le _, Nat.zero_le _⟩) hP hD hS hA [0, 1] [2] [1, 2, 0] rfl rfl (by decide) (by decide) (fun u => rfl) (by decide) (fun r u H locs hw hP hD hS => ?_)
    obtain ⟨rfl, rfl⟩ := hw
    have hP : va_P (gD G) vC [(qc, .inr (5, [.ref q, .ref qn, .ref qk, .ref qa, .ref qd, .int (zB true)])), (qa, .inr (0, [.ref r1, .int (nI ns), .long re, .int sp, .ref r2, .int (nI lr), .int (nI rt), .long vi])), (qb, aJ G 1 bx)] H := hP
    have hD : va_D A [(qc, .inr (5, [.ref q, .ref qn, .ref qk, .ref qa, .ref qd, .int (zB true)])), (qa, .inr (0, [.ref r1, .int (nI ns), .long re, .int sp, .ref r2, .int (nI lr), .int (nI rt), .long vi])), (qb, aJ G 1 bx)] := hD
    refine lv_i2l (v := Int32.toInt64 sp) hx hb dL_depth_6 rfl ?_
    refine k_last hx hb hK hP hD hS 2 rfl (k := 0) (v := Int32.toInt64 sp) (by omega) (by decide) dL_depth_7 (fun H locs hP hD hS => ?_)
    have hP : va_P (gD G) vC [(qc, .inr (5, [.ref q, .ref qn, .ref qk, .ref qa, .ref qd, .int (zB true)])), (qa, .inr (0, [.ref r1, .int (nI ns), .long re, .int sp, .ref r2, .int (nI lr), .int (nI rt), .long vi])), (qb, aJ G 1 (va_up bx 0 (Int32.toInt64 sp)))] H := hP
    have hD : va_D A [(qc, .inr (5, [.ref q, .ref qn, .ref qk, .ref qa, .ref qd, .int (zB true)])), (qa, .inr (0, [.ref r1, .int (nI ns), .long re, .int sp, .ref r2, .int (nI lr), .int (nI rt), .long vi])), (qb, aJ G 1 (va_up bx 0 (Int32.toInt64 sp)))] := hD
    refine lv_goto (tgt := 14) hx hb dL_depth_8 rfl ?_
    refine lv_iconst (v := nI 0) hx hb dL_depth_14 (by decide) ?_
    -- end 0
    rw [← hQ]
    exact vx_ret (k_iret hx hb hr hlocks rfl (u := (va_up bx 0 (Int32.toInt64 sp))) (⟨rfl, rfl⟩) hP hD hK hS dL_depth_15)
  rw [hH, hlc] at hgo
  exact hgo
