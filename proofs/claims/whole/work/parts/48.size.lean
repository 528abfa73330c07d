def sel4 (k : Nat) (a b c d : Int64) : Int64 := if k = 0 then a else if k = 1 then b else if k = 2 then c else d
theorem b0_nat (y : Int64) : (Int64.toInt32 y).toBitVec.toNat % 2 = if lb y 0 = true then 1 else 0 := by
  rw [Int64.toBitVec_toInt32, BitVec.signExtend_eq_setWidth_of_le _ (by decide), BitVec.toNat_setWidth, Nat.mod_mod_of_dvd _ (by decide)]
  have e : lb y 0 = y.toBitVec.toNat.testBit 0 := rfl
  rw [e, Nat.testBit_eq_decide_div_mod_eq, Nat.pow_zero, Nat.div_one]
  by_cases h : y.toBitVec.toNat % 2 = 1
  · rw [if_pos (decide_eq_true h), h]
  · rw [if_neg (by rw [decide_eq_false h]; decide)]; omega
theorem b0_sr (x : Int64) {k : Nat} (hk : k < 64) : (Int64.toInt32 (sr x k)).toBitVec.toNat % 2 = if lb x k = true then 1 else 0 := by
  rw [b0_nat, lb_sr x hk (by omega), Nat.add_zero, if_pos hk]
theorem eq_bits (x : Int64) {a b : Nat} (ha : a < 64) (hb : b < 64) : (sr x a &&& 1) = (sr x b &&& 1) ↔ lb x a = lb x b := by
  have h1 := bit_s x ha
  have h2 := bit_s x hb
  rw [and1] at h1 h2 ⊢
  rw [and1]
  have e1 : lb (sr x a) 0 = lb x a := by rw [lb_sr x ha (by omega), Nat.add_zero, if_pos ha]
  have e2 : lb (sr x b) 0 = lb x b := by rw [lb_sr x hb (by omega), Nat.add_zero, if_pos hb]
  rw [e1, e2]
  cases lb x a <;> cases lb x b <;> simp [one_ne, one_ne.symm]
def frM (S : Nat) (x : Int64) (j h a : Nat) : Bool := hangM (fnM S x j a) h && !anyN (fun b => decide (fnM S x j b = fnM S x j a)) a
theorem fr_stop {P : Nat → Bool} {g : Bool} {b a : Nat} (hb : b ≤ a) (h : (g && !anyN P b) = false) : (g && !anyN P a) = false := by
  cases g
  · rfl
  · have h1 : anyN P b = true := by
      cases e : anyN P b
      · rw [e] at h; exact absurd h (by decide)
      · rfl
    obtain ⟨k, hk, e⟩ := anyN_iff.mp h1
    rw [anyN_iff.mpr ⟨k, by omega, e⟩]; rfl
set_option maxRecDepth 100000 in
set_option maxHeartbeats 4000000 in
theorem k_M_isSet (l : Launch) (G : GG) (sz : Nat) (qm : Nat) (xt : Nat) (xh : Nat) (xi : Nat) (xl : Nat) (xo : Nat) (xg : Nat) (xd : Nat) (xs : Nat) (xn : Nat) (xb : Nat) (xv : Nat) (th : Nat) (ul : Nat) (pt : Nat) (ld : Bool) (stt : Nat) (sts : Nat) (drw : Nat) (bd : Nat) (rd : Nat) (fx : Nat → Nat) (fb : Nat → Bool) (x : Int32) (hz : sts ≤ 64) (hdw : 1 ≤ drw ∧ drw ≤ 8) (hst : stt < 64) : Ki l yM_isSet cM_isSet 2 .boolean 3 69 G [.ref qm, .int x] [(qm, .inr (6, [.int (nI th), .int (nI ul), .ref xt, .int (nI pt), .ref xh, .ref xi, .ref xl, .ref xo, .ref xg, .ref xd, .int (zB ld), .ref xs, .int (nI stt), .int (nI sts), .int (nI drw), .ref xn, .ref xb, .ref xv, .int (nI bd), .int (nI rd)])), (xn, aI G 512 fx), (xb, aZ G 512 fb)] sz (fun (r : Int32) (u : Unit) => (∃ (j : Nat), (j < 4 ∧ x = nI j) ∧ (j = 0 → (gr (postOf sts drw (nxF fx)) 64 (sg stt) &&& (badOf sts drw (bdF fb))) = 0) ∧ nI 1 = r ∧ () = u) ∨ ((∀ j, j < 4 → x = nI j → (j = 0 ∧ ¬ (gr (postOf sts drw (nxF fx)) 64 (sg stt) &&& (badOf sts drw (bdF fb))) = 0)) ∧ nI 0 = r ∧ () = u)) (fun (u : Unit) => [(qm, .inr (6, [.int (nI th), .int (nI ul), .ref xt, .int (nI pt), .ref xh, .ref xi, .ref xl, .ref xo, .ref xg, .ref xd, .int (zB ld), .ref xs, .int (nI stt), .int (nI sts), .int (nI drw), .ref xn, .ref xb, .ref xv, .int (nI bd), .int (nI rd)])), (xn, aI G 512 fx), (xb, aZ G 512 fb)]) := by
  refine Met.ofW (cc := cM_isSet) (maxL := 2) (ret := (some .boolean)) (by decide) rfl ?_
  intro p e s m args below meth c s₁ B hml hv
  obtain ⟨hav, hsz, hP, hK, hD0, hE⟩ := hv
  have hx := B.exec
  have hb := B.bytes
  have hr := B.returns
  have htb : ∀ w ∈ TB, w.before args s = true := fun w h => atoms_spec (ws := Cond.code yM_isSet cM_isSet 2 (some .boolean) :: TB) B.pre w (List.mem_cons_of_mem _ h)
  have hown : s.vm.findClass "CircuitProverModel" = some m.cls := findClass_of_methodNamed B.named
  have hlocks := B.notSynchronized
  subst hsz
  have hD := hD0.self (sz := s.heap.size)
  clear hD0
  generalize hRm : (headSpec (Cond.code yM_isSet cM_isSet 2 (some .boolean) :: TB) { frames := 3, cells := 0, slots := 0, locals := 69 }).room = R
  have hRf : R.frames = 3 := by rw [← hRm]; rfl
  have hRl : R.locals = 69 := by rw [← hRm]; rfl
  have hRc : R.cells = 0 := by rw [← hRm]; rfl
  have hRs : R.slots = 0 := by rw [← hRm]; rfl
  clear hRm
  generalize hAe : va_A [(qm, .inr (6, [.int (nI th), .int (nI ul), .ref xt, .int (nI pt), .ref xh, .ref xi, .ref xl, .ref xo, .ref xg, .ref xd, .int (zB ld), .ref xs, .int (nI stt), .int (nI sts), .int (nI drw), .ref xn, .ref xb, .ref xv, .int (nI bd), .int (nI rd)])), (xn, aI G 512 fx), (xb, aZ G 512 fb)] s.heap.size = A at hD hE ⊢
  have hA : ∀ q : Nat, s.heap.size ≤ q → A q := fun q h => by rw [← hAe]; exact Or.inr h
  clear hAe
  have hS : va_S A s.heap s.heap [] := va_S.rf
  have hl := lv_entry ([.ref qm, .int x]) (n := 2) (Nat.le_of_ble_eq_true rfl)
  have hent := lg_entry_eq m ([.ref qm, .int x]) 2
  rw [← hav] at hent
  rw [hent]
  clear hent hav
  generalize (lg_sl ([.ref qm, .int x]) ++ List.replicate (2 - (lg_sl ([.ref qm, .int x])).length) Slot.unset).toArray = ls at hl ⊢
  have hl : lv_has ls 2 [(0, .ref qm), (1, .int x)] := hl
  generalize hQ : MQ below _ args s 0 0 _ = Q
  have hP : va_P (gD G) vC [(qm, .inr (6, [.int (nI th), .int (nI ul), .ref xt, .int (nI pt), .ref xh, .ref xi, .ref xl, .ref xo, .ref xg, .ref xd, .int (zB ld), .ref xs, .int (nI stt), .int (nI sts), .int (nI drw), .ref xn, .ref xb, .ref xv, .int (nI bd), .int (nI rd)])), (xn, aI G 512 fx), (xb, aZ G 512 fb)] s.heap := hP
  obtain ⟨H, hH⟩ : ∃ H : Heap, H = s.heap := ⟨_, rfl⟩
  obtain ⟨locs, hlc⟩ : ∃ L : List Loc, L = [] := ⟨_, rfl⟩
  have hS : va_S A s.heap H locs := by rw [hH, hlc]; exact hS
  have hP : va_P (gD G) vC [(qm, .inr (6, [.int (nI th), .int (nI ul), .ref xt, .int (nI pt), .ref xh, .ref xi, .ref xl, .ref xo, .ref xg, .ref xd, .int (zB ld), .ref xs, .int (nI stt), .int (nI sts), .int (nI drw), .ref xn, .ref xb, .ref xv, .int (nI bd), .int (nI rd)])), (xn, aI G 512 fx), (xb, aZ G 512 fb)] H := by rw [hH]; exact hP
  have hgo : W p l e R s m args below meth c H locs 0 0 Q (F0 m 0 ls []) := by
    clear hH hlc
    refine lv_iload_n hx hb dM_isSet_0 rfl (lv_at hl 1 rfl) ?_
    refine lv_if_lt (tgt := 24) hx hb dM_isSet_1 rfl (fun h1 => ?_) (fun h1 => ?_)
    · skip
      refine lv_iconst (v := nI 0) hx hb dM_isSet_24 (by decide) ?_
      -- end 0
      rw [← hQ]
      exact k_iret hx hb hr hlocks (by decide) (u := ()) (Or.inr ⟨fun j hj e9 => (by rw [e9] at h1; exact (nI_pos (by omega) h1).elim), rfl, rfl⟩) hP hD hK hS dM_isSet_25
    · skip
      refine lv_iload_n hx hb dM_isSet_4 rfl (lv_at hl 1 rfl) ?_
      refine lv_iconst (v := nI 4) hx hb dM_isSet_5 (by decide) ?_
      refine lv_icmp_ge (tgt := 24) hx hb dM_isSet_6 rfl (fun h6 => ?_) (fun h6 => ?_)
      · skip
        refine lv_iconst (v := nI 0) hx hb dM_isSet_24 (by decide) ?_
        -- end 1
        rw [← hQ]
        exact k_iret hx hb hr hlocks (by decide) (u := ()) (Or.inr ⟨fun j hj e9 => (by rw [e9] at h6; exact (nI_ge hj (by omega) h6).elim), rfl, rfl⟩) hP hD hK hS dM_isSet_25
      · skip
        obtain ⟨j, hj4, rfl⟩ : ∃ j, j < 4 ∧ x = nI j := by rcases pk_ix x (n := 4) (by omega) with h | h | h; (exact absurd h h1); (exact absurd h h6); exact h
        refine lv_iload_n hx hb dM_isSet_9 rfl (lv_at hl 1 rfl) ?_
        refine lv_if_gt (tgt := 20) hx hb dM_isSet_10 rfl (fun h10 => ?_) (fun h10 => ?_)
        · have h10 : 0 < j := (nI_ltI (a := 0) (b := j) (by omega) (by omega)).mp h10
          refine lv_iconst (v := nI 1) hx hb dM_isSet_20 (by decide) ?_
          refine lv_goto (tgt := 25) hx hb dM_isSet_21 rfl ?_
          -- end 2
          rw [← hQ]
          exact k_iret hx hb hr hlocks (by decide) (u := ()) (Or.inl ⟨j, ⟨hj4, rfl⟩, fun h => by omega, rfl, rfl⟩) hP hD hK hS dM_isSet_25
        · have h10 : j ≤ 0 := Nat.le_of_not_lt (fun z => h10 ((nI_ltI (a := 0) (b := j) (by omega) (by omega)).mpr z))
          refine lv_aload_n hx hb dM_isSet_13 rfl (lv_at hl 0 rfl) ?_
          refine k_i (ws2 := fun u => [(qm, .inr (6, [.int (nI th), .int (nI ul), .ref xt, .int (nI pt), .ref xh, .ref xi, .ref xl, .ref xo, .ref xg, .ref xd, .int (zB ld), .ref xs, .int (nI stt), .int (nI sts), .int (nI drw), .ref xn, .ref xb, .ref xv, .int (nI bd), .int (nI rd)])), (xn, aI G 512 fx), (xb, aZ G 512 fb)]) (wr := []) (k_runV (n := 0) (As := []) (rest := []) hx hb hml hown htb hP hD hK hS hA hE (k_M_isSafe l G H.size qm xt xh xi xl xo xg xd xs xn xb xv th ul pt ld stt sts drw bd rd fx fb (show sts ≤ 64 from by omega) (show 1 ≤ drw ∧ drw ≤ 8 from by omega) (show stt < 64 from by omega)) b812 b814 s40 b7 b815 (by decide +kernel) rfl rfl ⟨by rw [hRf]; exact Nat.le_of_ble_eq_true rfl, by rw [hRl]; exact Nat.le_of_ble_eq_true rfl⟩ [0, 1, 2] rfl (by decide) 0 rfl rfl rfl rfl hl.1 rfl (Nat.le_of_ble_eq_true rfl) dM_isSet_14 ⟨Nat.zero_le _, Nat.zero_le _⟩) hP hD hS hA [0, 1, 2] [] [0, 1, 2] rfl rfl (by decide) (by decide) (fun u => rfl) (by decide) (fun r u H locs hw hP hD hS => ?_)
          rcases hw with ⟨hc14_e, rfl, rfl⟩ | ⟨hc14_e, rfl, rfl⟩
          · skip
            have hP : va_P (gD G) vC [(qm, .inr (6, [.int (nI th), .int (nI ul), .ref xt, .int (nI pt), .ref xh, .ref xi, .ref xl, .ref xo, .ref xg, .ref xd, .int (zB ld), .ref xs, .int (nI stt), .int (nI sts), .int (nI drw), .ref xn, .ref xb, .ref xv, .int (nI bd), .int (nI rd)])), (xn, aI G 512 fx), (xb, aZ G 512 fb)] H := hP
            have hD : va_D A [(qm, .inr (6, [.int (nI th), .int (nI ul), .ref xt, .int (nI pt), .ref xh, .ref xi, .ref xl, .ref xo, .ref xg, .ref xd, .int (zB ld), .ref xs, .int (nI stt), .int (nI sts), .int (nI drw), .ref xn, .ref xb, .ref xv, .int (nI bd), .int (nI rd)])), (xn, aI G 512 fx), (xb, aZ G 512 fb)] := hD
            refine lv_if_eq (tgt := 24) hx hb dM_isSet_17 rfl (fun h17 => (by revert h17; first | decide | exact fun z => absurd z (by decide) | exact fun z => z.elim (by decide))) (fun _ => ?_)
            refine lv_iconst (v := nI 1) hx hb dM_isSet_20 (by decide) ?_
            refine lv_goto (tgt := 25) hx hb dM_isSet_21 rfl ?_
            -- end 3
            rw [← hQ]
            exact k_iret hx hb hr hlocks (by decide) (u := ()) (Or.inl ⟨j, ⟨hj4, rfl⟩, fun _ => hc14_e, rfl, rfl⟩) hP hD hK hS dM_isSet_25
          · skip
            have hP : va_P (gD G) vC [(qm, .inr (6, [.int (nI th), .int (nI ul), .ref xt, .int (nI pt), .ref xh, .ref xi, .ref xl, .ref xo, .ref xg, .ref xd, .int (zB ld), .ref xs, .int (nI stt), .int (nI sts), .int (nI drw), .ref xn, .ref xb, .ref xv, .int (nI bd), .int (nI rd)])), (xn, aI G 512 fx), (xb, aZ G 512 fb)] H := hP
            have hD : va_D A [(qm, .inr (6, [.int (nI th), .int (nI ul), .ref xt, .int (nI pt), .ref xh, .ref xi, .ref xl, .ref xo, .ref xg, .ref xd, .int (zB ld), .ref xs, .int (nI stt), .int (nI sts), .int (nI drw), .ref xn, .ref xb, .ref xv, .int (nI bd), .int (nI rd)])), (xn, aI G 512 fx), (xb, aZ G 512 fb)] := hD
            refine lv_if_eq (tgt := 24) hx hb dM_isSet_17 rfl (fun _ => ?_) (fun h17 => (by revert h17; first | decide | exact fun z => absurd z (by decide) | exact fun z => z.elim (by decide)))
            refine lv_iconst (v := nI 0) hx hb dM_isSet_24 (by decide) ?_
            -- end 4
            rw [← hQ]
            exact k_iret hx hb hr hlocks (by decide) (u := ()) (Or.inr ⟨fun i hi e9 => ⟨(by have := (nI_eq (a := j) (b := i) (by omega) (by omega)).mp e9; omega), hc14_e⟩, rfl, rfl⟩) hP hD hK hS dM_isSet_25
  rw [hH, hlc] at hgo
  exact hgo
set_option maxRecDepth 100000 in
set_option maxHeartbeats 4000000 in
theorem k_M_set (l : Launch) (G : GG) (sz : Nat) (qm : Nat) (xt : Nat) (xh : Nat) (xi : Nat) (xl : Nat) (xo : Nat) (xg : Nat) (xd : Nat) (xs : Nat) (xn : Nat) (xb : Nat) (xv : Nat) (th : Nat) (ul : Nat) (pt : Nat) (ld : Bool) (stt : Nat) (sts : Nat) (drw : Nat) (bd : Nat) (rd : Nat) (fs : Nat → Nat) (fx : Nat → Nat) (fb : Nat → Bool) (k : Nat) (hz : sts ≤ 64) (hdw : 1 ≤ drw ∧ drw ≤ 8) (hn6 : ∀ a b, a < sts → b < drw → fx (8 * a + b) < 64) (hst : stt < 64) (hla : fs 2 ≤ 6) (hk : k < 4) : Kl l yM_set cM_set 2 3 80 G [.ref qm, .int (nI k)] [(qm, .inr (6, [.int (nI th), .int (nI ul), .ref xt, .int (nI pt), .ref xh, .ref xi, .ref xl, .ref xo, .ref xg, .ref xd, .int (zB ld), .ref xs, .int (nI stt), .int (nI sts), .int (nI drw), .ref xn, .ref xb, .ref xv, .int (nI bd), .int (nI rd)])), (xs, aI G 5 fs), (xn, aI G 512 fx), (xb, aZ G 512 fb)] sz (fun (r : Int64) (u : Nat × Nat) => (sel4 k (prf (postOf sts drw (nxF fx)) (nrF (nF sts drw (nxF fx) (badOf sts drw (bdF fb)))) (widM sts) (fs 2) (sg stt) 10000 1 (sg stt) 0).2.1 (gr (postOf sts drw (nxF fx)) 64 (sg stt)) (badOf sts drw (bdF fb)) ((nF sts drw (nxF fx) (badOf sts drw (bdF fb))) 63) = r ∧ (if k = 0 then (prf (postOf sts drw (nxF fx)) (nrF (nF sts drw (nxF fx) (badOf sts drw (bdF fb)))) (widM sts) (fs 2) (sg stt) 10000 1 (sg stt) 0).1 else bd, if k = 0 then (prf (postOf sts drw (nxF fx)) (nrF (nF sts drw (nxF fx) (badOf sts drw (bdF fb)))) (widM sts) (fs 2) (sg stt) 10000 1 (sg stt) 0).2.2 else rd) = u)) (fun (u : Nat × Nat) => [(qm, .inr (6, [.int (nI th), .int (nI ul), .ref xt, .int (nI pt), .ref xh, .ref xi, .ref xl, .ref xo, .ref xg, .ref xd, .int (zB ld), .ref xs, .int (nI stt), .int (nI sts), .int (nI drw), .ref xn, .ref xb, .ref xv, .int (nI u.1), .int (nI u.2)])), (xs, aI G 5 fs), (xn, aI G 512 fx), (xb, aZ G 512 fb)]) := by
  refine Met.ofW (cc := cM_set) (maxL := 2) (ret := (some .long)) (by decide) rfl ?_
  intro p e s m args below meth c s₁ B hml hv
  obtain ⟨hav, hsz, hP, hK, hD0, hE⟩ := hv
  have hx := B.exec
  have hb := B.bytes
  have hr := B.returns
  have htb : ∀ w ∈ TB, w.before args s = true := fun w h => atoms_spec (ws := Cond.code yM_set cM_set 2 (some .long) :: TB) B.pre w (List.mem_cons_of_mem _ h)
  have hown : s.vm.findClass "CircuitProverModel" = some m.cls := findClass_of_methodNamed B.named
  have hlocks := B.notSynchronized
  subst hsz
  have hD := hD0.self (sz := s.heap.size)
  clear hD0
  generalize hRm : (headSpec (Cond.code yM_set cM_set 2 (some .long) :: TB) { frames := 3, cells := 0, slots := 0, locals := 80 }).room = R
  have hRf : R.frames = 3 := by rw [← hRm]; rfl
  have hRl : R.locals = 80 := by rw [← hRm]; rfl
  have hRc : R.cells = 0 := by rw [← hRm]; rfl
  have hRs : R.slots = 0 := by rw [← hRm]; rfl
  clear hRm
  generalize hAe : va_A [(qm, .inr (6, [.int (nI th), .int (nI ul), .ref xt, .int (nI pt), .ref xh, .ref xi, .ref xl, .ref xo, .ref xg, .ref xd, .int (zB ld), .ref xs, .int (nI stt), .int (nI sts), .int (nI drw), .ref xn, .ref xb, .ref xv, .int (nI bd), .int (nI rd)])), (xs, aI G 5 fs), (xn, aI G 512 fx), (xb, aZ G 512 fb)] s.heap.size = A at hD hE ⊢
  have hA : ∀ q : Nat, s.heap.size ≤ q → A q := fun q h => by rw [← hAe]; exact Or.inr h
  clear hAe
  have hS : va_S A s.heap s.heap [] := va_S.rf
  have hl := lv_entry ([.ref qm, .int (nI k)]) (n := 2) (Nat.le_of_ble_eq_true rfl)
  have hent := lg_entry_eq m ([.ref qm, .int (nI k)]) 2
  rw [← hav] at hent
  rw [hent]
  clear hent hav
  generalize (lg_sl ([.ref qm, .int (nI k)]) ++ List.replicate (2 - (lg_sl ([.ref qm, .int (nI k)])).length) Slot.unset).toArray = ls at hl ⊢
  have hl : lv_has ls 2 [(0, .ref qm), (1, .int (nI k))] := hl
  generalize hQ : MQ below _ args s 0 0 _ = Q
  have hP : va_P (gD G) vC [(qm, .inr (6, [.int (nI th), .int (nI ul), .ref xt, .int (nI pt), .ref xh, .ref xi, .ref xl, .ref xo, .ref xg, .ref xd, .int (zB ld), .ref xs, .int (nI stt), .int (nI sts), .int (nI drw), .ref xn, .ref xb, .ref xv, .int (nI bd), .int (nI rd)])), (xs, aI G 5 fs), (xn, aI G 512 fx), (xb, aZ G 512 fb)] s.heap := hP
  obtain ⟨H, hH⟩ : ∃ H : Heap, H = s.heap := ⟨_, rfl⟩
  obtain ⟨locs, hlc⟩ : ∃ L : List Loc, L = [] := ⟨_, rfl⟩
  have hS : va_S A s.heap H locs := by rw [hH, hlc]; exact hS
  have hP : va_P (gD G) vC [(qm, .inr (6, [.int (nI th), .int (nI ul), .ref xt, .int (nI pt), .ref xh, .ref xi, .ref xl, .ref xo, .ref xg, .ref xd, .int (zB ld), .ref xs, .int (nI stt), .int (nI sts), .int (nI drw), .ref xn, .ref xb, .ref xv, .int (nI bd), .int (nI rd)])), (xs, aI G 5 fs), (xn, aI G 512 fx), (xb, aZ G 512 fb)] H := by rw [hH]; exact hP
  have hgo : W p l e R s m args below meth c H locs 0 0 Q (F0 m 0 ls []) := by
    clear hH hlc
    refine lv_iload_n hx hb dM_set_0 rfl (lv_at hl 1 rfl) ?_
    refine lv_if_ne (tgt := 11) hx hb dM_set_1 rfl (fun h1 => ?_) (fun h1 => ?_)
    · have h1 : ¬ k = 0 := fun z => h1 ((nI_eq (a := k) (b := 0) (by omega) (by omega)).mpr z)
      refine lv_iload_n hx hb dM_set_11 rfl (lv_at hl 1 rfl) ?_
      refine lv_iconst (v := nI 1) hx hb dM_set_12 (by decide) ?_
      refine lv_icmp_ne (tgt := 23) hx hb dM_set_13 rfl (fun h13 => ?_) (fun h13 => ?_)
      · have h13 : ¬ k = 1 := fun z => h13 ((nI_eq (a := k) (b := 1) (by omega) (by omega)).mpr z)
        refine lv_iload_n hx hb dM_set_23 rfl (lv_at hl 1 rfl) ?_
        refine lv_iconst (v := nI 2) hx hb dM_set_24 (by decide) ?_
        refine lv_icmp_ne (tgt := 35) hx hb dM_set_25 rfl (fun h25 => ?_) (fun h25 => ?_)
        · have h25 : ¬ k = 2 := fun z => h25 ((nI_eq (a := k) (b := 2) (by omega) (by omega)).mpr z)
          refine lv_aload_n hx hb dM_set_35 rfl (lv_at hl 0 rfl) ?_
          refine lv_bipush (v := nI 64) hx hb dM_set_36 (by decide) ?_
          refine k_l (ws2 := fun u => [(qm, .inr (6, [.int (nI th), .int (nI ul), .ref xt, .int (nI pt), .ref xh, .ref xi, .ref xl, .ref xo, .ref xg, .ref xd, .int (zB ld), .ref xs, .int (nI stt), .int (nI sts), .int (nI drw), .ref xn, .ref xb, .ref xv, .int (nI bd), .int (nI rd)])), (xs, aI G 5 fs), (xn, aI G 512 fx), (xb, aZ G 512 fb)]) (wr := [(xs, aI G 5 fs)]) (k_runV (n := 1) (As := [.int (nI 64)]) (rest := []) hx hb hml hown htb hP hD hK hS hA hE (k_M_near l G H.size qm xt xh xi xl xo xg xd xs xn xb xv th ul pt ld stt sts drw bd rd fx fb 64 (show sts ≤ 64 from by omega) (show 1 ≤ drw ∧ drw ≤ 8 from by omega) (show ∀ a b, a < sts → b < drw → fx (8 * a + b) < 64 from hn6) (show 1 ≤ 64 ∧ 64 ≤ 10001 from by omega)) b852 b854 s47 b7 b855 (by decide +kernel) rfl rfl ⟨by rw [hRf]; exact Nat.le_of_ble_eq_true rfl, by rw [hRl]; exact Nat.le_of_ble_eq_true rfl⟩ [0, 2, 3] rfl (by decide) 0 rfl rfl rfl rfl hl.1 rfl (Nat.le_of_ble_eq_true rfl) dM_set_38 ⟨Nat.zero_le _, Nat.zero_le _⟩) hP hD hS hA [0, 2, 3] [1] [1, 0, 2, 3] rfl rfl (by decide) (by decide) (fun u => rfl) (by decide) (fun r u H locs hw hP hD hS => ?_)
          obtain ⟨rfl, rfl⟩ := hw
          have hP : va_P (gD G) vC [(qm, .inr (6, [.int (nI th), .int (nI ul), .ref xt, .int (nI pt), .ref xh, .ref xi, .ref xl, .ref xo, .ref xg, .ref xd, .int (zB ld), .ref xs, .int (nI stt), .int (nI sts), .int (nI drw), .ref xn, .ref xb, .ref xv, .int (nI bd), .int (nI rd)])), (xs, aI G 5 fs), (xn, aI G 512 fx), (xb, aZ G 512 fb)] H := hP
          have hD : va_D A [(qm, .inr (6, [.int (nI th), .int (nI ul), .ref xt, .int (nI pt), .ref xh, .ref xi, .ref xl, .ref xo, .ref xg, .ref xd, .int (zB ld), .ref xs, .int (nI stt), .int (nI sts), .int (nI drw), .ref xn, .ref xb, .ref xv, .int (nI bd), .int (nI rd)])), (xs, aI G 5 fs), (xn, aI G 512 fx), (xb, aZ G 512 fb)] := hD
          -- end 0
          rw [← hQ]
          exact k_lret hx hb hr hlocks (u := (bd, rd)) (⟨by unfold sel4; rw [if_neg (by omega), if_neg (by omega), if_neg (by omega)], by rw [if_neg (by omega), if_neg (by omega)]⟩) hP hD hK hS dM_set_41
        · have h25 : k = 2 := (nI_eq (a := k) (b := 2) (by omega) (by omega)).mp h25
          refine lv_aload_n hx hb dM_set_28 rfl (lv_at hl 0 rfl) ?_
          refine k_l (ws2 := fun u => [(qm, .inr (6, [.int (nI th), .int (nI ul), .ref xt, .int (nI pt), .ref xh, .ref xi, .ref xl, .ref xo, .ref xg, .ref xd, .int (zB ld), .ref xs, .int (nI stt), .int (nI sts), .int (nI drw), .ref xn, .ref xb, .ref xv, .int (nI bd), .int (nI rd)])), (xs, aI G 5 fs), (xn, aI G 512 fx), (xb, aZ G 512 fb)]) (wr := [(xs, aI G 5 fs), (xn, aI G 512 fx)]) (k_runV (n := 0) (As := []) (rest := []) hx hb hml hown htb hP hD hK hS hA hE (k_M_badSet l G H.size qm xt xh xi xl xo xg xd xs xn xb xv th ul pt ld stt sts drw bd rd fb (show sts ≤ 64 from by omega) (show 1 ≤ drw ∧ drw ≤ 8 from by omega)) b824 b826 s43 b7 b827 (by decide +kernel) rfl rfl ⟨by rw [hRf]; exact Nat.le_of_ble_eq_true rfl, by rw [hRl]; exact Nat.le_of_ble_eq_true rfl⟩ [0, 3] rfl (by decide) 0 rfl rfl rfl rfl hl.1 rfl (Nat.le_of_ble_eq_true rfl) dM_set_29 ⟨Nat.zero_le _, Nat.zero_le _⟩) hP hD hS hA [0, 3] [1, 2] [2, 0, 1, 3] rfl rfl (by decide) (by decide) (fun u => rfl) (by decide) (fun r u H locs hw hP hD hS => ?_)
          obtain ⟨rfl, rfl⟩ := hw
          have hP : va_P (gD G) vC [(qm, .inr (6, [.int (nI th), .int (nI ul), .ref xt, .int (nI pt), .ref xh, .ref xi, .ref xl, .ref xo, .ref xg, .ref xd, .int (zB ld), .ref xs, .int (nI stt), .int (nI sts), .int (nI drw), .ref xn, .ref xb, .ref xv, .int (nI bd), .int (nI rd)])), (xs, aI G 5 fs), (xn, aI G 512 fx), (xb, aZ G 512 fb)] H := hP
          have hD : va_D A [(qm, .inr (6, [.int (nI th), .int (nI ul), .ref xt, .int (nI pt), .ref xh, .ref xi, .ref xl, .ref xo, .ref xg, .ref xd, .int (zB ld), .ref xs, .int (nI stt), .int (nI sts), .int (nI drw), .ref xn, .ref xb, .ref xv, .int (nI bd), .int (nI rd)])), (xs, aI G 5 fs), (xn, aI G 512 fx), (xb, aZ G 512 fb)] := hD
          refine lv_goto (tgt := 41) hx hb dM_set_32 rfl ?_
          -- end 1
          rw [← hQ]
          exact k_lret hx hb hr hlocks (u := (bd, rd)) (⟨by unfold sel4; rw [if_neg (by omega), if_neg (by omega), if_pos (by omega)], by rw [if_neg (by omega), if_neg (by omega)]⟩) hP hD hK hS dM_set_41
      · have h13 : k = 1 := (nI_eq (a := k) (b := 1) (by omega) (by omega)).mp h13
        refine lv_aload_n hx hb dM_set_16 rfl (lv_at hl 0 rfl) ?_
        refine k_l (ws2 := fun u => [(qm, .inr (6, [.int (nI th), .int (nI ul), .ref xt, .int (nI pt), .ref xh, .ref xi, .ref xl, .ref xo, .ref xg, .ref xd, .int (zB ld), .ref xs, .int (nI stt), .int (nI sts), .int (nI drw), .ref xn, .ref xb, .ref xv, .int (nI bd), .int (nI rd)])), (xs, aI G 5 fs), (xn, aI G 512 fx), (xb, aZ G 512 fb)]) (wr := [(xs, aI G 5 fs), (xb, aZ G 512 fb)]) (k_runV (n := 0) (As := []) (rest := []) hx hb hml hown htb hP hD hK hS hA hE (k_M_reached l G H.size qm xt xh xi xl xo xg xd xs xn xb xv th ul pt ld stt sts drw bd rd fx (show sts ≤ 64 from by omega) (show 1 ≤ drw ∧ drw ≤ 8 from by omega) (show stt < 64 from by omega)) b816 b818 s41 b7 b819 (by decide +kernel) rfl rfl ⟨by rw [hRf]; exact Nat.le_of_ble_eq_true rfl, by rw [hRl]; exact Nat.le_of_ble_eq_true rfl⟩ [0, 2] rfl (by decide) 0 rfl rfl rfl rfl hl.1 rfl (Nat.le_of_ble_eq_true rfl) dM_set_17 ⟨Nat.zero_le _, Nat.zero_le _⟩) hP hD hS hA [0, 2] [1, 3] [2, 0, 3, 1] rfl rfl (by decide) (by decide) (fun u => rfl) (by decide) (fun r u H locs hw hP hD hS => ?_)
        obtain ⟨rfl, rfl⟩ := hw
        have hP : va_P (gD G) vC [(qm, .inr (6, [.int (nI th), .int (nI ul), .ref xt, .int (nI pt), .ref xh, .ref xi, .ref xl, .ref xo, .ref xg, .ref xd, .int (zB ld), .ref xs, .int (nI stt), .int (nI sts), .int (nI drw), .ref xn, .ref xb, .ref xv, .int (nI bd), .int (nI rd)])), (xs, aI G 5 fs), (xn, aI G 512 fx), (xb, aZ G 512 fb)] H := hP
        have hD : va_D A [(qm, .inr (6, [.int (nI th), .int (nI ul), .ref xt, .int (nI pt), .ref xh, .ref xi, .ref xl, .ref xo, .ref xg, .ref xd, .int (zB ld), .ref xs, .int (nI stt), .int (nI sts), .int (nI drw), .ref xn, .ref xb, .ref xv, .int (nI bd), .int (nI rd)])), (xs, aI G 5 fs), (xn, aI G 512 fx), (xb, aZ G 512 fb)] := hD
        refine lv_goto (tgt := 41) hx hb dM_set_20 rfl ?_
        -- end 2
        rw [← hQ]
        exact k_lret hx hb hr hlocks (u := (bd, rd)) (⟨by unfold sel4; rw [if_neg (by omega), if_pos (by omega)], by rw [if_neg (by omega), if_neg (by omega)]⟩) hP hD hK hS dM_set_41
    · have h1 : k = 0 := (nI_eq (a := k) (b := 0) (by omega) (by omega)).mp h1
      refine lv_aload_n hx hb dM_set_4 rfl (lv_at hl 0 rfl) ?_
      refine k_l (ws2 := fun u => [(qm, .inr (6, [.int (nI th), .int (nI ul), .ref xt, .int (nI pt), .ref xh, .ref xi, .ref xl, .ref xo, .ref xg, .ref xd, .int (zB ld), .ref xs, .int (nI stt), .int (nI sts), .int (nI drw), .ref xn, .ref xb, .ref xv, .int (nI (u.1)), .int (nI (u.2))])), (xs, aI G 5 fs), (xn, aI G 512 fx), (xb, aZ G 512 fb)]) (wr := []) (k_runV (n := 0) (As := []) (rest := []) hx hb hml hown htb hP hD hK hS hA hE (k_M_prove l G H.size qm xt xh xi xl xo xg xd xs xn xb xv th ul pt ld stt sts drw bd rd fs fx fb (show sts ≤ 64 from by omega) (show 1 ≤ drw ∧ drw ≤ 8 from by omega) (show ∀ a b, a < sts → b < drw → fx (8 * a + b) < 64 from hn6) (show stt < 64 from by omega) (show fs 2 ≤ 6 from by omega)) b848 b850 s46 b7 b851 (by decide +kernel) rfl rfl ⟨by rw [hRf]; exact Nat.le_of_ble_eq_true rfl, by rw [hRl]; exact Nat.le_of_ble_eq_true rfl⟩ [0, 1, 2, 3] rfl (by decide) 0 rfl rfl rfl rfl hl.1 rfl (Nat.le_of_ble_eq_true rfl) dM_set_5 ⟨Nat.zero_le _, Nat.zero_le _⟩) hP hD hS hA [0, 1, 2, 3] [] [0, 1, 2, 3] rfl rfl (by decide) (by decide) (fun u => rfl) (by decide) (fun r u H locs hw hP hD hS => ?_)
      obtain ⟨rfl, rfl⟩ := hw
      have hP : va_P (gD G) vC [(qm, .inr (6, [.int (nI th), .int (nI ul), .ref xt, .int (nI pt), .ref xh, .ref xi, .ref xl, .ref xo, .ref xg, .ref xd, .int (zB ld), .ref xs, .int (nI stt), .int (nI sts), .int (nI drw), .ref xn, .ref xb, .ref xv, .int (nI ((prf (postOf sts drw (nxF fx)) (nrF (nF sts drw (nxF fx) (badOf sts drw (bdF fb)))) (widM sts) (fs 2) (sg stt) 10000 1 (sg stt) 0).1)), .int (nI ((prf (postOf sts drw (nxF fx)) (nrF (nF sts drw (nxF fx) (badOf sts drw (bdF fb)))) (widM sts) (fs 2) (sg stt) 10000 1 (sg stt) 0).2.2))])), (xs, aI G 5 fs), (xn, aI G 512 fx), (xb, aZ G 512 fb)] H := hP
      have hD : va_D A [(qm, .inr (6, [.int (nI th), .int (nI ul), .ref xt, .int (nI pt), .ref xh, .ref xi, .ref xl, .ref xo, .ref xg, .ref xd, .int (zB ld), .ref xs, .int (nI stt), .int (nI sts), .int (nI drw), .ref xn, .ref xb, .ref xv, .int (nI ((prf (postOf sts drw (nxF fx)) (nrF (nF sts drw (nxF fx) (badOf sts drw (bdF fb)))) (widM sts) (fs 2) (sg stt) 10000 1 (sg stt) 0).1)), .int (nI ((prf (postOf sts drw (nxF fx)) (nrF (nF sts drw (nxF fx) (badOf sts drw (bdF fb)))) (widM sts) (fs 2) (sg stt) 10000 1 (sg stt) 0).2.2))])), (xs, aI G 5 fs), (xn, aI G 512 fx), (xb, aZ G 512 fb)] := hD
      refine lv_goto (tgt := 41) hx hb dM_set_8 rfl ?_
      -- end 3
      rw [← hQ]
      exact k_lret hx hb hr hlocks (u := (((prf (postOf sts drw (nxF fx)) (nrF (nF sts drw (nxF fx) (badOf sts drw (bdF fb)))) (widM sts) (fs 2) (sg stt) 10000 1 (sg stt) 0).1), ((prf (postOf sts drw (nxF fx)) (nrF (nF sts drw (nxF fx) (badOf sts drw (bdF fb)))) (widM sts) (fs 2) (sg stt) 10000 1 (sg stt) 0).2.2))) (⟨by unfold sel4; rw [if_pos (by omega)], by rw [if_pos (by omega), if_pos (by omega)]⟩) hP hD hK hS dM_set_41
  rw [hH, hlc] at hgo
  exact hgo
set_option maxRecDepth 100000 in
set_option maxHeartbeats 4000000 in
theorem k_M_count (l : Launch) (G : GG) (sz : Nat) (qm : Nat) (xt : Nat) (xh : Nat) (xi : Nat) (xl : Nat) (xo : Nat) (xg : Nat) (xd : Nat) (xs : Nat) (xn : Nat) (xb : Nat) (xv : Nat) (th : Nat) (ul : Nat) (pt : Nat) (ld : Bool) (stt : Nat) (sts : Nat) (drw : Nat) (bd : Nat) (rd : Nat) (fs : Nat → Nat) (fx : Nat → Nat) (fb : Nat → Bool) (x : Int32) (hz : sts ≤ 64) (hdw : 1 ≤ drw ∧ drw ≤ 8) (hn6 : ∀ a b, a < sts → b < drw → fx (8 * a + b) < 64) (hst : stt < 64) (hla : fs 2 ≤ 6) : Ki l yM_count cM_count 6 .int 4 101 G [.ref qm, .int x] [(qm, .inr (6, [.int (nI th), .int (nI ul), .ref xt, .int (nI pt), .ref xh, .ref xi, .ref xl, .ref xo, .ref xg, .ref xd, .int (zB ld), .ref xs, .int (nI stt), .int (nI sts), .int (nI drw), .ref xn, .ref xb, .ref xv, .int (nI bd), .int (nI rd)])), (xs, aI G 5 fs), (xn, aI G 512 fx), (xb, aZ G 512 fb)] sz (fun (r : Int32) (u : Nat × Nat × Nat) => (ld = false ∧ nI 0 = r ∧ (1, bd, rd) = u) ∨ (ld = true ∧ (∀ j, j < 4 → x = nI j → (j = 0 ∧ ¬ (gr (postOf sts drw (nxF fx)) 64 (sg stt) &&& (badOf sts drw (bdF fb))) = 0)) ∧ (-1) = r ∧ (0, bd, rd) = u) ∨ (∃ (j : Nat), ld = true ∧ (j < 4 ∧ x = nI j) ∧ (j = 0 → (gr (postOf sts drw (nxF fx)) 64 (sg stt) &&& (badOf sts drw (bdF fb))) = 0) ∧ nI (cn (sel4 j (prf (postOf sts drw (nxF fx)) (nrF (nF sts drw (nxF fx) (badOf sts drw (bdF fb)))) (widM sts) (fs 2) (sg stt) 10000 1 (sg stt) 0).2.1 (gr (postOf sts drw (nxF fx)) 64 (sg stt)) (badOf sts drw (bdF fb)) ((nF sts drw (nxF fx) (badOf sts drw (bdF fb))) 63)) sts) = r ∧ (0, if j = 0 then (prf (postOf sts drw (nxF fx)) (nrF (nF sts drw (nxF fx) (badOf sts drw (bdF fb)))) (widM sts) (fs 2) (sg stt) 10000 1 (sg stt) 0).1 else bd, if j = 0 then (prf (postOf sts drw (nxF fx)) (nrF (nF sts drw (nxF fx) (badOf sts drw (bdF fb)))) (widM sts) (fs 2) (sg stt) 10000 1 (sg stt) 0).2.2 else rd) = u)) (fun (u : Nat × Nat × Nat) => [(qm, .inr (6, [.int (nI u.1), .int (nI ul), .ref xt, .int (nI pt), .ref xh, .ref xi, .ref xl, .ref xo, .ref xg, .ref xd, .int (zB ld), .ref xs, .int (nI stt), .int (nI sts), .int (nI drw), .ref xn, .ref xb, .ref xv, .int (nI u.2.1), .int (nI u.2.2)])), (xs, aI G 5 fs), (xn, aI G 512 fx), (xb, aZ G 512 fb)]) := by
  refine Met.ofW (cc := cM_count) (maxL := 6) (ret := (some .int)) (by decide) rfl ?_
  intro p e s m args below meth c s₁ B hml hv
  obtain ⟨hav, hsz, hP, hK, hD0, hE⟩ := hv
  have hx := B.exec
  have hb := B.bytes
  have hr := B.returns
  have htb : ∀ w ∈ TB, w.before args s = true := fun w h => atoms_spec (ws := Cond.code yM_count cM_count 6 (some .int) :: TB) B.pre w (List.mem_cons_of_mem _ h)
  have hown : s.vm.findClass "CircuitProverModel" = some m.cls := findClass_of_methodNamed B.named
  have hlocks := B.notSynchronized
  subst hsz
  have hD := hD0.self (sz := s.heap.size)
  clear hD0
  generalize hRm : (headSpec (Cond.code yM_count cM_count 6 (some .int) :: TB) { frames := 4, cells := 0, slots := 0, locals := 101 }).room = R
  have hRf : R.frames = 4 := by rw [← hRm]; rfl
  have hRl : R.locals = 101 := by rw [← hRm]; rfl
  have hRc : R.cells = 0 := by rw [← hRm]; rfl
  have hRs : R.slots = 0 := by rw [← hRm]; rfl
  clear hRm
  generalize hAe : va_A [(qm, .inr (6, [.int (nI th), .int (nI ul), .ref xt, .int (nI pt), .ref xh, .ref xi, .ref xl, .ref xo, .ref xg, .ref xd, .int (zB ld), .ref xs, .int (nI stt), .int (nI sts), .int (nI drw), .ref xn, .ref xb, .ref xv, .int (nI bd), .int (nI rd)])), (xs, aI G 5 fs), (xn, aI G 512 fx), (xb, aZ G 512 fb)] s.heap.size = A at hD hE ⊢
  have hA : ∀ q : Nat, s.heap.size ≤ q → A q := fun q h => by rw [← hAe]; exact Or.inr h
  clear hAe
  have hS : va_S A s.heap s.heap [] := va_S.rf
  have hl := lv_entry ([.ref qm, .int x]) (n := 6) (Nat.le_of_ble_eq_true rfl)
  have hent := lg_entry_eq m ([.ref qm, .int x]) 6
  rw [← hav] at hent
  rw [hent]
  clear hent hav
  generalize (lg_sl ([.ref qm, .int x]) ++ List.replicate (6 - (lg_sl ([.ref qm, .int x])).length) Slot.unset).toArray = ls at hl ⊢
  have hl : lv_has ls 6 [(0, .ref qm), (1, .int x)] := hl
  generalize hQ : MQ below _ args s 0 0 _ = Q
  have hP : va_P (gD G) vC [(qm, .inr (6, [.int (nI th), .int (nI ul), .ref xt, .int (nI pt), .ref xh, .ref xi, .ref xl, .ref xo, .ref xg, .ref xd, .int (zB ld), .ref xs, .int (nI stt), .int (nI sts), .int (nI drw), .ref xn, .ref xb, .ref xv, .int (nI bd), .int (nI rd)])), (xs, aI G 5 fs), (xn, aI G 512 fx), (xb, aZ G 512 fb)] s.heap := hP
  obtain ⟨H, hH⟩ : ∃ H : Heap, H = s.heap := ⟨_, rfl⟩
  obtain ⟨locs, hlc⟩ : ∃ L : List Loc, L = [] := ⟨_, rfl⟩
  have hS : va_S A s.heap H locs := by rw [hH, hlc]; exact hS
  have hP : va_P (gD G) vC [(qm, .inr (6, [.int (nI th), .int (nI ul), .ref xt, .int (nI pt), .ref xh, .ref xi, .ref xl, .ref xo, .ref xg, .ref xd, .int (zB ld), .ref xs, .int (nI stt), .int (nI sts), .int (nI drw), .ref xn, .ref xb, .ref xv, .int (nI bd), .int (nI rd)])), (xs, aI G 5 fs), (xn, aI G 512 fx), (xb, aZ G 512 fb)] H := by rw [hH]; exact hP
  have hgo : W p l e R s m args below meth c H locs 0 0 Q (F0 m 0 ls []) := by
    clear hH hlc
    refine lv_aload_n hx hb dM_count_0 rfl (lv_at hl 0 rfl) ?_
    refine lv_aload_n hx hb dM_count_1 rfl (lv_at hl 0 rfl) ?_
    refine va_get (D := gD G) (ci := 6) (v := .int (zB ld)) (C := "CircuitProverModel") (T := TM) (N := 20) hx hb htb inM hown hK hP 0 rfl rfl 10 (by decide) (htb _ b681) (fun _ h9 => h9) rfl dM_count_2 ?_
    refine lv_if_eq (tgt := 12) hx hb dM_count_5 rfl (fun h5 => ?_) (fun h5 => ?_)
    · have h5 : ld = false := zB_f h5
      refine lv_iconst (v := nI 1) hx hb dM_count_12 (by decide) ?_
      refine va_put (D := gD G) (ci := 6) (v := .int (nI 1)) (ty := tyM 0) (C := "CircuitProverModel") (T := TM) (N := 20) hx hb htb inM tyM tyM_ok nmM hown hK hP hD hS 0 rfl rfl 0 (by decide) (htb _ b671) (fun _ h9 => h9) rfl (tyM_ok 0 (by decide)) rfl rfl (Nat.le_of_ble_eq_true rfl) dM_count_13 (fun H locs hP hD hS => ?_)
      have hP : va_P (gD G) vC [(qm, .inr (6, [.int (nI 1), .int (nI ul), .ref xt, .int (nI pt), .ref xh, .ref xi, .ref xl, .ref xo, .ref xg, .ref xd, .int (zB ld), .ref xs, .int (nI stt), .int (nI sts), .int (nI drw), .ref xn, .ref xb, .ref xv, .int (nI bd), .int (nI rd)])), (xs, aI G 5 fs), (xn, aI G 512 fx), (xb, aZ G 512 fb)] H := hP
      have hD : va_D A [(qm, .inr (6, [.int (nI 1), .int (nI ul), .ref xt, .int (nI pt), .ref xh, .ref xi, .ref xl, .ref xo, .ref xg, .ref xd, .int (zB ld), .ref xs, .int (nI stt), .int (nI sts), .int (nI drw), .ref xn, .ref xb, .ref xv, .int (nI bd), .int (nI rd)])), (xs, aI G 5 fs), (xn, aI G 512 fx), (xb, aZ G 512 fb)] := hD
      refine lv_aload_n hx hb dM_count_16 rfl (lv_at hl 0 rfl) ?_
      refine va_get (D := gD G) (ci := 6) (v := .int (zB ld)) (C := "CircuitProverModel") (T := TM) (N := 20) hx hb htb inM hown hK hP 0 rfl rfl 10 (by decide) (htb _ b681) (fun _ h9 => h9) rfl dM_count_17 ?_
      refine lv_if_eq (tgt := 31) hx hb dM_count_20 rfl (fun _ => ?_) (fun h20 => absurd (zB_t h20) (by rw [h5]; decide))
      refine lv_aload_n hx hb dM_count_31 rfl (lv_at hl 0 rfl) ?_
      refine va_get (D := gD G) (ci := 6) (v := .int (zB ld)) (C := "CircuitProverModel") (T := TM) (N := 20) hx hb htb inM hown hK hP 0 rfl rfl 10 (by decide) (htb _ b681) (fun _ h9 => h9) rfl dM_count_32 ?_
      refine lv_if_eq (tgt := 42) hx hb dM_count_35 rfl (fun _ => ?_) (fun h35 => absurd (zB_t h35) (by rw [h5]; decide))
      refine lv_iconst (v := nI 0) hx hb dM_count_42 (by decide) ?_
      -- end 0
      rw [← hQ]
      exact k_iret hx hb hr hlocks rfl (u := (1, bd, rd)) (Or.inl ⟨h5, rfl, rfl⟩) hP hD hK hS dM_count_43
    · have h5 : ld = true := zB_t h5
      refine lv_iconst (v := nI 0) hx hb dM_count_8 (by decide) ?_
      refine lv_goto (tgt := 13) hx hb dM_count_9 rfl ?_
      refine va_put (D := gD G) (ci := 6) (v := .int (nI 0)) (ty := tyM 0) (C := "CircuitProverModel") (T := TM) (N := 20) hx hb htb inM tyM tyM_ok nmM hown hK hP hD hS 0 rfl rfl 0 (by decide) (htb _ b671) (fun _ h9 => h9) rfl (tyM_ok 0 (by decide)) rfl rfl (Nat.le_of_ble_eq_true rfl) dM_count_13 (fun H locs hP hD hS => ?_)
      have hP : va_P (gD G) vC [(qm, .inr (6, [.int (nI 0), .int (nI ul), .ref xt, .int (nI pt), .ref xh, .ref xi, .ref xl, .ref xo, .ref xg, .ref xd, .int (zB ld), .ref xs, .int (nI stt), .int (nI sts), .int (nI drw), .ref xn, .ref xb, .ref xv, .int (nI bd), .int (nI rd)])), (xs, aI G 5 fs), (xn, aI G 512 fx), (xb, aZ G 512 fb)] H := hP
      have hD : va_D A [(qm, .inr (6, [.int (nI 0), .int (nI ul), .ref xt, .int (nI pt), .ref xh, .ref xi, .ref xl, .ref xo, .ref xg, .ref xd, .int (zB ld), .ref xs, .int (nI stt), .int (nI sts), .int (nI drw), .ref xn, .ref xb, .ref xv, .int (nI bd), .int (nI rd)])), (xs, aI G 5 fs), (xn, aI G 512 fx), (xb, aZ G 512 fb)] := hD
      refine lv_aload_n hx hb dM_count_16 rfl (lv_at hl 0 rfl) ?_
      refine va_get (D := gD G) (ci := 6) (v := .int (zB ld)) (C := "CircuitProverModel") (T := TM) (N := 20) hx hb htb inM hown hK hP 0 rfl rfl 10 (by decide) (htb _ b681) (fun _ h9 => h9) rfl dM_count_17 ?_
      refine lv_if_eq (tgt := 31) hx hb dM_count_20 rfl (fun h20 => absurd (zB_f h20) (by rw [h5]; decide)) (fun _ => ?_)
      refine lv_aload_n hx hb dM_count_23 rfl (lv_at hl 0 rfl) ?_
      refine lv_iload_n hx hb dM_count_24 rfl (lv_at hl 1 rfl) ?_
      refine k_i (ws2 := fun u => [(qm, .inr (6, [.int (nI 0), .int (nI ul), .ref xt, .int (nI pt), .ref xh, .ref xi, .ref xl, .ref xo, .ref xg, .ref xd, .int (zB ld), .ref xs, .int (nI stt), .int (nI sts), .int (nI drw), .ref xn, .ref xb, .ref xv, .int (nI bd), .int (nI rd)])), (xs, aI G 5 fs), (xn, aI G 512 fx), (xb, aZ G 512 fb)]) (wr := [(xs, aI G 5 fs)]) (k_runV (n := 1) (As := [.int x]) (rest := []) hx hb hml hown htb hP hD hK hS hA hE (k_M_isSet l G H.size qm xt xh xi xl xo xg xd xs xn xb xv 0 ul pt ld stt sts drw bd rd fx fb x (show sts ≤ 64 from by omega) (show 1 ≤ drw ∧ drw ≤ 8 from by omega) (show stt < 64 from by omega)) b873 b875 s49 b7 b876 (by decide +kernel) rfl rfl ⟨by rw [hRf]; exact Nat.le_of_ble_eq_true rfl, by rw [hRl]; exact Nat.le_of_ble_eq_true rfl⟩ [0, 2, 3] rfl (by decide) 0 rfl rfl rfl rfl hl.1 rfl (Nat.le_of_ble_eq_true rfl) dM_count_25 ⟨Nat.zero_le _, Nat.zero_le _⟩) hP hD hS hA [0, 2, 3] [1] [1, 0, 2, 3] rfl rfl (by decide) (by decide) (fun u => rfl) (by decide) (fun r u H locs hw hP hD hS => ?_)
      rcases hw with ⟨j25, hc25_e, hc25_s, rfl, rfl⟩ | ⟨hc25_e, rfl, rfl⟩
      · skip
        have hP : va_P (gD G) vC [(qm, .inr (6, [.int (nI 0), .int (nI ul), .ref xt, .int (nI pt), .ref xh, .ref xi, .ref xl, .ref xo, .ref xg, .ref xd, .int (zB ld), .ref xs, .int (nI stt), .int (nI sts), .int (nI drw), .ref xn, .ref xb, .ref xv, .int (nI bd), .int (nI rd)])), (xs, aI G 5 fs), (xn, aI G 512 fx), (xb, aZ G 512 fb)] H := hP
        have hD : va_D A [(qm, .inr (6, [.int (nI 0), .int (nI ul), .ref xt, .int (nI pt), .ref xh, .ref xi, .ref xl, .ref xo, .ref xg, .ref xd, .int (zB ld), .ref xs, .int (nI stt), .int (nI sts), .int (nI drw), .ref xn, .ref xb, .ref xv, .int (nI bd), .int (nI rd)])), (xs, aI G 5 fs), (xn, aI G 512 fx), (xb, aZ G 512 fb)] := hD
        obtain ⟨hj4, rfl⟩ := hc25_e
        refine lv_if_ne (tgt := 44) hx hb dM_count_28 rfl (fun _ => ?_) (fun h28 => (by revert h28; first | decide | exact fun z => absurd z (by decide) | exact fun z => z.elim (by decide)))
        refine lv_aload_n hx hb dM_count_44 rfl (lv_at hl 0 rfl) ?_
        refine lv_iload_n hx hb dM_count_45 rfl (lv_at hl 1 rfl) ?_
        refine k_l (ws2 := fun u => [(qm, .inr (6, [.int (nI 0), .int (nI ul), .ref xt, .int (nI pt), .ref xh, .ref xi, .ref xl, .ref xo, .ref xg, .ref xd, .int (zB ld), .ref xs, .int (nI stt), .int (nI sts), .int (nI drw), .ref xn, .ref xb, .ref xv, .int (nI (u.1)), .int (nI (u.2))])), (xs, aI G 5 fs), (xn, aI G 512 fx), (xb, aZ G 512 fb)]) (wr := []) (k_runV (n := 1) (As := [.int (nI j25)]) (rest := []) hx hb hml hown htb hP hD hK hS hA hE (k_M_set l G H.size qm xt xh xi xl xo xg xd xs xn xb xv 0 ul pt ld stt sts drw bd rd fs fx fb j25 (show sts ≤ 64 from by omega) (show 1 ≤ drw ∧ drw ≤ 8 from by omega) (show ∀ a b, a < sts → b < drw → fx (8 * a + b) < 64 from hn6) (show stt < 64 from by omega) (show fs 2 ≤ 6 from by omega) (show j25 < 4 from by omega)) b877 b879 s50 b7 b880 (by decide +kernel) rfl rfl ⟨by rw [hRf]; exact Nat.le_of_ble_eq_true rfl, by rw [hRl]; exact Nat.le_of_ble_eq_true rfl⟩ [0, 1, 2, 3] rfl (by decide) 0 rfl rfl rfl rfl hl.1 rfl (Nat.le_of_ble_eq_true rfl) dM_count_46 ⟨Nat.zero_le _, Nat.zero_le _⟩) hP hD hS hA [0, 1, 2, 3] [] [0, 1, 2, 3] rfl rfl (by decide) (by decide) (fun u => rfl) (by decide) (fun r u H locs hw hP hD hS => ?_)
        obtain ⟨rfl, rfl⟩ := hw
        have hP : va_P (gD G) vC [(qm, .inr (6, [.int (nI 0), .int (nI ul), .ref xt, .int (nI pt), .ref xh, .ref xi, .ref xl, .ref xo, .ref xg, .ref xd, .int (zB ld), .ref xs, .int (nI stt), .int (nI sts), .int (nI drw), .ref xn, .ref xb, .ref xv, .int (nI (if j25 = 0 then (prf (postOf sts drw (nxF fx)) (nrF (nF sts drw (nxF fx) (badOf sts drw (bdF fb)))) (widM sts) (fs 2) (sg stt) 10000 1 (sg stt) 0).1 else bd)), .int (nI (if j25 = 0 then (prf (postOf sts drw (nxF fx)) (nrF (nF sts drw (nxF fx) (badOf sts drw (bdF fb)))) (widM sts) (fs 2) (sg stt) 10000 1 (sg stt) 0).2.2 else rd))])), (xs, aI G 5 fs), (xn, aI G 512 fx), (xb, aZ G 512 fb)] H := hP
        have hD : va_D A [(qm, .inr (6, [.int (nI 0), .int (nI ul), .ref xt, .int (nI pt), .ref xh, .ref xi, .ref xl, .ref xo, .ref xg, .ref xd, .int (zB ld), .ref xs, .int (nI stt), .int (nI sts), .int (nI drw), .ref xn, .ref xb, .ref xv, .int (nI (if j25 = 0 then (prf (postOf sts drw (nxF fx)) (nrF (nF sts drw (nxF fx) (badOf sts drw (bdF fb)))) (widM sts) (fs 2) (sg stt) 10000 1 (sg stt) 0).1 else bd)), .int (nI (if j25 = 0 then (prf (postOf sts drw (nxF fx)) (nrF (nF sts drw (nxF fx) (badOf sts drw (bdF fb)))) (widM sts) (fs 2) (sg stt) 10000 1 (sg stt) 0).2.2 else rd))])), (xs, aI G 5 fs), (xn, aI G 512 fx), (xb, aZ G 512 fb)] := hD
        refine lv_lstore_n (lv' := [(2, .long (sel4 j25 (prf (postOf sts drw (nxF fx)) (nrF (nF sts drw (nxF fx) (badOf sts drw (bdF fb)))) (widM sts) (fs 2) (sg stt) 10000 1 (sg stt) 0).2.1 (gr (postOf sts drw (nxF fx)) 64 (sg stt)) (badOf sts drw (bdF fb)) ((nF sts drw (nxF fx) (badOf sts drw (bdF fb))) 63))), (0, .ref qm), (1, .int (nI j25))]) hx hb dM_count_49 rfl hl (by decide) rfl (fun ls hl => ?_)
        refine lv_iconst (v := nI 0) hx hb dM_count_50 (by decide) ?_
        refine lv_istore (lv' := [(4, .int (nI 0)), (2, .long (sel4 j25 (prf (postOf sts drw (nxF fx)) (nrF (nF sts drw (nxF fx) (badOf sts drw (bdF fb)))) (widM sts) (fs 2) (sg stt) 10000 1 (sg stt) 0).2.1 (gr (postOf sts drw (nxF fx)) 64 (sg stt)) (badOf sts drw (bdF fb)) ((nF sts drw (nxF fx) (badOf sts drw (bdF fb))) 63))), (0, .ref qm), (1, .int (nI j25))]) hx hb dM_count_51 hl (by decide) rfl (fun ls hl => ?_)
        refine lv_iconst (v := nI 0) hx hb dM_count_53 (by decide) ?_
        refine lv_istore (lv' := [(5, .int (nI 0)), (4, .int (nI 0)), (2, .long (sel4 j25 (prf (postOf sts drw (nxF fx)) (nrF (nF sts drw (nxF fx) (badOf sts drw (bdF fb)))) (widM sts) (fs 2) (sg stt) 10000 1 (sg stt) 0).2.1 (gr (postOf sts drw (nxF fx)) 64 (sg stt)) (badOf sts drw (bdF fb)) ((nF sts drw (nxF fx) (badOf sts drw (bdF fb))) 63))), (0, .ref qm), (1, .int (nI j25))]) hx hb dM_count_54 hl (by decide) rfl (fun ls hl => ?_)
        have loop56 : ∀ (n : Nat) (c9 : Nat) (i : Nat) (H : Heap) (locs : List Loc) (ls : Array Slot), sts - i < n → (i ≤ sts) → (c9 = cn (sel4 j25 (prf (postOf sts drw (nxF fx)) (nrF (nF sts drw (nxF fx) (badOf sts drw (bdF fb)))) (widM sts) (fs 2) (sg stt) 10000 1 (sg stt) 0).2.1 (gr (postOf sts drw (nxF fx)) 64 (sg stt)) (badOf sts drw (bdF fb)) ((nF sts drw (nxF fx) (badOf sts drw (bdF fb))) 63)) i) → va_P (gD G) vC [(qm, .inr (6, [.int (nI 0), .int (nI ul), .ref xt, .int (nI pt), .ref xh, .ref xi, .ref xl, .ref xo, .ref xg, .ref xd, .int (zB ld), .ref xs, .int (nI stt), .int (nI sts), .int (nI drw), .ref xn, .ref xb, .ref xv, .int (nI (if j25 = 0 then (prf (postOf sts drw (nxF fx)) (nrF (nF sts drw (nxF fx) (badOf sts drw (bdF fb)))) (widM sts) (fs 2) (sg stt) 10000 1 (sg stt) 0).1 else bd)), .int (nI (if j25 = 0 then (prf (postOf sts drw (nxF fx)) (nrF (nF sts drw (nxF fx) (badOf sts drw (bdF fb)))) (widM sts) (fs 2) (sg stt) 10000 1 (sg stt) 0).2.2 else rd))])), (xs, aI G 5 fs), (xn, aI G 512 fx), (xb, aZ G 512 fb)] H → va_D A [(qm, .inr (6, [.int (nI 0), .int (nI ul), .ref xt, .int (nI pt), .ref xh, .ref xi, .ref xl, .ref xo, .ref xg, .ref xd, .int (zB ld), .ref xs, .int (nI stt), .int (nI sts), .int (nI drw), .ref xn, .ref xb, .ref xv, .int (nI (if j25 = 0 then (prf (postOf sts drw (nxF fx)) (nrF (nF sts drw (nxF fx) (badOf sts drw (bdF fb)))) (widM sts) (fs 2) (sg stt) 10000 1 (sg stt) 0).1 else bd)), .int (nI (if j25 = 0 then (prf (postOf sts drw (nxF fx)) (nrF (nF sts drw (nxF fx) (badOf sts drw (bdF fb)))) (widM sts) (fs 2) (sg stt) 10000 1 (sg stt) 0).2.2 else rd))])), (xs, aI G 5 fs), (xn, aI G 512 fx), (xb, aZ G 512 fb)] → va_S A s.heap H locs → lv_has ls 6 [(0, .ref qm), (1, .int (nI j25)), (2, .long (sel4 j25 (prf (postOf sts drw (nxF fx)) (nrF (nF sts drw (nxF fx) (badOf sts drw (bdF fb)))) (widM sts) (fs 2) (sg stt) 10000 1 (sg stt) 0).2.1 (gr (postOf sts drw (nxF fx)) 64 (sg stt)) (badOf sts drw (bdF fb)) ((nF sts drw (nxF fx) (badOf sts drw (bdF fb))) 63))), (4, .int (nI c9)), (5, .int (nI i))] → W p l e R s m args below meth c H locs 0 0 Q (F0 m 56 ls []) := by
          intro n
          induction n with
          | zero => intro c9 i H locs ls hmu; omega
          | succ n ih =>
            intro c9 i H locs ls hmu hi hc hP hD hS hl
            have ih56 := ih
            clear ih
            refine lv_iload hx hb dM_count_56 (lv_at hl 4 rfl) ?_
            refine lv_aload_n hx hb dM_count_58 rfl (lv_at hl 0 rfl) ?_
            refine va_get (D := gD G) (ci := 6) (v := .int (nI sts)) (C := "CircuitProverModel") (T := TM) (N := 20) hx hb htb inM hown hK hP 0 rfl rfl 13 (by decide) (htb _ b684) (fun _ h9 => h9) rfl dM_count_59 ?_
            refine lv_icmp_ge (tgt := 83) hx hb dM_count_62 rfl (fun h62 => ?_) (fun h62 => ?_)
            · have h62 : sts ≤ i := (nI_leI (a := sts) (b := i) (by omega) (by omega)).mp h62
              refine lv_iload hx hb dM_count_83 (lv_at hl 3 rfl) ?_
              -- end 1
              rw [← hQ]
              exact k_iret hx hb hr hlocks rfl (u := (0, (if j25 = 0 then (prf (postOf sts drw (nxF fx)) (nrF (nF sts drw (nxF fx) (badOf sts drw (bdF fb)))) (widM sts) (fs 2) (sg stt) 10000 1 (sg stt) 0).1 else bd), (if j25 = 0 then (prf (postOf sts drw (nxF fx)) (nrF (nF sts drw (nxF fx) (badOf sts drw (bdF fb)))) (widM sts) (fs 2) (sg stt) 10000 1 (sg stt) 0).2.2 else rd))) (Or.inr (Or.inr ⟨j25, h5, ⟨hj4, rfl⟩, hc25_s, by rw [hc, show i = sts by omega], rfl⟩)) hP hD hK hS dM_count_85
            · have h62 : i < sts := Nat.lt_of_not_le (fun z => h62 ((nI_leI (a := sts) (b := i) (by omega) (by omega)).mpr z))
              refine lv_iload hx hb dM_count_65 (lv_at hl 3 rfl) ?_
              refine lv_lload_n hx hb dM_count_67 rfl (lv_at hl 2 rfl) ?_
              refine lv_iload hx hb dM_count_68 (lv_at hl 4 rfl) ?_
              refine lv_lshr (v := sr (sel4 j25 (prf (postOf sts drw (nxF fx)) (nrF (nF sts drw (nxF fx) (badOf sts drw (bdF fb)))) (widM sts) (fs 2) (sg stt) 10000 1 (sg stt) 0).2.1 (gr (postOf sts drw (nxF fx)) 64 (sg stt)) (badOf sts drw (bdF fb)) ((nF sts drw (nxF fx) (badOf sts drw (bdF fb))) 63)) i) hx hb dM_count_70 rfl ?_
              refine lv_l2i (v := Int64.toInt32 (sr (sel4 j25 (prf (postOf sts drw (nxF fx)) (nrF (nF sts drw (nxF fx) (badOf sts drw (bdF fb)))) (widM sts) (fs 2) (sg stt) 10000 1 (sg stt) 0).2.1 (gr (postOf sts drw (nxF fx)) 64 (sg stt)) (badOf sts drw (bdF fb)) ((nF sts drw (nxF fx) (badOf sts drw (bdF fb))) 63)) i)) hx hb dM_count_71 rfl ?_
              refine lv_iconst (v := nI 1) hx hb dM_count_72 (by decide) ?_
              refine lv_iand hx hb dM_count_73 ?_
              refine k_toi (y := nI ((Int64.toInt32 (sr (sel4 j25 (prf (postOf sts drw (nxF fx)) (nrF (nF sts drw (nxF fx) (badOf sts drw (bdF fb)))) (widM sts) (fs 2) (sg stt) 10000 1 (sg stt) 0).2.1 (gr (postOf sts drw (nxF fx)) 64 (sg stt)) (badOf sts drw (bdF fb)) ((nF sts drw (nxF fx) (badOf sts drw (bdF fb))) 63)) i)).toBitVec.toNat % 2)) (pk_and _ 1 (by decide)) ?_
              refine k_toi (y := nI (if lb (sel4 j25 (prf (postOf sts drw (nxF fx)) (nrF (nF sts drw (nxF fx) (badOf sts drw (bdF fb)))) (widM sts) (fs 2) (sg stt) 10000 1 (sg stt) 0).2.1 (gr (postOf sts drw (nxF fx)) 64 (sg stt)) (badOf sts drw (bdF fb)) ((nF sts drw (nxF fx) (badOf sts drw (bdF fb))) 63)) i = true then 1 else 0)) (by rw [b0_sr _ (by omega)]) ?_
              refine lv_iadd hx hb dM_count_74 ?_
              refine k_toi (y := nI (c9 + (if lb (sel4 j25 (prf (postOf sts drw (nxF fx)) (nrF (nF sts drw (nxF fx) (badOf sts drw (bdF fb)))) (widM sts) (fs 2) (sg stt) 10000 1 (sg stt) 0).2.1 (gr (postOf sts drw (nxF fx)) 64 (sg stt)) (badOf sts drw (bdF fb)) ((nF sts drw (nxF fx) (badOf sts drw (bdF fb))) 63)) i = true then 1 else 0))) (nI_add _ _) ?_
              refine lv_istore (lv' := [(4, .int (nI (c9 + (if lb (sel4 j25 (prf (postOf sts drw (nxF fx)) (nrF (nF sts drw (nxF fx) (badOf sts drw (bdF fb)))) (widM sts) (fs 2) (sg stt) 10000 1 (sg stt) 0).2.1 (gr (postOf sts drw (nxF fx)) 64 (sg stt)) (badOf sts drw (bdF fb)) ((nF sts drw (nxF fx) (badOf sts drw (bdF fb))) 63)) i = true then 1 else 0)))), (0, .ref qm), (1, .int (nI j25)), (2, .long (sel4 j25 (prf (postOf sts drw (nxF fx)) (nrF (nF sts drw (nxF fx) (badOf sts drw (bdF fb)))) (widM sts) (fs 2) (sg stt) 10000 1 (sg stt) 0).2.1 (gr (postOf sts drw (nxF fx)) 64 (sg stt)) (badOf sts drw (bdF fb)) ((nF sts drw (nxF fx) (badOf sts drw (bdF fb))) 63))), (5, .int (nI i))]) hx hb dM_count_75 hl (by decide) rfl (fun ls hl => ?_)
              refine lv_iinc (v := nI (i + 1)) (lv' := [(5, .int (nI (i + 1))), (4, .int (nI (c9 + (if lb (sel4 j25 (prf (postOf sts drw (nxF fx)) (nrF (nF sts drw (nxF fx) (badOf sts drw (bdF fb)))) (widM sts) (fs 2) (sg stt) 10000 1 (sg stt) 0).2.1 (gr (postOf sts drw (nxF fx)) 64 (sg stt)) (badOf sts drw (bdF fb)) ((nF sts drw (nxF fx) (badOf sts drw (bdF fb))) 63)) i = true then 1 else 0)))), (0, .ref qm), (1, .int (nI j25)), (2, .long (sel4 j25 (prf (postOf sts drw (nxF fx)) (nrF (nF sts drw (nxF fx) (badOf sts drw (bdF fb)))) (widM sts) (fs 2) (sg stt) 10000 1 (sg stt) 0).2.1 (gr (postOf sts drw (nxF fx)) 64 (sg stt)) (badOf sts drw (bdF fb)) ((nF sts drw (nxF fx) (badOf sts drw (bdF fb))) 63)))]) hx hb dM_count_77 hl (k := 4) rfl (nI_add _ 1) (by decide) rfl (fun ls hl => ?_)
              refine lv_goto (tgt := 56) hx hb dM_count_80 rfl ?_
              have hl : lv_has ls 6 [(0, .ref qm), (1, .int (nI j25)), (2, .long (sel4 j25 (prf (postOf sts drw (nxF fx)) (nrF (nF sts drw (nxF fx) (badOf sts drw (bdF fb)))) (widM sts) (fs 2) (sg stt) 10000 1 (sg stt) 0).2.1 (gr (postOf sts drw (nxF fx)) 64 (sg stt)) (badOf sts drw (bdF fb)) ((nF sts drw (nxF fx) (badOf sts drw (bdF fb))) 63))), (4, .int (nI (c9 + (if lb (sel4 j25 (prf (postOf sts drw (nxF fx)) (nrF (nF sts drw (nxF fx) (badOf sts drw (bdF fb)))) (widM sts) (fs 2) (sg stt) 10000 1 (sg stt) 0).2.1 (gr (postOf sts drw (nxF fx)) 64 (sg stt)) (badOf sts drw (bdF fb)) ((nF sts drw (nxF fx) (badOf sts drw (bdF fb))) 63)) i = true then 1 else 0)))), (5, .int (nI (i + 1)))] := lv_sub hl [2, 3, 4, 1, 0] rfl
              exact ih56 (c9 + (if lb (sel4 j25 (prf (postOf sts drw (nxF fx)) (nrF (nF sts drw (nxF fx) (badOf sts drw (bdF fb)))) (widM sts) (fs 2) (sg stt) 10000 1 (sg stt) 0).2.1 (gr (postOf sts drw (nxF fx)) 64 (sg stt)) (badOf sts drw (bdF fb)) ((nF sts drw (nxF fx) (badOf sts drw (bdF fb))) 63)) i = true then 1 else 0)) (i + 1) _ _ _ (by omega) (by omega) (by rw [cn, ← hc]) hP hD hS hl
        have hl : lv_has ls 6 [(0, .ref qm), (1, .int (nI j25)), (2, .long (sel4 j25 (prf (postOf sts drw (nxF fx)) (nrF (nF sts drw (nxF fx) (badOf sts drw (bdF fb)))) (widM sts) (fs 2) (sg stt) 10000 1 (sg stt) 0).2.1 (gr (postOf sts drw (nxF fx)) 64 (sg stt)) (badOf sts drw (bdF fb)) ((nF sts drw (nxF fx) (badOf sts drw (bdF fb))) 63))), (4, .int (nI 0)), (5, .int (nI 0))] := lv_sub hl [3, 4, 2, 1, 0] rfl
        exact loop56 (sts - 0 + 1) 0 0 _ _ _ (by omega) (by omega) rfl hP hD hS hl
      · skip
        have hP : va_P (gD G) vC [(qm, .inr (6, [.int (nI 0), .int (nI ul), .ref xt, .int (nI pt), .ref xh, .ref xi, .ref xl, .ref xo, .ref xg, .ref xd, .int (zB ld), .ref xs, .int (nI stt), .int (nI sts), .int (nI drw), .ref xn, .ref xb, .ref xv, .int (nI bd), .int (nI rd)])), (xs, aI G 5 fs), (xn, aI G 512 fx), (xb, aZ G 512 fb)] H := hP
        have hD : va_D A [(qm, .inr (6, [.int (nI 0), .int (nI ul), .ref xt, .int (nI pt), .ref xh, .ref xi, .ref xl, .ref xo, .ref xg, .ref xd, .int (zB ld), .ref xs, .int (nI stt), .int (nI sts), .int (nI drw), .ref xn, .ref xb, .ref xv, .int (nI bd), .int (nI rd)])), (xs, aI G 5 fs), (xn, aI G 512 fx), (xb, aZ G 512 fb)] := hD
        refine lv_if_ne (tgt := 44) hx hb dM_count_28 rfl (fun h28 => (by revert h28; first | decide | exact fun z => absurd z (by decide) | exact fun z => z.elim (by decide))) (fun _ => ?_)
        refine lv_aload_n hx hb dM_count_31 rfl (lv_at hl 0 rfl) ?_
        refine va_get (D := gD G) (ci := 6) (v := .int (zB ld)) (C := "CircuitProverModel") (T := TM) (N := 20) hx hb htb inM hown hK hP 0 rfl rfl 10 (by decide) (htb _ b681) (fun _ h9 => h9) rfl dM_count_32 ?_
        refine lv_if_eq (tgt := 42) hx hb dM_count_35 rfl (fun h35 => absurd (zB_f h35) (by rw [h5]; decide)) (fun _ => ?_)
        refine lv_iconst (v := (-1)) hx hb dM_count_38 (by decide) ?_
        refine lv_goto (tgt := 43) hx hb dM_count_39 rfl ?_
        -- end 2
        rw [← hQ]
        exact k_iret hx hb hr hlocks rfl (u := (0, bd, rd)) (Or.inr (Or.inl ⟨h5, hc25_e, rfl, rfl⟩)) hP hD hK hS dM_count_43
  rw [hH, hlc] at hgo
  exact hgo
set_option maxRecDepth 100000 in
set_option maxHeartbeats 4000000 in
theorem k_M_rest (l : Launch) (G : GG) (sz : Nat) (qm : Nat) (xt : Nat) (xh : Nat) (xi : Nat) (xl : Nat) (xo : Nat) (xg : Nat) (xd : Nat) (xs : Nat) (xn : Nat) (xb : Nat) (xv : Nat) (th : Nat) (ul : Nat) (pt : Nat) (ld : Bool) (stt : Nat) (sts : Nat) (drw : Nat) (bd : Nat) (rd : Nat) (x : Int64) (j : Nat) (a : Nat) (hz : sts ≤ 64) (hj : j < 6) (ha6 : a < 64) (ha : ∀ t, t < sts / 2 ^ j → a + t * 2 ^ j < 64) : Kl l yM_rest cM_rest 9 0 0 G [.ref qm, .long x, .int (nI j), .int (nI a)] [(qm, .inr (6, [.int (nI th), .int (nI ul), .ref xt, .int (nI pt), .ref xh, .ref xi, .ref xl, .ref xo, .ref xg, .ref xd, .int (zB ld), .ref xs, .int (nI stt), .int (nI sts), .int (nI drw), .ref xn, .ref xb, .ref xv, .int (nI bd), .int (nI rd)]))] sz (fun (r : Int64) (u : Unit) => (fnM sts x j a = r ∧ () = u)) (fun (u : Unit) => [(qm, .inr (6, [.int (nI th), .int (nI ul), .ref xt, .int (nI pt), .ref xh, .ref xi, .ref xl, .ref xo, .ref xg, .ref xd, .int (zB ld), .ref xs, .int (nI stt), .int (nI sts), .int (nI drw), .ref xn, .ref xb, .ref xv, .int (nI bd), .int (nI rd)]))]) := by
  refine Met.ofW (cc := cM_rest) (maxL := 9) (ret := (some .long)) (by decide) rfl ?_
  intro p e s m args below meth c s₁ B hml hv
  obtain ⟨hav, hsz, hP, hK, hD0, hE⟩ := hv
  have hx := B.exec
  have hb := B.bytes
  have hr := B.returns
  have htb : ∀ w ∈ TB, w.before args s = true := fun w h => atoms_spec (ws := Cond.code yM_rest cM_rest 9 (some .long) :: TB) B.pre w (List.mem_cons_of_mem _ h)
  have hown : s.vm.findClass "CircuitProverModel" = some m.cls := findClass_of_methodNamed B.named
  have hlocks := B.notSynchronized
  subst hsz
  have hD := hD0.self (sz := s.heap.size)
  clear hD0
  generalize hRm : (headSpec (Cond.code yM_rest cM_rest 9 (some .long) :: TB) { frames := 0, cells := 0, slots := 0, locals := 0 }).room = R
  have hRf : R.frames = 0 := by rw [← hRm]; rfl
  have hRl : R.locals = 0 := by rw [← hRm]; rfl
  have hRc : R.cells = 0 := by rw [← hRm]; rfl
  have hRs : R.slots = 0 := by rw [← hRm]; rfl
  clear hRm
  generalize hAe : va_A [(qm, .inr (6, [.int (nI th), .int (nI ul), .ref xt, .int (nI pt), .ref xh, .ref xi, .ref xl, .ref xo, .ref xg, .ref xd, .int (zB ld), .ref xs, .int (nI stt), .int (nI sts), .int (nI drw), .ref xn, .ref xb, .ref xv, .int (nI bd), .int (nI rd)]))] s.heap.size = A at hD hE ⊢
  have hA : ∀ q : Nat, s.heap.size ≤ q → A q := fun q h => by rw [← hAe]; exact Or.inr h
  clear hAe
  have hS : va_S A s.heap s.heap [] := va_S.rf
  have hl := lv_entry ([.ref qm, .long x, .int (nI j), .int (nI a)]) (n := 9) (Nat.le_of_ble_eq_true rfl)
  have hent := lg_entry_eq m ([.ref qm, .long x, .int (nI j), .int (nI a)]) 9
  rw [← hav] at hent
  rw [hent]
  clear hent hav
  generalize (lg_sl ([.ref qm, .long x, .int (nI j), .int (nI a)]) ++ List.replicate (9 - (lg_sl ([.ref qm, .long x, .int (nI j), .int (nI a)])).length) Slot.unset).toArray = ls at hl ⊢
  have hl : lv_has ls 9 [(0, .ref qm), (1, .long x), (3, .int (nI j)), (4, .int (nI a))] := hl
  generalize hQ : MQ below _ args s 0 0 _ = Q
  have hP : va_P (gD G) vC [(qm, .inr (6, [.int (nI th), .int (nI ul), .ref xt, .int (nI pt), .ref xh, .ref xi, .ref xl, .ref xo, .ref xg, .ref xd, .int (zB ld), .ref xs, .int (nI stt), .int (nI sts), .int (nI drw), .ref xn, .ref xb, .ref xv, .int (nI bd), .int (nI rd)]))] s.heap := hP
  obtain ⟨H, hH⟩ : ∃ H : Heap, H = s.heap := ⟨_, rfl⟩
  obtain ⟨locs, hlc⟩ : ∃ L : List Loc, L = [] := ⟨_, rfl⟩
  have hS : va_S A s.heap H locs := by rw [hH, hlc]; exact hS
  have hP : va_P (gD G) vC [(qm, .inr (6, [.int (nI th), .int (nI ul), .ref xt, .int (nI pt), .ref xh, .ref xi, .ref xl, .ref xo, .ref xg, .ref xd, .int (zB ld), .ref xs, .int (nI stt), .int (nI sts), .int (nI drw), .ref xn, .ref xb, .ref xv, .int (nI bd), .int (nI rd)]))] H := by rw [hH]; exact hP
  have hgo : W p l e R s m args below meth c H locs 0 0 Q (F0 m 0 ls []) := by
    clear hH hlc
    have hq := Nat.div_le_self sts (2 ^ j)
    refine lv_lconst (v := 0) hx hb dM_rest_0 (by decide) ?_
    refine lv_lstore (lv' := [(5, .long 0), (0, .ref qm), (1, .long x), (3, .int (nI j)), (4, .int (nI a))]) hx hb dM_rest_1 hl (by decide) rfl (fun ls hl => ?_)
    refine lv_aload_n hx hb dM_rest_3 rfl (lv_at hl 1 rfl) ?_
    refine va_get (D := gD G) (ci := 6) (v := .int (nI sts)) (C := "CircuitProverModel") (T := TM) (N := 20) hx hb htb inM hown hK hP 0 rfl rfl 13 (by decide) (htb _ b684) (fun _ h9 => h9) rfl dM_rest_4 ?_
    refine lv_iload_n hx hb dM_rest_7 rfl (lv_at hl 3 rfl) ?_
    refine lv_ishr hx hb dM_rest_8 ?_
    refine k_toi (y := nI (sts / 2 ^ j)) (shrn (by omega) (by omega)) ?_
    refine lv_istore (lv' := [(7, .int (nI (sts / 2 ^ j))), (5, .long 0), (0, .ref qm), (1, .long x), (3, .int (nI j)), (4, .int (nI a))]) hx hb dM_rest_9 hl (by decide) rfl (fun ls hl => ?_)
    refine lv_iconst (v := nI 0) hx hb dM_rest_11 (by decide) ?_
    refine lv_istore (lv' := [(8, .int (nI 0)), (7, .int (nI (sts / 2 ^ j))), (5, .long 0), (0, .ref qm), (1, .long x), (3, .int (nI j)), (4, .int (nI a))]) hx hb dM_rest_12 hl (by decide) rfl (fun ls hl => ?_)
    have loop14 : ∀ (n : Nat) (v : Int64) (t : Nat) (H : Heap) (locs : List Loc) (ls : Array Slot), sts / 2 ^ j - t < n → (t ≤ sts / 2 ^ j) → (v = it (fun t v => v ||| sl (sr x (a + t * 2 ^ j) &&& 1) t) t 0) → va_P (gD G) vC [(qm, .inr (6, [.int (nI th), .int (nI ul), .ref xt, .int (nI pt), .ref xh, .ref xi, .ref xl, .ref xo, .ref xg, .ref xd, .int (zB ld), .ref xs, .int (nI stt), .int (nI sts), .int (nI drw), .ref xn, .ref xb, .ref xv, .int (nI bd), .int (nI rd)]))] H → va_D A [(qm, .inr (6, [.int (nI th), .int (nI ul), .ref xt, .int (nI pt), .ref xh, .ref xi, .ref xl, .ref xo, .ref xg, .ref xd, .int (zB ld), .ref xs, .int (nI stt), .int (nI sts), .int (nI drw), .ref xn, .ref xb, .ref xv, .int (nI bd), .int (nI rd)]))] → va_S A s.heap H locs → lv_has ls 9 [(0, .ref qm), (1, .long x), (3, .int (nI j)), (4, .int (nI a)), (5, .long v), (7, .int (nI (sts / 2 ^ j))), (8, .int (nI t))] → W p l e R s m args below meth c H locs 0 0 Q (F0 m 14 ls []) := by
      intro n
      induction n with
      | zero => intro v t H locs ls hmu; omega
      | succ n ih =>
        intro v t H locs ls hmu ht hv hP hD hS hl
        have ih14 := ih
        clear ih
        refine lv_iload hx hb dM_rest_14 (lv_at hl 6 rfl) ?_
        refine lv_iload hx hb dM_rest_16 (lv_at hl 5 rfl) ?_
        refine lv_icmp_ge (tgt := 46) hx hb dM_rest_18 rfl (fun h18 => ?_) (fun h18 => ?_)
        · have h18 : sts / 2 ^ j ≤ t := (nI_leI (a := sts / 2 ^ j) (b := t) (by omega) (by omega)).mp h18
          refine lv_lload hx hb dM_rest_46 (lv_at hl 4 rfl) ?_
          -- end 0
          rw [← hQ]
          exact k_lret hx hb hr hlocks (u := ()) (⟨by rw [hv, show t = sts / 2 ^ j by omega]; rfl, rfl⟩) hP hD hK hS dM_rest_48
        · have h18 : t < sts / 2 ^ j := Nat.lt_of_not_le (fun z => h18 ((nI_leI (a := sts / 2 ^ j) (b := t) (by omega) (by omega)).mpr z))
          refine lv_lload hx hb dM_rest_21 (lv_at hl 4 rfl) ?_
          refine lv_lload_n hx hb dM_rest_23 rfl (lv_at hl 1 rfl) ?_
          refine lv_iload hx hb dM_rest_24 (lv_at hl 3 rfl) ?_
          refine lv_iload hx hb dM_rest_26 (lv_at hl 6 rfl) ?_
          refine lv_iload_n hx hb dM_rest_28 rfl (lv_at hl 2 rfl) ?_
          have hat := ha t (by omega)
          refine lv_ishl hx hb dM_rest_29 ?_
          refine k_toi (y := nI (t * 2 ^ j)) (shn (by omega) (by omega)) ?_
          refine lv_iadd hx hb dM_rest_30 ?_
          refine k_toi (y := nI (a + (t * 2 ^ j))) (nI_add _ _) ?_
          refine lv_lshr (v := sr x (a + (t * 2 ^ j))) hx hb dM_rest_31 rfl ?_
          refine lv_lconst (v := 1) hx hb dM_rest_32 (by decide) ?_
          refine lv_land hx hb dM_rest_33 ?_
          refine lv_iload hx hb dM_rest_34 (lv_at hl 6 rfl) ?_
          refine lv_lshl (v := sl ((sr x (a + (t * 2 ^ j))) &&& 1) t) hx hb dM_rest_36 rfl ?_
          refine lv_lor hx hb dM_rest_37 ?_
          refine lv_lstore (lv' := [(5, .long (v ||| (sl ((sr x (a + (t * 2 ^ j))) &&& 1) t))), (0, .ref qm), (1, .long x), (3, .int (nI j)), (4, .int (nI a)), (7, .int (nI (sts / 2 ^ j))), (8, .int (nI t))]) hx hb dM_rest_38 hl (by decide) rfl (fun ls hl => ?_)
          refine lv_iinc (v := nI (t + 1)) (lv' := [(8, .int (nI (t + 1))), (5, .long (v ||| (sl ((sr x (a + (t * 2 ^ j))) &&& 1) t))), (0, .ref qm), (1, .long x), (3, .int (nI j)), (4, .int (nI a)), (7, .int (nI (sts / 2 ^ j)))]) hx hb dM_rest_40 hl (k := 6) rfl (nI_add _ 1) (by decide) rfl (fun ls hl => ?_)
          refine lv_goto (tgt := 14) hx hb dM_rest_43 rfl ?_
          have hl : lv_has ls 9 [(0, .ref qm), (1, .long x), (3, .int (nI j)), (4, .int (nI a)), (5, .long (v ||| (sl ((sr x (a + (t * 2 ^ j))) &&& 1) t))), (7, .int (nI (sts / 2 ^ j))), (8, .int (nI (t + 1)))] := lv_sub hl [2, 3, 4, 5, 1, 6, 0] rfl
          exact ih14 (v ||| (sl ((sr x (a + (t * 2 ^ j))) &&& 1) t)) (t + 1) _ _ _ (by omega) (by omega) (by rw [it_s, ← hv]) hP hD hS hl
    have hl : lv_has ls 9 [(0, .ref qm), (1, .long x), (3, .int (nI j)), (4, .int (nI a)), (5, .long 0), (7, .int (nI (sts / 2 ^ j))), (8, .int (nI 0))] := lv_sub hl [3, 4, 5, 6, 2, 1, 0] rfl
    exact loop14 (sts / 2 ^ j - 0 + 1) 0 0 _ _ _ (by omega) (Nat.zero_le _) rfl hP hD hS hl
  rw [hH, hlc] at hgo
  exact hgo
set_option maxRecDepth 100000 in
set_option maxHeartbeats 4000000 in
theorem k_M_hangs (l : Launch) (G : GG) (sz : Nat) (x : Int64) (h9 : Nat) (hh9 : h9 ≤ 32) : Ki l yM_hangs cM_hangs 5 .boolean 0 0 G [.long x, .int (nI (2 * h9))] [] sz (fun (r : Int32) (u : Unit) => (zB (hangM x h9) = r ∧ () = u)) (fun (u : Unit) => []) := by
  refine Met.ofW (cc := cM_hangs) (maxL := 5) (ret := (some .boolean)) (by decide) rfl ?_
  intro p e s m args below meth c s₁ B hml hv
  obtain ⟨hav, hsz, hP, hK, hD0, hE⟩ := hv
  have hx := B.exec
  have hb := B.bytes
  have hr := B.returns
  have htb : ∀ w ∈ TB, w.before args s = true := fun w h => atoms_spec (ws := Cond.code yM_hangs cM_hangs 5 (some .boolean) :: TB) B.pre w (List.mem_cons_of_mem _ h)
  have hown : s.vm.findClass "CircuitProverModel" = some m.cls := findClass_of_methodNamed B.named
  have hlocks := B.notSynchronized
  subst hsz
  have hD := hD0.self (sz := s.heap.size)
  clear hD0
  generalize hRm : (headSpec (Cond.code yM_hangs cM_hangs 5 (some .boolean) :: TB) { frames := 0, cells := 0, slots := 0, locals := 0 }).room = R
  have hRf : R.frames = 0 := by rw [← hRm]; rfl
  have hRl : R.locals = 0 := by rw [← hRm]; rfl
  have hRc : R.cells = 0 := by rw [← hRm]; rfl
  have hRs : R.slots = 0 := by rw [← hRm]; rfl
  clear hRm
  generalize hAe : va_A [] s.heap.size = A at hD hE ⊢
  have hA : ∀ q : Nat, s.heap.size ≤ q → A q := fun q h => by rw [← hAe]; exact Or.inr h
  clear hAe
  have hS : va_S A s.heap s.heap [] := va_S.rf
  have hl := lv_entry ([.long x, .int (nI (2 * h9))]) (n := 5) (Nat.le_of_ble_eq_true rfl)
  have hent := lg_entry_eq m ([.long x, .int (nI (2 * h9))]) 5
  rw [← hav] at hent
  rw [hent]
  clear hent hav
  generalize (lg_sl ([.long x, .int (nI (2 * h9))]) ++ List.replicate (5 - (lg_sl ([.long x, .int (nI (2 * h9))])).length) Slot.unset).toArray = ls at hl ⊢
  have hl : lv_has ls 5 [(0, .long x), (2, .int (nI (2 * h9)))] := hl
  generalize hQ : MQ below _ args s 0 0 _ = Q
  have hP : va_P (gD G) vC [] s.heap := hP
  obtain ⟨H, hH⟩ : ∃ H : Heap, H = s.heap := ⟨_, rfl⟩
  obtain ⟨locs, hlc⟩ : ∃ L : List Loc, L = [] := ⟨_, rfl⟩
  have hS : va_S A s.heap H locs := by rw [hH, hlc]; exact hS
  have hP : va_P (gD G) vC [] H := by rw [hH]; exact hP
  have hgo : W p l e R s m args below meth c H locs 0 0 Q (F0 m 0 ls []) := by
    clear hH hlc
    refine lv_iconst (v := nI 0) hx hb dM_hangs_0 (by decide) ?_
    refine lv_istore_n (lv' := [(3, .int (nI 0)), (0, .long x), (2, .int (nI (2 * h9)))]) hx hb dM_hangs_1 rfl hl (by decide) rfl (fun ls hl => ?_)
    refine lv_iconst (v := nI 0) hx hb dM_hangs_2 (by decide) ?_
    refine lv_istore (lv' := [(4, .int (nI 0)), (3, .int (nI 0)), (0, .long x), (2, .int (nI (2 * h9)))]) hx hb dM_hangs_3 hl (by decide) rfl (fun ls hl => ?_)
    have loop5 : ∀ (n : Nat) (g : Bool) (k : Nat) (u : Nat) (H : Heap) (locs : List Loc) (ls : Array Slot), h9 - u < n → (k = 2 * u ∧ u ≤ h9) → (g = anyN (fun u => lb x (2 * u) != lb x (2 * u + 1)) u) → va_P (gD G) vC [] H → va_D A [] → va_S A s.heap H locs → lv_has ls 5 [(0, .long x), (2, .int (nI (2 * h9))), (3, .int (zB g)), (4, .int (nI k))] → W p l e R s m args below meth c H locs 0 0 Q (F0 m 5 ls []) := by
      intro n
      induction n with
      | zero => intro g k u H locs ls hmu; omega
      | succ n ih =>
        intro g k u H locs ls hmu hk hg hP hD hS hl
        have ih5 := ih
        clear ih
        refine lv_iload hx hb dM_hangs_5 (lv_at hl 3 rfl) ?_
        refine lv_iload_n hx hb dM_hangs_7 rfl (lv_at hl 1 rfl) ?_
        refine lv_icmp_ge (tgt := 45) hx hb dM_hangs_8 rfl (fun h8 => ?_) (fun h8 => ?_)
        · have h8 : 2 * h9 ≤ k := (nI_leI (a := 2 * h9) (b := k) (by omega) (by omega)).mp h8
          refine lv_iload_n hx hb dM_hangs_45 rfl (lv_at hl 2 rfl) ?_
          -- end 0
          rw [← hQ]
          exact k_iret hx hb hr hlocks (nar_zV _) (u := ()) (⟨by rw [hg, show u = h9 by omega]; rfl, rfl⟩) hP hD hK hS dM_hangs_46
        · have h8 : k < 2 * h9 := Nat.lt_of_not_le (fun z => h8 ((nI_leI (a := 2 * h9) (b := k) (by omega) (by omega)).mpr z))
          refine lv_iload_n hx hb dM_hangs_11 rfl (lv_at hl 2 rfl) ?_
          refine lv_if_ne (tgt := 33) hx hb dM_hangs_12 rfl (fun h12 => ?_) (fun h12 => ?_)
          · have h12 : g = true := zB_t h12
            refine lv_iconst (v := nI 1) hx hb dM_hangs_33 (by decide) ?_
            refine lv_goto (tgt := 38) hx hb dM_hangs_34 rfl ?_
            refine lv_istore_n (lv' := [(3, .int (nI 1)), (0, .long x), (2, .int (nI (2 * h9))), (4, .int (nI k))]) hx hb dM_hangs_38 rfl hl (by decide) rfl (fun ls hl => ?_)
            refine lv_iinc (v := nI (k + 2)) (lv' := [(4, .int (nI (k + 2))), (3, .int (nI 1)), (0, .long x), (2, .int (nI (2 * h9)))]) hx hb dM_hangs_39 hl (k := 3) rfl (nI_add _ 2) (by decide) rfl (fun ls hl => ?_)
            refine lv_goto (tgt := 5) hx hb dM_hangs_42 rfl ?_
            have hl : lv_has ls 5 [(0, .long x), (2, .int (nI (2 * h9))), (3, .int (nI 1)), (4, .int (nI (k + 2)))] := lv_sub hl [2, 3, 1, 0] rfl
            exact ih5 true (k + 2) (u + 1) _ _ _ (by omega) (by omega) (by rw [anyN, ← hg]; first | (rw [h12]; rfl) | (rw [h12, Bool.false_or, ← hk.1]; have h9 := fun z => h30 ((eq_bits x (by omega) (by omega)).mpr z); simpa using h9) | (rw [h12, Bool.false_or, ← hk.1, (eq_bits x (by omega) (by omega)).mp h30]; simp)) hP hD hS hl
          · have h12 : g = false := zB_f h12
            refine lv_lload_n hx hb dM_hangs_15 rfl (lv_at hl 0 rfl) ?_
            refine lv_iload hx hb dM_hangs_16 (lv_at hl 3 rfl) ?_
            refine lv_lshr (v := sr x k) hx hb dM_hangs_18 rfl ?_
            refine lv_lconst (v := 1) hx hb dM_hangs_19 (by decide) ?_
            refine lv_land hx hb dM_hangs_20 ?_
            refine lv_lload_n hx hb dM_hangs_21 rfl (lv_at hl 0 rfl) ?_
            refine lv_iload hx hb dM_hangs_22 (lv_at hl 3 rfl) ?_
            refine lv_iconst (v := nI 1) hx hb dM_hangs_24 (by decide) ?_
            refine lv_iadd hx hb dM_hangs_25 ?_
            refine k_toi (y := nI (k + 1)) (nI_add _ _) ?_
            refine lv_lshr (v := sr x (k + 1)) hx hb dM_hangs_26 rfl ?_
            refine lv_lconst (v := 1) hx hb dM_hangs_27 (by decide) ?_
            refine lv_land hx hb dM_hangs_28 ?_
            refine W.lcmp hx hb dM_hangs_29 ?_
            refine lv_if_eq (tgt := 37) hx hb dM_hangs_30 rfl (fun h30 => ?_) (fun h30 => ?_)
            · have h30 : ((sr x k) &&& 1) = ((sr x (k + 1)) &&& 1) := (lg_cmp_eq _ _).mp h30
              refine lv_iconst (v := nI 0) hx hb dM_hangs_37 (by decide) ?_
              refine lv_istore_n (lv' := [(3, .int (nI 0)), (0, .long x), (2, .int (nI (2 * h9))), (4, .int (nI k))]) hx hb dM_hangs_38 rfl hl (by decide) rfl (fun ls hl => ?_)
              refine lv_iinc (v := nI (k + 2)) (lv' := [(4, .int (nI (k + 2))), (3, .int (nI 0)), (0, .long x), (2, .int (nI (2 * h9)))]) hx hb dM_hangs_39 hl (k := 3) rfl (nI_add _ 2) (by decide) rfl (fun ls hl => ?_)
              refine lv_goto (tgt := 5) hx hb dM_hangs_42 rfl ?_
              have hl : lv_has ls 5 [(0, .long x), (2, .int (nI (2 * h9))), (3, .int (nI 0)), (4, .int (nI (k + 2)))] := lv_sub hl [2, 3, 1, 0] rfl
              exact ih5 false (k + 2) (u + 1) _ _ _ (by omega) (by omega) (by rw [anyN, ← hg]; first | (rw [h12]; rfl) | (rw [h12, Bool.false_or, ← hk.1]; have h9 := fun z => h30 ((eq_bits x (by omega) (by omega)).mpr z); simpa using h9) | (rw [h12, Bool.false_or, ← hk.1, (eq_bits x (by omega) (by omega)).mp h30]; simp)) hP hD hS hl
            · have h30 : ¬ ((sr x k) &&& 1) = ((sr x (k + 1)) &&& 1) := fun z => h30 ((lg_cmp_eq _ _).mpr z)
              refine lv_iconst (v := nI 1) hx hb dM_hangs_33 (by decide) ?_
              refine lv_goto (tgt := 38) hx hb dM_hangs_34 rfl ?_
              refine lv_istore_n (lv' := [(3, .int (nI 1)), (0, .long x), (2, .int (nI (2 * h9))), (4, .int (nI k))]) hx hb dM_hangs_38 rfl hl (by decide) rfl (fun ls hl => ?_)
              refine lv_iinc (v := nI (k + 2)) (lv' := [(4, .int (nI (k + 2))), (3, .int (nI 1)), (0, .long x), (2, .int (nI (2 * h9)))]) hx hb dM_hangs_39 hl (k := 3) rfl (nI_add _ 2) (by decide) rfl (fun ls hl => ?_)
              refine lv_goto (tgt := 5) hx hb dM_hangs_42 rfl ?_
              have hl : lv_has ls 5 [(0, .long x), (2, .int (nI (2 * h9))), (3, .int (nI 1)), (4, .int (nI (k + 2)))] := lv_sub hl [2, 3, 1, 0] rfl
              exact ih5 true (k + 2) (u + 1) _ _ _ (by omega) (by omega) (by rw [anyN, ← hg]; first | (rw [h12]; rfl) | (rw [h12, Bool.false_or, ← hk.1]; have h9 := fun z => h30 ((eq_bits x (by omega) (by omega)).mpr z); simpa using h9) | (rw [h12, Bool.false_or, ← hk.1, (eq_bits x (by omega) (by omega)).mp h30]; simp)) hP hD hS hl
    have hl : lv_has ls 5 [(0, .long x), (2, .int (nI (2 * h9))), (3, .int (nI 0)), (4, .int (nI 0))] := lv_sub hl [2, 3, 1, 0] rfl
    exact loop5 (h9 - 0 + 1) false 0 0 _ _ _ (by omega) (by omega) rfl hP hD hS hl
  rw [hH, hlc] at hgo
  exact hgo
