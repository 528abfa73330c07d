def nxF (f : Nat → Nat) (a b : Nat) : Nat := f (8 * a + b)
def bdF (f : Nat → Bool) (a b : Nat) : Bool := f (8 * a + b)
theorem or_no {v w : Int64} (h : (w &&& (v ^^^ (-1))) = 0) : v ||| w = v := by
  apply lb_iff
  intro t ht
  have h1 := eq0.mp h t ht
  rw [lb_and, lb_not v ht] at h1
  rw [lb_or]
  revert h1
  cases lb v t <;> cases lb w t <;> simp
set_option maxRecDepth 100000 in
set_option maxHeartbeats 4000000 in
theorem k_M_badSet (l : Launch) (G : GG) (sz : Nat) (qm : Nat) (xt : Nat) (xh : Nat) (xi : Nat) (xl : Nat) (xo : Nat) (xg : Nat) (xd : Nat) (xs : Nat) (xn : Nat) (xb : Nat) (xv : Nat) (th : Nat) (ul : Nat) (pt : Nat) (ld : Bool) (stt : Nat) (sts : Nat) (drw : Nat) (bd : Nat) (rd : Nat) (fb : Nat → Bool) (hz : sts ≤ 64) (hdw : 1 ≤ drw ∧ drw ≤ 8) : Kl l yM_badSet cM_badSet 5 0 0 G [.ref qm] [(qm, .inr (6, [.int (nI th), .int (nI ul), .ref xt, .int (nI pt), .ref xh, .ref xi, .ref xl, .ref xo, .ref xg, .ref xd, .int (zB ld), .ref xs, .int (nI stt), .int (nI sts), .int (nI drw), .ref xn, .ref xb, .ref xv, .int (nI bd), .int (nI rd)])), (xb, aZ G 512 fb)] sz (fun (r : Int64) (u : Unit) => ((badOf sts drw (bdF fb)) = r ∧ () = u)) (fun (u : Unit) => [(qm, .inr (6, [.int (nI th), .int (nI ul), .ref xt, .int (nI pt), .ref xh, .ref xi, .ref xl, .ref xo, .ref xg, .ref xd, .int (zB ld), .ref xs, .int (nI stt), .int (nI sts), .int (nI drw), .ref xn, .ref xb, .ref xv, .int (nI bd), .int (nI rd)])), (xb, aZ G 512 fb)]) := by
  refine Met.ofW (cc := cM_badSet) (maxL := 5) (ret := (some .long)) (by decide) rfl ?_
  intro p e s m args below meth c s₁ B hml hv
  obtain ⟨hav, hsz, hP, hK, hD0, hE⟩ := hv
  have hx := B.exec
  have hb := B.bytes
  have hr := B.returns
  have htb : ∀ w ∈ TB, w.before args s = true := fun w h => atoms_spec (ws := Cond.code yM_badSet cM_badSet 5 (some .long) :: TB) B.pre w (List.mem_cons_of_mem _ h)
  have hown : s.vm.findClass "CircuitProverModel" = some m.cls := findClass_of_methodNamed B.named
  have hlocks := B.notSynchronized
  subst hsz
  have hD := hD0.self (sz := s.heap.size)
  clear hD0
  generalize hRm : (headSpec (Cond.code yM_badSet cM_badSet 5 (some .long) :: TB) { frames := 0, cells := 0, slots := 0, locals := 0 }).room = R
  have hRf : R.frames = 0 := by rw [← hRm]; rfl
  have hRl : R.locals = 0 := by rw [← hRm]; rfl
  have hRc : R.cells = 0 := by rw [← hRm]; rfl
  have hRs : R.slots = 0 := by rw [← hRm]; rfl
  clear hRm
  generalize hAe : va_A [(qm, .inr (6, [.int (nI th), .int (nI ul), .ref xt, .int (nI pt), .ref xh, .ref xi, .ref xl, .ref xo, .ref xg, .ref xd, .int (zB ld), .ref xs, .int (nI stt), .int (nI sts), .int (nI drw), .ref xn, .ref xb, .ref xv, .int (nI bd), .int (nI rd)])), (xb, aZ G 512 fb)] s.heap.size = A at hD hE ⊢
  have hA : ∀ q : Nat, s.heap.size ≤ q → A q := fun q h => by rw [← hAe]; exact Or.inr h
  clear hAe
  have hS : va_S A s.heap s.heap [] := va_S.rf
  have hl := lv_entry ([.ref qm]) (n := 5) (Nat.le_of_ble_eq_true rfl)
  have hent := lg_entry_eq m ([.ref qm]) 5
  rw [← hav] at hent
  rw [hent]
  clear hent hav
  generalize (lg_sl ([.ref qm]) ++ List.replicate (5 - (lg_sl ([.ref qm])).length) Slot.unset).toArray = ls at hl ⊢
  have hl : lv_has ls 5 [(0, .ref qm)] := hl
  generalize hQ : MQ below _ args s 0 0 _ = Q
  have hP : va_P (gD G) vC [(qm, .inr (6, [.int (nI th), .int (nI ul), .ref xt, .int (nI pt), .ref xh, .ref xi, .ref xl, .ref xo, .ref xg, .ref xd, .int (zB ld), .ref xs, .int (nI stt), .int (nI sts), .int (nI drw), .ref xn, .ref xb, .ref xv, .int (nI bd), .int (nI rd)])), (xb, aZ G 512 fb)] s.heap := hP
  obtain ⟨H, hH⟩ : ∃ H : Heap, H = s.heap := ⟨_, rfl⟩
  obtain ⟨locs, hlc⟩ : ∃ L : List Loc, L = [] := ⟨_, rfl⟩
  have hS : va_S A s.heap H locs := by rw [hH, hlc]; exact hS
  have hP : va_P (gD G) vC [(qm, .inr (6, [.int (nI th), .int (nI ul), .ref xt, .int (nI pt), .ref xh, .ref xi, .ref xl, .ref xo, .ref xg, .ref xd, .int (zB ld), .ref xs, .int (nI stt), .int (nI sts), .int (nI drw), .ref xn, .ref xb, .ref xv, .int (nI bd), .int (nI rd)])), (xb, aZ G 512 fb)] H := by rw [hH]; exact hP
  have hgo : W p l e R s m args below meth c H locs 0 0 Q (F0 m 0 ls []) := by
    clear hH hlc
    refine lv_lconst (v := 0) hx hb dM_badSet_0 (by decide) ?_
    refine lv_lstore_n (lv' := [(1, .long 0), (0, .ref qm)]) hx hb dM_badSet_1 rfl hl (by decide) rfl (fun ls hl => ?_)
    refine lv_iconst (v := nI 0) hx hb dM_badSet_2 (by decide) ?_
    refine lv_istore_n (lv' := [(3, .int (nI 0)), (1, .long 0), (0, .ref qm)]) hx hb dM_badSet_3 rfl hl (by decide) rfl (fun ls hl => ?_)
    have loop4 : ∀ (n : Nat) (t1 : Int64) (sx : Nat) (H : Heap) (locs : List Loc) (ls : Array Slot), sts - sx < n → (sx ≤ sts) → (t1 = it (fun s a => it (fun i a => if bdF fb s i = true then a ||| sg s else a) drw a) sx 0) → va_P (gD G) vC [(qm, .inr (6, [.int (nI th), .int (nI ul), .ref xt, .int (nI pt), .ref xh, .ref xi, .ref xl, .ref xo, .ref xg, .ref xd, .int (zB ld), .ref xs, .int (nI stt), .int (nI sts), .int (nI drw), .ref xn, .ref xb, .ref xv, .int (nI bd), .int (nI rd)])), (xb, aZ G 512 fb)] H → va_D A [(qm, .inr (6, [.int (nI th), .int (nI ul), .ref xt, .int (nI pt), .ref xh, .ref xi, .ref xl, .ref xo, .ref xg, .ref xd, .int (zB ld), .ref xs, .int (nI stt), .int (nI sts), .int (nI drw), .ref xn, .ref xb, .ref xv, .int (nI bd), .int (nI rd)])), (xb, aZ G 512 fb)] → va_S A s.heap H locs → lv_has ls 5 [(0, .ref qm), (1, .long t1), (3, .int (nI sx))] → W p l e R s m args below meth c H locs 0 0 Q (F0 m 4 ls []) := by
      intro n
      induction n with
      | zero => intro t1 sx H locs ls hmu; omega
      | succ n ih =>
        intro t1 sx H locs ls hmu hsx ht1 hP hD hS hl
        have ih4 := ih
        clear ih
        refine lv_iload_n hx hb dM_badSet_4 rfl (lv_at hl 2 rfl) ?_
        refine lv_aload_n hx hb dM_badSet_5 rfl (lv_at hl 0 rfl) ?_
        refine va_get (D := gD G) (ci := 6) (v := .int (nI sts)) (C := "CircuitProverModel") (T := TM) (N := 20) hx hb htb inM hown hK hP 0 rfl rfl 13 (by decide) (htb _ b684) (fun _ h9 => h9) rfl dM_badSet_6 ?_
        refine lv_icmp_ge (tgt := 61) hx hb dM_badSet_9 rfl (fun h9 => ?_) (fun h9 => ?_)
        · have h9 : sts ≤ sx := (nI_leI (a := sts) (b := sx) (by omega) (by omega)).mp h9
          refine lv_lload_n hx hb dM_badSet_61 rfl (lv_at hl 1 rfl) ?_
          -- end 0
          rw [← hQ]
          exact k_lret hx hb hr hlocks (u := ()) (⟨by rw [ht1, show sx = sts by omega]; rfl, rfl⟩) hP hD hK hS dM_badSet_62
        · have h9 : sx < sts := Nat.lt_of_not_le (fun z => h9 ((nI_leI (a := sts) (b := sx) (by omega) (by omega)).mpr z))
          refine lv_iconst (v := nI 0) hx hb dM_badSet_12 (by decide) ?_
          refine lv_istore (lv' := [(4, .int (nI 0)), (0, .ref qm), (1, .long t1), (3, .int (nI sx))]) hx hb dM_badSet_13 hl (by decide) rfl (fun ls hl => ?_)
          have loop15 : ∀ (n : Nat) (t2 : Int64) (ix : Nat) (H : Heap) (locs : List Loc) (ls : Array Slot), drw - ix < n → (ix ≤ drw) → (t2 = it (fun i a => if bdF fb sx i = true then a ||| sg sx else a) ix t1) → va_P (gD G) vC [(qm, .inr (6, [.int (nI th), .int (nI ul), .ref xt, .int (nI pt), .ref xh, .ref xi, .ref xl, .ref xo, .ref xg, .ref xd, .int (zB ld), .ref xs, .int (nI stt), .int (nI sts), .int (nI drw), .ref xn, .ref xb, .ref xv, .int (nI bd), .int (nI rd)])), (xb, aZ G 512 fb)] H → va_D A [(qm, .inr (6, [.int (nI th), .int (nI ul), .ref xt, .int (nI pt), .ref xh, .ref xi, .ref xl, .ref xo, .ref xg, .ref xd, .int (zB ld), .ref xs, .int (nI stt), .int (nI sts), .int (nI drw), .ref xn, .ref xb, .ref xv, .int (nI bd), .int (nI rd)])), (xb, aZ G 512 fb)] → va_S A s.heap H locs → lv_has ls 5 [(0, .ref qm), (1, .long t2), (3, .int (nI sx)), (4, .int (nI ix))] → W p l e R s m args below meth c H locs 0 0 Q (F0 m 15 ls []) := by
            intro n
            induction n with
            | zero => intro t2 ix H locs ls hmu; omega
            | succ n ih =>
              intro t2 ix H locs ls hmu hix ht2 hP hD hS hl
              have ih15 := ih
              clear ih
              refine lv_iload hx hb dM_badSet_15 (lv_at hl 3 rfl) ?_
              refine lv_aload_n hx hb dM_badSet_17 rfl (lv_at hl 0 rfl) ?_
              refine va_get (D := gD G) (ci := 6) (v := .int (nI drw)) (C := "CircuitProverModel") (T := TM) (N := 20) hx hb htb inM hown hK hP 0 rfl rfl 14 (by decide) (htb _ b685) (fun _ h9 => h9) rfl dM_badSet_18 ?_
              refine lv_icmp_ge (tgt := 55) hx hb dM_badSet_21 rfl (fun h21 => ?_) (fun h21 => ?_)
              · have h21 : drw ≤ ix := (nI_leI (a := drw) (b := ix) (by omega) (by omega)).mp h21
                refine lv_iinc (v := nI (sx + 1)) (lv' := [(3, .int (nI (sx + 1))), (0, .ref qm), (1, .long t2), (4, .int (nI ix))]) hx hb dM_badSet_55 hl (k := 2) rfl (nI_add _ 1) (by decide) rfl (fun ls hl => ?_)
                refine lv_goto (tgt := 4) hx hb dM_badSet_58 rfl ?_
                have hl : lv_has ls 5 [(0, .ref qm), (1, .long t2), (3, .int (nI (sx + 1)))] := lv_sub hl [1, 2, 0] rfl
                exact ih4 t2 (sx + 1) _ _ _ (by omega) (by omega) (by rw [it_s, ← ht1, ht2, show ix = drw by omega]) hP hD hS hl
              · have h21 : ix < drw := Nat.lt_of_not_le (fun z => h21 ((nI_leI (a := drw) (b := ix) (by omega) (by omega)).mpr z))
                refine lv_aload_n hx hb dM_badSet_24 rfl (lv_at hl 0 rfl) ?_
                refine va_get (D := gD G) (ci := 6) (v := .ref xb) (C := "CircuitProverModel") (T := TM) (N := 20) hx hb htb inM hown hK hP 0 rfl rfl 16 (by decide) (htb _ b687) (fun _ h9 => h9) rfl dM_badSet_25 ?_
                refine lv_bipush (v := nI 8) hx hb dM_badSet_28 (by decide) ?_
                refine lv_iload_n hx hb dM_badSet_30 rfl (lv_at hl 2 rfl) ?_
                refine lv_imul hx hb dM_badSet_31 ?_
                refine k_toi (y := nI (8 * sx)) (pk_mul _ _) ?_
                refine lv_iload hx hb dM_badSet_32 (lv_at hl 3 rfl) ?_
                refine lv_iadd hx hb dM_badSet_34 ?_
                refine k_toi (y := nI ((8 * sx) + ix)) (nI_add _ _) ?_
                refine k_zald hx hb hK hP 1 rfl (k := (8 * sx) + ix) (by omega) (by decide) dM_badSet_35 ?_
                refine lv_if_eq (tgt := 47) hx hb dM_badSet_36 rfl (fun h36 => ?_) (fun h36 => ?_)
                · have h36 : fb ((8 * sx) + ix) = false := zB_f h36
                  refine lv_lload_n hx hb dM_badSet_47 rfl (lv_at hl 1 rfl) ?_
                  refine lv_lstore_n (lv' := [(1, .long t2), (0, .ref qm), (3, .int (nI sx)), (4, .int (nI ix))]) hx hb dM_badSet_48 rfl hl (by decide) rfl (fun ls hl => ?_)
                  refine lv_iinc (v := nI (ix + 1)) (lv' := [(4, .int (nI (ix + 1))), (1, .long t2), (0, .ref qm), (3, .int (nI sx))]) hx hb dM_badSet_49 hl (k := 3) rfl (nI_add _ 1) (by decide) rfl (fun ls hl => ?_)
                  refine lv_goto (tgt := 15) hx hb dM_badSet_52 rfl ?_
                  have hl : lv_has ls 5 [(0, .ref qm), (1, .long t2), (3, .int (nI sx)), (4, .int (nI (ix + 1)))] := lv_sub hl [2, 1, 3, 0] rfl
                  exact ih15 t2 (ix + 1) _ _ _ (by omega) (by omega) (by rw [it_s, ← ht2]; first | rw [if_pos (show bdF fb sx ix = true from h36)] | rw [if_neg (by rw [show bdF fb sx ix = false from h36]; decide)]) hP hD hS hl
                · have h36 : fb ((8 * sx) + ix) = true := zB_t h36
                  refine lv_lload_n hx hb dM_badSet_39 rfl (lv_at hl 1 rfl) ?_
                  refine lv_lconst (v := 1) hx hb dM_badSet_40 (by decide) ?_
                  refine lv_iload_n hx hb dM_badSet_41 rfl (lv_at hl 2 rfl) ?_
                  refine lv_lshl (v := sg sx) hx hb dM_badSet_42 rfl ?_
                  refine lv_lor hx hb dM_badSet_43 ?_
                  refine lv_goto (tgt := 48) hx hb dM_badSet_44 rfl ?_
                  refine lv_lstore_n (lv' := [(1, .long (t2 ||| (sg sx))), (0, .ref qm), (3, .int (nI sx)), (4, .int (nI ix))]) hx hb dM_badSet_48 rfl hl (by decide) rfl (fun ls hl => ?_)
                  refine lv_iinc (v := nI (ix + 1)) (lv' := [(4, .int (nI (ix + 1))), (1, .long (t2 ||| (sg sx))), (0, .ref qm), (3, .int (nI sx))]) hx hb dM_badSet_49 hl (k := 3) rfl (nI_add _ 1) (by decide) rfl (fun ls hl => ?_)
                  refine lv_goto (tgt := 15) hx hb dM_badSet_52 rfl ?_
                  have hl : lv_has ls 5 [(0, .ref qm), (1, .long (t2 ||| (sg sx))), (3, .int (nI sx)), (4, .int (nI (ix + 1)))] := lv_sub hl [2, 1, 3, 0] rfl
                  exact ih15 (t2 ||| (sg sx)) (ix + 1) _ _ _ (by omega) (by omega) (by rw [it_s, ← ht2]; first | rw [if_pos (show bdF fb sx ix = true from h36)] | rw [if_neg (by rw [show bdF fb sx ix = false from h36]; decide)]) hP hD hS hl
          have hl : lv_has ls 5 [(0, .ref qm), (1, .long t1), (3, .int (nI sx)), (4, .int (nI 0))] := lv_sub hl [1, 2, 3, 0] rfl
          exact loop15 (drw - 0 + 1) t1 0 _ _ _ (by omega) (by omega) rfl hP hD hS hl
    have hl : lv_has ls 5 [(0, .ref qm), (1, .long 0), (3, .int (nI 0))] := lv_sub hl [2, 1, 0] rfl
    exact loop4 (sts - 0 + 1) 0 0 _ _ _ (by omega) (by omega) rfl hP hD hS hl
  rw [hH, hlc] at hgo
  exact hgo
set_option maxRecDepth 100000 in
set_option maxHeartbeats 4000000 in
theorem k_M_post (l : Launch) (G : GG) (sz : Nat) (qm : Nat) (xt : Nat) (xh : Nat) (xi : Nat) (xl : Nat) (xo : Nat) (xg : Nat) (xd : Nat) (xs : Nat) (xn : Nat) (xb : Nat) (xv : Nat) (th : Nat) (ul : Nat) (pt : Nat) (ld : Bool) (stt : Nat) (sts : Nat) (drw : Nat) (bd : Nat) (rd : Nat) (fx : Nat → Nat) (x : Int64) (hz : sts ≤ 64) (hdw : 1 ≤ drw ∧ drw ≤ 8) : Kl l yM_post cM_post 7 0 0 G [.ref qm, .long x] [(qm, .inr (6, [.int (nI th), .int (nI ul), .ref xt, .int (nI pt), .ref xh, .ref xi, .ref xl, .ref xo, .ref xg, .ref xd, .int (zB ld), .ref xs, .int (nI stt), .int (nI sts), .int (nI drw), .ref xn, .ref xb, .ref xv, .int (nI bd), .int (nI rd)])), (xn, aI G 512 fx)] sz (fun (r : Int64) (u : Unit) => ((postOf sts drw (nxF fx)) x = r ∧ () = u)) (fun (u : Unit) => [(qm, .inr (6, [.int (nI th), .int (nI ul), .ref xt, .int (nI pt), .ref xh, .ref xi, .ref xl, .ref xo, .ref xg, .ref xd, .int (zB ld), .ref xs, .int (nI stt), .int (nI sts), .int (nI drw), .ref xn, .ref xb, .ref xv, .int (nI bd), .int (nI rd)])), (xn, aI G 512 fx)]) := by
  refine Met.ofW (cc := cM_post) (maxL := 7) (ret := (some .long)) (by decide) rfl ?_
  intro p e s m args below meth c s₁ B hml hv
  obtain ⟨hav, hsz, hP, hK, hD0, hE⟩ := hv
  have hx := B.exec
  have hb := B.bytes
  have hr := B.returns
  have htb : ∀ w ∈ TB, w.before args s = true := fun w h => atoms_spec (ws := Cond.code yM_post cM_post 7 (some .long) :: TB) B.pre w (List.mem_cons_of_mem _ h)
  have hown : s.vm.findClass "CircuitProverModel" = some m.cls := findClass_of_methodNamed B.named
  have hlocks := B.notSynchronized
  subst hsz
  have hD := hD0.self (sz := s.heap.size)
  clear hD0
  generalize hRm : (headSpec (Cond.code yM_post cM_post 7 (some .long) :: TB) { frames := 0, cells := 0, slots := 0, locals := 0 }).room = R
  have hRf : R.frames = 0 := by rw [← hRm]; rfl
  have hRl : R.locals = 0 := by rw [← hRm]; rfl
  have hRc : R.cells = 0 := by rw [← hRm]; rfl
  have hRs : R.slots = 0 := by rw [← hRm]; rfl
  clear hRm
  generalize hAe : va_A [(qm, .inr (6, [.int (nI th), .int (nI ul), .ref xt, .int (nI pt), .ref xh, .ref xi, .ref xl, .ref xo, .ref xg, .ref xd, .int (zB ld), .ref xs, .int (nI stt), .int (nI sts), .int (nI drw), .ref xn, .ref xb, .ref xv, .int (nI bd), .int (nI rd)])), (xn, aI G 512 fx)] s.heap.size = A at hD hE ⊢
  have hA : ∀ q : Nat, s.heap.size ≤ q → A q := fun q h => by rw [← hAe]; exact Or.inr h
  clear hAe
  have hS : va_S A s.heap s.heap [] := va_S.rf
  have hl := lv_entry ([.ref qm, .long x]) (n := 7) (Nat.le_of_ble_eq_true rfl)
  have hent := lg_entry_eq m ([.ref qm, .long x]) 7
  rw [← hav] at hent
  rw [hent]
  clear hent hav
  generalize (lg_sl ([.ref qm, .long x]) ++ List.replicate (7 - (lg_sl ([.ref qm, .long x])).length) Slot.unset).toArray = ls at hl ⊢
  have hl : lv_has ls 7 [(0, .ref qm), (1, .long x)] := hl
  generalize hQ : MQ below _ args s 0 0 _ = Q
  have hP : va_P (gD G) vC [(qm, .inr (6, [.int (nI th), .int (nI ul), .ref xt, .int (nI pt), .ref xh, .ref xi, .ref xl, .ref xo, .ref xg, .ref xd, .int (zB ld), .ref xs, .int (nI stt), .int (nI sts), .int (nI drw), .ref xn, .ref xb, .ref xv, .int (nI bd), .int (nI rd)])), (xn, aI G 512 fx)] s.heap := hP
  obtain ⟨H, hH⟩ : ∃ H : Heap, H = s.heap := ⟨_, rfl⟩
  obtain ⟨locs, hlc⟩ : ∃ L : List Loc, L = [] := ⟨_, rfl⟩
  have hS : va_S A s.heap H locs := by rw [hH, hlc]; exact hS
  have hP : va_P (gD G) vC [(qm, .inr (6, [.int (nI th), .int (nI ul), .ref xt, .int (nI pt), .ref xh, .ref xi, .ref xl, .ref xo, .ref xg, .ref xd, .int (zB ld), .ref xs, .int (nI stt), .int (nI sts), .int (nI drw), .ref xn, .ref xb, .ref xv, .int (nI bd), .int (nI rd)])), (xn, aI G 512 fx)] H := by rw [hH]; exact hP
  have hgo : W p l e R s m args below meth c H locs 0 0 Q (F0 m 0 ls []) := by
    clear hH hlc
    refine lv_lconst (v := 0) hx hb dM_post_0 (by decide) ?_
    refine lv_lstore_n (lv' := [(3, .long 0), (0, .ref qm), (1, .long x)]) hx hb dM_post_1 rfl hl (by decide) rfl (fun ls hl => ?_)
    refine lv_iconst (v := nI 0) hx hb dM_post_2 (by decide) ?_
    refine lv_istore (lv' := [(5, .int (nI 0)), (3, .long 0), (0, .ref qm), (1, .long x)]) hx hb dM_post_3 hl (by decide) rfl (fun ls hl => ?_)
    have loop5 : ∀ (n : Nat) (t1 : Int64) (sx : Nat) (H : Heap) (locs : List Loc) (ls : Array Slot), sts - sx < n → (sx ≤ sts) → (t1 = it (fun s a => if lb x s = true then it (fun i a => a ||| sg (nxF fx s i)) drw a else a) sx 0) → va_P (gD G) vC [(qm, .inr (6, [.int (nI th), .int (nI ul), .ref xt, .int (nI pt), .ref xh, .ref xi, .ref xl, .ref xo, .ref xg, .ref xd, .int (zB ld), .ref xs, .int (nI stt), .int (nI sts), .int (nI drw), .ref xn, .ref xb, .ref xv, .int (nI bd), .int (nI rd)])), (xn, aI G 512 fx)] H → va_D A [(qm, .inr (6, [.int (nI th), .int (nI ul), .ref xt, .int (nI pt), .ref xh, .ref xi, .ref xl, .ref xo, .ref xg, .ref xd, .int (zB ld), .ref xs, .int (nI stt), .int (nI sts), .int (nI drw), .ref xn, .ref xb, .ref xv, .int (nI bd), .int (nI rd)])), (xn, aI G 512 fx)] → va_S A s.heap H locs → lv_has ls 7 [(0, .ref qm), (1, .long x), (3, .long t1), (5, .int (nI sx))] → W p l e R s m args below meth c H locs 0 0 Q (F0 m 5 ls []) := by
      intro n
      induction n with
      | zero => intro t1 sx H locs ls hmu; omega
      | succ n ih =>
        intro t1 sx H locs ls hmu hsx ht1 hP hD hS hl
        have ih5 := ih
        clear ih
        refine lv_iload hx hb dM_post_5 (lv_at hl 3 rfl) ?_
        refine lv_aload_n hx hb dM_post_7 rfl (lv_at hl 0 rfl) ?_
        refine va_get (D := gD G) (ci := 6) (v := .int (nI sts)) (C := "CircuitProverModel") (T := TM) (N := 20) hx hb htb inM hown hK hP 0 rfl rfl 13 (by decide) (htb _ b684) (fun _ h9 => h9) rfl dM_post_8 ?_
        refine lv_icmp_ge (tgt := 67) hx hb dM_post_11 rfl (fun h11 => ?_) (fun h11 => ?_)
        · have h11 : sts ≤ sx := (nI_leI (a := sts) (b := sx) (by omega) (by omega)).mp h11
          refine lv_lload_n hx hb dM_post_67 rfl (lv_at hl 2 rfl) ?_
          -- end 0
          rw [← hQ]
          exact k_lret hx hb hr hlocks (u := ()) (⟨by rw [ht1, show sx = sts by omega]; rfl, rfl⟩) hP hD hK hS dM_post_68
        · have h11 : sx < sts := Nat.lt_of_not_le (fun z => h11 ((nI_leI (a := sts) (b := sx) (by omega) (by omega)).mpr z))
          refine lv_iconst (v := nI 0) hx hb dM_post_14 (by decide) ?_
          refine lv_istore (lv' := [(6, .int (nI 0)), (0, .ref qm), (1, .long x), (3, .long t1), (5, .int (nI sx))]) hx hb dM_post_15 hl (by decide) rfl (fun ls hl => ?_)
          have loop17 : ∀ (n : Nat) (t2 : Int64) (ix : Nat) (H : Heap) (locs : List Loc) (ls : Array Slot), drw - ix < n → (ix ≤ drw) → (t2 = it (fun i a => a ||| sg (nxF fx sx i)) ix t1 ∧ (ix = 0 ∨ lb x sx = true)) → va_P (gD G) vC [(qm, .inr (6, [.int (nI th), .int (nI ul), .ref xt, .int (nI pt), .ref xh, .ref xi, .ref xl, .ref xo, .ref xg, .ref xd, .int (zB ld), .ref xs, .int (nI stt), .int (nI sts), .int (nI drw), .ref xn, .ref xb, .ref xv, .int (nI bd), .int (nI rd)])), (xn, aI G 512 fx)] H → va_D A [(qm, .inr (6, [.int (nI th), .int (nI ul), .ref xt, .int (nI pt), .ref xh, .ref xi, .ref xl, .ref xo, .ref xg, .ref xd, .int (zB ld), .ref xs, .int (nI stt), .int (nI sts), .int (nI drw), .ref xn, .ref xb, .ref xv, .int (nI bd), .int (nI rd)])), (xn, aI G 512 fx)] → va_S A s.heap H locs → lv_has ls 7 [(0, .ref qm), (1, .long x), (3, .long t2), (5, .int (nI sx)), (6, .int (nI ix))] → W p l e R s m args below meth c H locs 0 0 Q (F0 m 17 ls []) := by
            intro n
            induction n with
            | zero => intro t2 ix H locs ls hmu; omega
            | succ n ih =>
              intro t2 ix H locs ls hmu hix ht2 hP hD hS hl
              have ih17 := ih
              clear ih
              refine lv_iload hx hb dM_post_17 (lv_at hl 4 rfl) ?_
              refine lv_aload_n hx hb dM_post_19 rfl (lv_at hl 0 rfl) ?_
              refine va_get (D := gD G) (ci := 6) (v := .int (nI drw)) (C := "CircuitProverModel") (T := TM) (N := 20) hx hb htb inM hown hK hP 0 rfl rfl 14 (by decide) (htb _ b685) (fun _ h9 => h9) rfl dM_post_20 ?_
              refine lv_icmp_ge (tgt := 61) hx hb dM_post_23 rfl (fun h23 => ?_) (fun h23 => ?_)
              · have h23 : drw ≤ ix := (nI_leI (a := drw) (b := ix) (by omega) (by omega)).mp h23
                refine lv_iinc (v := nI (sx + 1)) (lv' := [(5, .int (nI (sx + 1))), (0, .ref qm), (1, .long x), (3, .long t2), (6, .int (nI ix))]) hx hb dM_post_61 hl (k := 3) rfl (nI_add _ 1) (by decide) rfl (fun ls hl => ?_)
                refine lv_goto (tgt := 5) hx hb dM_post_64 rfl ?_
                have hl : lv_has ls 7 [(0, .ref qm), (1, .long x), (3, .long t2), (5, .int (nI (sx + 1)))] := lv_sub hl [1, 2, 3, 0] rfl
                exact ih5 t2 (sx + 1) _ _ _ (by omega) (by omega) (by rw [it_s, ← ht1]; first | (rw [if_neg (fun z => h34 ((bit_s x (by omega)).mpr z)), ht2.1]; rcases ht2.2 with e9 | e9; (rw [e9]; rfl); exact absurd ((bit_s x (by omega)).mpr e9) h34) | (rw [if_pos (by rcases ht2.2 with e9 | e9; (omega); exact e9), ht2.1, show ix = drw by omega])) hP hD hS hl
              · have h23 : ix < drw := Nat.lt_of_not_le (fun z => h23 ((nI_leI (a := drw) (b := ix) (by omega) (by omega)).mpr z))
                refine lv_lload_n hx hb dM_post_26 rfl (lv_at hl 1 rfl) ?_
                refine lv_iload hx hb dM_post_27 (lv_at hl 3 rfl) ?_
                refine lv_lshr (v := sr x sx) hx hb dM_post_29 rfl ?_
                refine lv_lconst (v := 1) hx hb dM_post_30 (by decide) ?_
                refine lv_land hx hb dM_post_31 ?_
                refine lv_lconst (v := 1) hx hb dM_post_32 (by decide) ?_
                refine W.lcmp hx hb dM_post_33 ?_
                refine lv_if_ne (tgt := 61) hx hb dM_post_34 rfl (fun h34 => ?_) (fun h34 => ?_)
                · have h34 : ¬ ((sr x sx) &&& 1) = 1 := fun z => h34 ((lg_cmp_eq _ _).mpr z)
                  refine lv_iinc (v := nI (sx + 1)) (lv' := [(5, .int (nI (sx + 1))), (0, .ref qm), (1, .long x), (3, .long t2), (6, .int (nI ix))]) hx hb dM_post_61 hl (k := 3) rfl (nI_add _ 1) (by decide) rfl (fun ls hl => ?_)
                  refine lv_goto (tgt := 5) hx hb dM_post_64 rfl ?_
                  have hl : lv_has ls 7 [(0, .ref qm), (1, .long x), (3, .long t2), (5, .int (nI (sx + 1)))] := lv_sub hl [1, 2, 3, 0] rfl
                  exact ih5 t2 (sx + 1) _ _ _ (by omega) (by omega) (by rw [it_s, ← ht1]; first | (rw [if_neg (fun z => h34 ((bit_s x (by omega)).mpr z)), ht2.1]; rcases ht2.2 with e9 | e9; (rw [e9]; rfl); exact absurd ((bit_s x (by omega)).mpr e9) h34) | (rw [if_pos (by rcases ht2.2 with e9 | e9; (omega); exact e9), ht2.1, show ix = drw by omega])) hP hD hS hl
                · have h34 : ((sr x sx) &&& 1) = 1 := (lg_cmp_eq _ _).mp h34
                  refine lv_lload_n hx hb dM_post_37 rfl (lv_at hl 2 rfl) ?_
                  refine lv_lconst (v := 1) hx hb dM_post_38 (by decide) ?_
                  refine lv_aload_n hx hb dM_post_39 rfl (lv_at hl 0 rfl) ?_
                  refine va_get (D := gD G) (ci := 6) (v := .ref xn) (C := "CircuitProverModel") (T := TM) (N := 20) hx hb htb inM hown hK hP 0 rfl rfl 15 (by decide) (htb _ b686) (fun _ h9 => h9) rfl dM_post_40 ?_
                  refine lv_bipush (v := nI 8) hx hb dM_post_43 (by decide) ?_
                  refine lv_iload hx hb dM_post_45 (lv_at hl 3 rfl) ?_
                  refine lv_imul hx hb dM_post_47 ?_
                  refine k_toi (y := nI (8 * sx)) (pk_mul _ _) ?_
                  refine lv_iload hx hb dM_post_48 (lv_at hl 4 rfl) ?_
                  refine lv_iadd hx hb dM_post_50 ?_
                  refine k_toi (y := nI ((8 * sx) + ix)) (nI_add _ _) ?_
                  refine k_iald hx hb hK hP 1 rfl (k := (8 * sx) + ix) (by omega) (by decide) dM_post_51 ?_
                  refine lv_lshl (v := sg (fx ((8 * sx) + ix))) hx hb dM_post_52 rfl ?_
                  refine lv_lor hx hb dM_post_53 ?_
                  refine lv_lstore_n (lv' := [(3, .long (t2 ||| (sg (fx ((8 * sx) + ix))))), (0, .ref qm), (1, .long x), (5, .int (nI sx)), (6, .int (nI ix))]) hx hb dM_post_54 rfl hl (by decide) rfl (fun ls hl => ?_)
                  refine lv_iinc (v := nI (ix + 1)) (lv' := [(6, .int (nI (ix + 1))), (3, .long (t2 ||| (sg (fx ((8 * sx) + ix))))), (0, .ref qm), (1, .long x), (5, .int (nI sx))]) hx hb dM_post_55 hl (k := 4) rfl (nI_add _ 1) (by decide) rfl (fun ls hl => ?_)
                  refine lv_goto (tgt := 17) hx hb dM_post_58 rfl ?_
                  have hl : lv_has ls 7 [(0, .ref qm), (1, .long x), (3, .long (t2 ||| (sg (fx ((8 * sx) + ix))))), (5, .int (nI sx)), (6, .int (nI (ix + 1)))] := lv_sub hl [2, 3, 1, 4, 0] rfl
                  exact ih17 (t2 ||| (sg (fx ((8 * sx) + ix)))) (ix + 1) _ _ _ (by omega) (by omega) (⟨by rw [it_s, ← ht2.1]; rfl, Or.inr ((bit_s x (by omega)).mp h34)⟩) hP hD hS hl
          have hl : lv_has ls 7 [(0, .ref qm), (1, .long x), (3, .long t1), (5, .int (nI sx)), (6, .int (nI 0))] := lv_sub hl [1, 2, 3, 4, 0] rfl
          exact loop17 (drw - 0 + 1) t1 0 _ _ _ (by omega) (by omega) (⟨rfl, Or.inl rfl⟩) hP hD hS hl
    have hl : lv_has ls 7 [(0, .ref qm), (1, .long x), (3, .long 0), (5, .int (nI 0))] := lv_sub hl [2, 3, 1, 0] rfl
    exact loop5 (sts - 0 + 1) 0 0 _ _ _ (by omega) (by omega) rfl hP hD hS hl
  rw [hH, hlc] at hgo
  exact hgo
set_option maxRecDepth 100000 in
set_option maxHeartbeats 4000000 in
theorem k_M_pre (l : Launch) (G : GG) (sz : Nat) (qm : Nat) (xt : Nat) (xh : Nat) (xi : Nat) (xl : Nat) (xo : Nat) (xg : Nat) (xd : Nat) (xs : Nat) (xn : Nat) (xb : Nat) (xv : Nat) (th : Nat) (ul : Nat) (pt : Nat) (ld : Bool) (stt : Nat) (sts : Nat) (drw : Nat) (bd : Nat) (rd : Nat) (fx : Nat → Nat) (x : Int64) (hz : sts ≤ 64) (hdw : 1 ≤ drw ∧ drw ≤ 8) (hn6 : ∀ a b, a < sts → b < drw → fx (8 * a + b) < 64) : Kl l yM_pre cM_pre 7 0 0 G [.ref qm, .long x] [(qm, .inr (6, [.int (nI th), .int (nI ul), .ref xt, .int (nI pt), .ref xh, .ref xi, .ref xl, .ref xo, .ref xg, .ref xd, .int (zB ld), .ref xs, .int (nI stt), .int (nI sts), .int (nI drw), .ref xn, .ref xb, .ref xv, .int (nI bd), .int (nI rd)])), (xn, aI G 512 fx)] sz (fun (r : Int64) (u : Unit) => ((preOf sts drw (nxF fx)) x = r ∧ () = u)) (fun (u : Unit) => [(qm, .inr (6, [.int (nI th), .int (nI ul), .ref xt, .int (nI pt), .ref xh, .ref xi, .ref xl, .ref xo, .ref xg, .ref xd, .int (zB ld), .ref xs, .int (nI stt), .int (nI sts), .int (nI drw), .ref xn, .ref xb, .ref xv, .int (nI bd), .int (nI rd)])), (xn, aI G 512 fx)]) := by
  refine Met.ofW (cc := cM_pre) (maxL := 7) (ret := (some .long)) (by decide) rfl ?_
  intro p e s m args below meth c s₁ B hml hv
  obtain ⟨hav, hsz, hP, hK, hD0, hE⟩ := hv
  have hx := B.exec
  have hb := B.bytes
  have hr := B.returns
  have htb : ∀ w ∈ TB, w.before args s = true := fun w h => atoms_spec (ws := Cond.code yM_pre cM_pre 7 (some .long) :: TB) B.pre w (List.mem_cons_of_mem _ h)
  have hown : s.vm.findClass "CircuitProverModel" = some m.cls := findClass_of_methodNamed B.named
  have hlocks := B.notSynchronized
  subst hsz
  have hD := hD0.self (sz := s.heap.size)
  clear hD0
  generalize hRm : (headSpec (Cond.code yM_pre cM_pre 7 (some .long) :: TB) { frames := 0, cells := 0, slots := 0, locals := 0 }).room = R
  have hRf : R.frames = 0 := by rw [← hRm]; rfl
  have hRl : R.locals = 0 := by rw [← hRm]; rfl
  have hRc : R.cells = 0 := by rw [← hRm]; rfl
  have hRs : R.slots = 0 := by rw [← hRm]; rfl
  clear hRm
  generalize hAe : va_A [(qm, .inr (6, [.int (nI th), .int (nI ul), .ref xt, .int (nI pt), .ref xh, .ref xi, .ref xl, .ref xo, .ref xg, .ref xd, .int (zB ld), .ref xs, .int (nI stt), .int (nI sts), .int (nI drw), .ref xn, .ref xb, .ref xv, .int (nI bd), .int (nI rd)])), (xn, aI G 512 fx)] s.heap.size = A at hD hE ⊢
  have hA : ∀ q : Nat, s.heap.size ≤ q → A q := fun q h => by rw [← hAe]; exact Or.inr h
  clear hAe
  have hS : va_S A s.heap s.heap [] := va_S.rf
  have hl := lv_entry ([.ref qm, .long x]) (n := 7) (Nat.le_of_ble_eq_true rfl)
  have hent := lg_entry_eq m ([.ref qm, .long x]) 7
  rw [← hav] at hent
  rw [hent]
  clear hent hav
  generalize (lg_sl ([.ref qm, .long x]) ++ List.replicate (7 - (lg_sl ([.ref qm, .long x])).length) Slot.unset).toArray = ls at hl ⊢
  have hl : lv_has ls 7 [(0, .ref qm), (1, .long x)] := hl
  generalize hQ : MQ below _ args s 0 0 _ = Q
  have hP : va_P (gD G) vC [(qm, .inr (6, [.int (nI th), .int (nI ul), .ref xt, .int (nI pt), .ref xh, .ref xi, .ref xl, .ref xo, .ref xg, .ref xd, .int (zB ld), .ref xs, .int (nI stt), .int (nI sts), .int (nI drw), .ref xn, .ref xb, .ref xv, .int (nI bd), .int (nI rd)])), (xn, aI G 512 fx)] s.heap := hP
  obtain ⟨H, hH⟩ : ∃ H : Heap, H = s.heap := ⟨_, rfl⟩
  obtain ⟨locs, hlc⟩ : ∃ L : List Loc, L = [] := ⟨_, rfl⟩
  have hS : va_S A s.heap H locs := by rw [hH, hlc]; exact hS
  have hP : va_P (gD G) vC [(qm, .inr (6, [.int (nI th), .int (nI ul), .ref xt, .int (nI pt), .ref xh, .ref xi, .ref xl, .ref xo, .ref xg, .ref xd, .int (zB ld), .ref xs, .int (nI stt), .int (nI sts), .int (nI drw), .ref xn, .ref xb, .ref xv, .int (nI bd), .int (nI rd)])), (xn, aI G 512 fx)] H := by rw [hH]; exact hP
  have hgo : W p l e R s m args below meth c H locs 0 0 Q (F0 m 0 ls []) := by
    clear hH hlc
    refine lv_lconst (v := 0) hx hb dM_pre_0 (by decide) ?_
    refine lv_lstore_n (lv' := [(3, .long 0), (0, .ref qm), (1, .long x)]) hx hb dM_pre_1 rfl hl (by decide) rfl (fun ls hl => ?_)
    refine lv_iconst (v := nI 0) hx hb dM_pre_2 (by decide) ?_
    refine lv_istore (lv' := [(5, .int (nI 0)), (3, .long 0), (0, .ref qm), (1, .long x)]) hx hb dM_pre_3 hl (by decide) rfl (fun ls hl => ?_)
    have loop5 : ∀ (n : Nat) (t1 : Int64) (sx : Nat) (H : Heap) (locs : List Loc) (ls : Array Slot), sts - sx < n → (sx ≤ sts) → (t1 = it (fun s a => it (fun i a => if lb x (nxF fx s i) = true then a ||| sg s else a) drw a) sx 0) → va_P (gD G) vC [(qm, .inr (6, [.int (nI th), .int (nI ul), .ref xt, .int (nI pt), .ref xh, .ref xi, .ref xl, .ref xo, .ref xg, .ref xd, .int (zB ld), .ref xs, .int (nI stt), .int (nI sts), .int (nI drw), .ref xn, .ref xb, .ref xv, .int (nI bd), .int (nI rd)])), (xn, aI G 512 fx)] H → va_D A [(qm, .inr (6, [.int (nI th), .int (nI ul), .ref xt, .int (nI pt), .ref xh, .ref xi, .ref xl, .ref xo, .ref xg, .ref xd, .int (zB ld), .ref xs, .int (nI stt), .int (nI sts), .int (nI drw), .ref xn, .ref xb, .ref xv, .int (nI bd), .int (nI rd)])), (xn, aI G 512 fx)] → va_S A s.heap H locs → lv_has ls 7 [(0, .ref qm), (1, .long x), (3, .long t1), (5, .int (nI sx))] → W p l e R s m args below meth c H locs 0 0 Q (F0 m 5 ls []) := by
      intro n
      induction n with
      | zero => intro t1 sx H locs ls hmu; omega
      | succ n ih =>
        intro t1 sx H locs ls hmu hsx ht1 hP hD hS hl
        have ih5 := ih
        clear ih
        refine lv_iload hx hb dM_pre_5 (lv_at hl 3 rfl) ?_
        refine lv_aload_n hx hb dM_pre_7 rfl (lv_at hl 0 rfl) ?_
        refine va_get (D := gD G) (ci := 6) (v := .int (nI sts)) (C := "CircuitProverModel") (T := TM) (N := 20) hx hb htb inM hown hK hP 0 rfl rfl 13 (by decide) (htb _ b684) (fun _ h9 => h9) rfl dM_pre_8 ?_
        refine lv_icmp_ge (tgt := 71) hx hb dM_pre_11 rfl (fun h11 => ?_) (fun h11 => ?_)
        · have h11 : sts ≤ sx := (nI_leI (a := sts) (b := sx) (by omega) (by omega)).mp h11
          refine lv_lload_n hx hb dM_pre_71 rfl (lv_at hl 2 rfl) ?_
          -- end 0
          rw [← hQ]
          exact k_lret hx hb hr hlocks (u := ()) (⟨by rw [ht1, show sx = sts by omega]; rfl, rfl⟩) hP hD hK hS dM_pre_72
        · have h11 : sx < sts := Nat.lt_of_not_le (fun z => h11 ((nI_leI (a := sts) (b := sx) (by omega) (by omega)).mpr z))
          refine lv_iconst (v := nI 0) hx hb dM_pre_14 (by decide) ?_
          refine lv_istore (lv' := [(6, .int (nI 0)), (0, .ref qm), (1, .long x), (3, .long t1), (5, .int (nI sx))]) hx hb dM_pre_15 hl (by decide) rfl (fun ls hl => ?_)
          have loop17 : ∀ (n : Nat) (t2 : Int64) (ix : Nat) (H : Heap) (locs : List Loc) (ls : Array Slot), drw - ix < n → (ix ≤ drw) → (t2 = it (fun i a => if lb x (nxF fx sx i) = true then a ||| sg sx else a) ix t1) → va_P (gD G) vC [(qm, .inr (6, [.int (nI th), .int (nI ul), .ref xt, .int (nI pt), .ref xh, .ref xi, .ref xl, .ref xo, .ref xg, .ref xd, .int (zB ld), .ref xs, .int (nI stt), .int (nI sts), .int (nI drw), .ref xn, .ref xb, .ref xv, .int (nI bd), .int (nI rd)])), (xn, aI G 512 fx)] H → va_D A [(qm, .inr (6, [.int (nI th), .int (nI ul), .ref xt, .int (nI pt), .ref xh, .ref xi, .ref xl, .ref xo, .ref xg, .ref xd, .int (zB ld), .ref xs, .int (nI stt), .int (nI sts), .int (nI drw), .ref xn, .ref xb, .ref xv, .int (nI bd), .int (nI rd)])), (xn, aI G 512 fx)] → va_S A s.heap H locs → lv_has ls 7 [(0, .ref qm), (1, .long x), (3, .long t2), (5, .int (nI sx)), (6, .int (nI ix))] → W p l e R s m args below meth c H locs 0 0 Q (F0 m 17 ls []) := by
            intro n
            induction n with
            | zero => intro t2 ix H locs ls hmu; omega
            | succ n ih =>
              intro t2 ix H locs ls hmu hix ht2 hP hD hS hl
              have ih17 := ih
              clear ih
              refine lv_iload hx hb dM_pre_17 (lv_at hl 4 rfl) ?_
              refine lv_aload_n hx hb dM_pre_19 rfl (lv_at hl 0 rfl) ?_
              refine va_get (D := gD G) (ci := 6) (v := .int (nI drw)) (C := "CircuitProverModel") (T := TM) (N := 20) hx hb htb inM hown hK hP 0 rfl rfl 14 (by decide) (htb _ b685) (fun _ h9 => h9) rfl dM_pre_20 ?_
              refine lv_icmp_ge (tgt := 65) hx hb dM_pre_23 rfl (fun h23 => ?_) (fun h23 => ?_)
              · have h23 : drw ≤ ix := (nI_leI (a := drw) (b := ix) (by omega) (by omega)).mp h23
                refine lv_iinc (v := nI (sx + 1)) (lv' := [(5, .int (nI (sx + 1))), (0, .ref qm), (1, .long x), (3, .long t2), (6, .int (nI ix))]) hx hb dM_pre_65 hl (k := 3) rfl (nI_add _ 1) (by decide) rfl (fun ls hl => ?_)
                refine lv_goto (tgt := 5) hx hb dM_pre_68 rfl ?_
                have hl : lv_has ls 7 [(0, .ref qm), (1, .long x), (3, .long t2), (5, .int (nI (sx + 1)))] := lv_sub hl [1, 2, 3, 0] rfl
                exact ih5 t2 (sx + 1) _ _ _ (by omega) (by omega) (by rw [it_s, ← ht1, ht2, show ix = drw by omega]) hP hD hS hl
              · have h23 : ix < drw := Nat.lt_of_not_le (fun z => h23 ((nI_leI (a := drw) (b := ix) (by omega) (by omega)).mpr z))
                refine lv_lload_n hx hb dM_pre_26 rfl (lv_at hl 1 rfl) ?_
                refine lv_aload_n hx hb dM_pre_27 rfl (lv_at hl 0 rfl) ?_
                refine va_get (D := gD G) (ci := 6) (v := .ref xn) (C := "CircuitProverModel") (T := TM) (N := 20) hx hb htb inM hown hK hP 0 rfl rfl 15 (by decide) (htb _ b686) (fun _ h9 => h9) rfl dM_pre_28 ?_
                refine lv_bipush (v := nI 8) hx hb dM_pre_31 (by decide) ?_
                refine lv_iload hx hb dM_pre_33 (lv_at hl 3 rfl) ?_
                refine lv_imul hx hb dM_pre_35 ?_
                refine k_toi (y := nI (8 * sx)) (pk_mul _ _) ?_
                refine lv_iload hx hb dM_pre_36 (lv_at hl 4 rfl) ?_
                refine lv_iadd hx hb dM_pre_38 ?_
                refine k_toi (y := nI ((8 * sx) + ix)) (nI_add _ _) ?_
                refine k_iald hx hb hK hP 1 rfl (k := (8 * sx) + ix) (by omega) (by decide) dM_pre_39 ?_
                have hq6 := hn6 sx ix (by omega) (by omega)
                refine lv_lshr (v := sr x (fx ((8 * sx) + ix))) hx hb dM_pre_40 rfl ?_
                refine lv_lconst (v := 1) hx hb dM_pre_41 (by decide) ?_
                refine lv_land hx hb dM_pre_42 ?_
                refine lv_lconst (v := 1) hx hb dM_pre_43 (by decide) ?_
                refine W.lcmp hx hb dM_pre_44 ?_
                refine lv_if_ne (tgt := 57) hx hb dM_pre_45 rfl (fun h45 => ?_) (fun h45 => ?_)
                · have h45 : ¬ ((sr x (fx ((8 * sx) + ix))) &&& 1) = 1 := fun z => h45 ((lg_cmp_eq _ _).mpr z)
                  refine lv_lload_n hx hb dM_pre_57 rfl (lv_at hl 2 rfl) ?_
                  refine lv_lstore_n (lv' := [(3, .long t2), (0, .ref qm), (1, .long x), (5, .int (nI sx)), (6, .int (nI ix))]) hx hb dM_pre_58 rfl hl (by decide) rfl (fun ls hl => ?_)
                  refine lv_iinc (v := nI (ix + 1)) (lv' := [(6, .int (nI (ix + 1))), (3, .long t2), (0, .ref qm), (1, .long x), (5, .int (nI sx))]) hx hb dM_pre_59 hl (k := 4) rfl (nI_add _ 1) (by decide) rfl (fun ls hl => ?_)
                  refine lv_goto (tgt := 17) hx hb dM_pre_62 rfl ?_
                  have hl : lv_has ls 7 [(0, .ref qm), (1, .long x), (3, .long t2), (5, .int (nI sx)), (6, .int (nI (ix + 1)))] := lv_sub hl [2, 3, 1, 4, 0] rfl
                  exact ih17 t2 (ix + 1) _ _ _ (by omega) (by omega) (by rw [it_s, ← ht2]; first | rw [if_pos (show lb x (nxF fx sx ix) = true from (bit_s x (hn6 sx ix (by omega) (by omega))).mp h45)] | rw [if_neg (show ¬ lb x (nxF fx sx ix) = true from fun z => h45 ((bit_s x (hn6 sx ix (by omega) (by omega))).mpr z))]) hP hD hS hl
                · have h45 : ((sr x (fx ((8 * sx) + ix))) &&& 1) = 1 := (lg_cmp_eq _ _).mp h45
                  refine lv_lload_n hx hb dM_pre_48 rfl (lv_at hl 2 rfl) ?_
                  refine lv_lconst (v := 1) hx hb dM_pre_49 (by decide) ?_
                  refine lv_iload hx hb dM_pre_50 (lv_at hl 3 rfl) ?_
                  refine lv_lshl (v := sg sx) hx hb dM_pre_52 rfl ?_
                  refine lv_lor hx hb dM_pre_53 ?_
                  refine lv_goto (tgt := 58) hx hb dM_pre_54 rfl ?_
                  refine lv_lstore_n (lv' := [(3, .long (t2 ||| (sg sx))), (0, .ref qm), (1, .long x), (5, .int (nI sx)), (6, .int (nI ix))]) hx hb dM_pre_58 rfl hl (by decide) rfl (fun ls hl => ?_)
                  refine lv_iinc (v := nI (ix + 1)) (lv' := [(6, .int (nI (ix + 1))), (3, .long (t2 ||| (sg sx))), (0, .ref qm), (1, .long x), (5, .int (nI sx))]) hx hb dM_pre_59 hl (k := 4) rfl (nI_add _ 1) (by decide) rfl (fun ls hl => ?_)
                  refine lv_goto (tgt := 17) hx hb dM_pre_62 rfl ?_
                  have hl : lv_has ls 7 [(0, .ref qm), (1, .long x), (3, .long (t2 ||| (sg sx))), (5, .int (nI sx)), (6, .int (nI (ix + 1)))] := lv_sub hl [2, 3, 1, 4, 0] rfl
                  exact ih17 (t2 ||| (sg sx)) (ix + 1) _ _ _ (by omega) (by omega) (by rw [it_s, ← ht2]; first | rw [if_pos (show lb x (nxF fx sx ix) = true from (bit_s x (hn6 sx ix (by omega) (by omega))).mp h45)] | rw [if_neg (show ¬ lb x (nxF fx sx ix) = true from fun z => h45 ((bit_s x (hn6 sx ix (by omega) (by omega))).mpr z))]) hP hD hS hl
          have hl : lv_has ls 7 [(0, .ref qm), (1, .long x), (3, .long t1), (5, .int (nI sx)), (6, .int (nI 0))] := lv_sub hl [1, 2, 3, 4, 0] rfl
          exact loop17 (drw - 0 + 1) t1 0 _ _ _ (by omega) (by omega) rfl hP hD hS hl
    have hl : lv_has ls 7 [(0, .ref qm), (1, .long x), (3, .long 0), (5, .int (nI 0))] := lv_sub hl [2, 3, 1, 0] rfl
    exact loop5 (sts - 0 + 1) 0 0 _ _ _ (by omega) (by omega) rfl hP hD hS hl
  rw [hH, hlc] at hgo
  exact hgo
set_option maxRecDepth 100000 in
set_option maxHeartbeats 4000000 in
theorem k_M_near (l : Launch) (G : GG) (sz : Nat) (qm : Nat) (xt : Nat) (xh : Nat) (xi : Nat) (xl : Nat) (xo : Nat) (xg : Nat) (xd : Nat) (xs : Nat) (xn : Nat) (xb : Nat) (xv : Nat) (th : Nat) (ul : Nat) (pt : Nat) (ld : Bool) (stt : Nat) (sts : Nat) (drw : Nat) (bd : Nat) (rd : Nat) (fx : Nat → Nat) (fb : Nat → Bool) (n9 : Nat) (hz : sts ≤ 64) (hdw : 1 ≤ drw ∧ drw ≤ 8) (hn6 : ∀ a b, a < sts → b < drw → fx (8 * a + b) < 64) (hn9 : 1 ≤ n9 ∧ n9 ≤ 10001) : Kl l yM_near cM_near 5 1 26 G [.ref qm, .int (nI n9)] [(qm, .inr (6, [.int (nI th), .int (nI ul), .ref xt, .int (nI pt), .ref xh, .ref xi, .ref xl, .ref xo, .ref xg, .ref xd, .int (zB ld), .ref xs, .int (nI stt), .int (nI sts), .int (nI drw), .ref xn, .ref xb, .ref xv, .int (nI bd), .int (nI rd)])), (xn, aI G 512 fx), (xb, aZ G 512 fb)] sz (fun (r : Int64) (u : Unit) => ((nF sts drw (nxF fx) (badOf sts drw (bdF fb))) (n9 - 1) = r ∧ () = u)) (fun (u : Unit) => [(qm, .inr (6, [.int (nI th), .int (nI ul), .ref xt, .int (nI pt), .ref xh, .ref xi, .ref xl, .ref xo, .ref xg, .ref xd, .int (zB ld), .ref xs, .int (nI stt), .int (nI sts), .int (nI drw), .ref xn, .ref xb, .ref xv, .int (nI bd), .int (nI rd)])), (xn, aI G 512 fx), (xb, aZ G 512 fb)]) := by
  refine Met.ofW (cc := cM_near) (maxL := 5) (ret := (some .long)) (by decide) rfl ?_
  intro p e s m args below meth c s₁ B hml hv
  obtain ⟨hav, hsz, hP, hK, hD0, hE⟩ := hv
  have hx := B.exec
  have hb := B.bytes
  have hr := B.returns
  have htb : ∀ w ∈ TB, w.before args s = true := fun w h => atoms_spec (ws := Cond.code yM_near cM_near 5 (some .long) :: TB) B.pre w (List.mem_cons_of_mem _ h)
  have hown : s.vm.findClass "CircuitProverModel" = some m.cls := findClass_of_methodNamed B.named
  have hlocks := B.notSynchronized
  subst hsz
  have hD := hD0.self (sz := s.heap.size)
  clear hD0
  generalize hRm : (headSpec (Cond.code yM_near cM_near 5 (some .long) :: TB) { frames := 1, cells := 0, slots := 0, locals := 26 }).room = R
  have hRf : R.frames = 1 := by rw [← hRm]; rfl
  have hRl : R.locals = 26 := by rw [← hRm]; rfl
  have hRc : R.cells = 0 := by rw [← hRm]; rfl
  have hRs : R.slots = 0 := by rw [← hRm]; rfl
  clear hRm
  generalize hAe : va_A [(qm, .inr (6, [.int (nI th), .int (nI ul), .ref xt, .int (nI pt), .ref xh, .ref xi, .ref xl, .ref xo, .ref xg, .ref xd, .int (zB ld), .ref xs, .int (nI stt), .int (nI sts), .int (nI drw), .ref xn, .ref xb, .ref xv, .int (nI bd), .int (nI rd)])), (xn, aI G 512 fx), (xb, aZ G 512 fb)] s.heap.size = A at hD hE ⊢
  have hA : ∀ q : Nat, s.heap.size ≤ q → A q := fun q h => by rw [← hAe]; exact Or.inr h
  clear hAe
  have hS : va_S A s.heap s.heap [] := va_S.rf
  have hl := lv_entry ([.ref qm, .int (nI n9)]) (n := 5) (Nat.le_of_ble_eq_true rfl)
  have hent := lg_entry_eq m ([.ref qm, .int (nI n9)]) 5
  rw [← hav] at hent
  rw [hent]
  clear hent hav
  generalize (lg_sl ([.ref qm, .int (nI n9)]) ++ List.replicate (5 - (lg_sl ([.ref qm, .int (nI n9)])).length) Slot.unset).toArray = ls at hl ⊢
  have hl : lv_has ls 5 [(0, .ref qm), (1, .int (nI n9))] := hl
  generalize hQ : MQ below _ args s 0 0 _ = Q
  have hP : va_P (gD G) vC [(qm, .inr (6, [.int (nI th), .int (nI ul), .ref xt, .int (nI pt), .ref xh, .ref xi, .ref xl, .ref xo, .ref xg, .ref xd, .int (zB ld), .ref xs, .int (nI stt), .int (nI sts), .int (nI drw), .ref xn, .ref xb, .ref xv, .int (nI bd), .int (nI rd)])), (xn, aI G 512 fx), (xb, aZ G 512 fb)] s.heap := hP
  obtain ⟨H, hH⟩ : ∃ H : Heap, H = s.heap := ⟨_, rfl⟩
  obtain ⟨locs, hlc⟩ : ∃ L : List Loc, L = [] := ⟨_, rfl⟩
  have hS : va_S A s.heap H locs := by rw [hH, hlc]; exact hS
  have hP : va_P (gD G) vC [(qm, .inr (6, [.int (nI th), .int (nI ul), .ref xt, .int (nI pt), .ref xh, .ref xi, .ref xl, .ref xo, .ref xg, .ref xd, .int (zB ld), .ref xs, .int (nI stt), .int (nI sts), .int (nI drw), .ref xn, .ref xb, .ref xv, .int (nI bd), .int (nI rd)])), (xn, aI G 512 fx), (xb, aZ G 512 fb)] H := by rw [hH]; exact hP
  have hgo : W p l e R s m args below meth c H locs 0 0 Q (F0 m 0 ls []) := by
    clear hH hlc
    refine lv_aload_n hx hb dM_near_0 rfl (lv_at hl 0 rfl) ?_
    refine k_l (ws2 := fun u => [(qm, .inr (6, [.int (nI th), .int (nI ul), .ref xt, .int (nI pt), .ref xh, .ref xi, .ref xl, .ref xo, .ref xg, .ref xd, .int (zB ld), .ref xs, .int (nI stt), .int (nI sts), .int (nI drw), .ref xn, .ref xb, .ref xv, .int (nI bd), .int (nI rd)])), (xn, aI G 512 fx), (xb, aZ G 512 fb)]) (wr := [(xn, aI G 512 fx)]) (k_runV (n := 0) (As := []) (rest := []) hx hb hml hown htb hP hD hK hS hA hE (k_M_badSet l G H.size qm xt xh xi xl xo xg xd xs xn xb xv th ul pt ld stt sts drw bd rd fb (show sts ≤ 64 from by omega) (show 1 ≤ drw ∧ drw ≤ 8 from by omega)) b824 b826 s43 b7 b827 (by decide +kernel) rfl rfl ⟨by rw [hRf]; exact Nat.le_of_ble_eq_true rfl, by rw [hRl]; exact Nat.le_of_ble_eq_true rfl⟩ [0, 2] rfl (by decide) 0 rfl rfl rfl rfl hl.1 rfl (Nat.le_of_ble_eq_true rfl) dM_near_1 ⟨Nat.zero_le _, Nat.zero_le _⟩) hP hD hS hA [0, 2] [1] [1, 0, 2] rfl rfl (by decide) (by decide) (fun u => rfl) (by decide) (fun r u H locs hw hP hD hS => ?_)
    obtain ⟨rfl, rfl⟩ := hw
    have hP : va_P (gD G) vC [(qm, .inr (6, [.int (nI th), .int (nI ul), .ref xt, .int (nI pt), .ref xh, .ref xi, .ref xl, .ref xo, .ref xg, .ref xd, .int (zB ld), .ref xs, .int (nI stt), .int (nI sts), .int (nI drw), .ref xn, .ref xb, .ref xv, .int (nI bd), .int (nI rd)])), (xn, aI G 512 fx), (xb, aZ G 512 fb)] H := hP
    have hD : va_D A [(qm, .inr (6, [.int (nI th), .int (nI ul), .ref xt, .int (nI pt), .ref xh, .ref xi, .ref xl, .ref xo, .ref xg, .ref xd, .int (zB ld), .ref xs, .int (nI stt), .int (nI sts), .int (nI drw), .ref xn, .ref xb, .ref xv, .int (nI bd), .int (nI rd)])), (xn, aI G 512 fx), (xb, aZ G 512 fb)] := hD
    refine lv_lstore_n (lv' := [(2, .long (badOf sts drw (bdF fb))), (0, .ref qm), (1, .int (nI n9))]) hx hb dM_near_4 rfl hl (by decide) rfl (fun ls hl => ?_)
    refine lv_iconst (v := nI 1) hx hb dM_near_5 (by decide) ?_
    refine lv_istore (lv' := [(4, .int (nI 1)), (2, .long (badOf sts drw (bdF fb))), (0, .ref qm), (1, .int (nI n9))]) hx hb dM_near_6 hl (by decide) rfl (fun ls hl => ?_)
    have loop8 : ∀ (n : Nat) (t1 : Int64) (k : Nat) (H : Heap) (locs : List Loc) (ls : Array Slot), n9 - k < n → (1 ≤ k ∧ k ≤ n9) → (t1 = (nF sts drw (nxF fx) (badOf sts drw (bdF fb))) (k - 1)) → va_P (gD G) vC [(qm, .inr (6, [.int (nI th), .int (nI ul), .ref xt, .int (nI pt), .ref xh, .ref xi, .ref xl, .ref xo, .ref xg, .ref xd, .int (zB ld), .ref xs, .int (nI stt), .int (nI sts), .int (nI drw), .ref xn, .ref xb, .ref xv, .int (nI bd), .int (nI rd)])), (xn, aI G 512 fx), (xb, aZ G 512 fb)] H → va_D A [(qm, .inr (6, [.int (nI th), .int (nI ul), .ref xt, .int (nI pt), .ref xh, .ref xi, .ref xl, .ref xo, .ref xg, .ref xd, .int (zB ld), .ref xs, .int (nI stt), .int (nI sts), .int (nI drw), .ref xn, .ref xb, .ref xv, .int (nI bd), .int (nI rd)])), (xn, aI G 512 fx), (xb, aZ G 512 fb)] → va_S A s.heap H locs → lv_has ls 5 [(0, .ref qm), (1, .int (nI n9)), (2, .long t1), (4, .int (nI k))] → W p l e R s m args below meth c H locs 0 0 Q (F0 m 8 ls []) := by
      intro n
      induction n with
      | zero => intro t1 k H locs ls hmu; omega
      | succ n ih =>
        intro t1 k H locs ls hmu hk ht hP hD hS hl
        have ih8 := ih
        clear ih
        refine lv_iload hx hb dM_near_8 (lv_at hl 3 rfl) ?_
        refine lv_iload_n hx hb dM_near_10 rfl (lv_at hl 1 rfl) ?_
        refine lv_icmp_ge (tgt := 28) hx hb dM_near_11 rfl (fun h11 => ?_) (fun h11 => ?_)
        · have h11 : n9 ≤ k := (nI_leI (a := n9) (b := k) (by omega) (by omega)).mp h11
          refine lv_lload_n hx hb dM_near_28 rfl (lv_at hl 2 rfl) ?_
          -- end 0
          rw [← hQ]
          exact k_lret hx hb hr hlocks (u := ()) (⟨by rw [ht, show k = n9 by omega], rfl⟩) hP hD hK hS dM_near_29
        · have h11 : k < n9 := Nat.lt_of_not_le (fun z => h11 ((nI_leI (a := n9) (b := k) (by omega) (by omega)).mpr z))
          refine lv_lload_n hx hb dM_near_14 rfl (lv_at hl 2 rfl) ?_
          refine lv_aload_n hx hb dM_near_15 rfl (lv_at hl 0 rfl) ?_
          refine lv_lload_n hx hb dM_near_16 rfl (lv_at hl 2 rfl) ?_
          refine k_l (ws2 := fun u => [(qm, .inr (6, [.int (nI th), .int (nI ul), .ref xt, .int (nI pt), .ref xh, .ref xi, .ref xl, .ref xo, .ref xg, .ref xd, .int (zB ld), .ref xs, .int (nI stt), .int (nI sts), .int (nI drw), .ref xn, .ref xb, .ref xv, .int (nI bd), .int (nI rd)])), (xn, aI G 512 fx), (xb, aZ G 512 fb)]) (wr := [(xb, aZ G 512 fb)]) (k_runV (n := 1) (As := [.long t1]) (rest := [.long t1]) hx hb hml hown htb hP hD hK hS hA hE (k_M_pre l G H.size qm xt xh xi xl xo xg xd xs xn xb xv th ul pt ld stt sts drw bd rd fx t1 (show sts ≤ 64 from by omega) (show 1 ≤ drw ∧ drw ≤ 8 from by omega) (show ∀ a b, a < sts → b < drw → fx (8 * a + b) < 64 from hn6)) b836 b838 s45 b7 b839 (by decide +kernel) rfl rfl ⟨by rw [hRf]; exact Nat.le_of_ble_eq_true rfl, by rw [hRl]; exact Nat.le_of_ble_eq_true rfl⟩ [0, 1] rfl (by decide) 0 rfl rfl rfl rfl hl.1 rfl (Nat.le_of_ble_eq_true rfl) dM_near_17 ⟨Nat.zero_le _, Nat.zero_le _⟩) hP hD hS hA [0, 1] [2] [1, 2, 0] rfl rfl (by decide) (by decide) (fun u => rfl) (by decide) (fun r u H locs hw hP hD hS => ?_)
          obtain ⟨rfl, rfl⟩ := hw
          have hP : va_P (gD G) vC [(qm, .inr (6, [.int (nI th), .int (nI ul), .ref xt, .int (nI pt), .ref xh, .ref xi, .ref xl, .ref xo, .ref xg, .ref xd, .int (zB ld), .ref xs, .int (nI stt), .int (nI sts), .int (nI drw), .ref xn, .ref xb, .ref xv, .int (nI bd), .int (nI rd)])), (xn, aI G 512 fx), (xb, aZ G 512 fb)] H := hP
          have hD : va_D A [(qm, .inr (6, [.int (nI th), .int (nI ul), .ref xt, .int (nI pt), .ref xh, .ref xi, .ref xl, .ref xo, .ref xg, .ref xd, .int (zB ld), .ref xs, .int (nI stt), .int (nI sts), .int (nI drw), .ref xn, .ref xb, .ref xv, .int (nI bd), .int (nI rd)])), (xn, aI G 512 fx), (xb, aZ G 512 fb)] := hD
          refine lv_lor hx hb dM_near_20 ?_
          refine lv_lstore_n (lv' := [(2, .long (t1 ||| ((preOf sts drw (nxF fx)) t1))), (0, .ref qm), (1, .int (nI n9)), (4, .int (nI k))]) hx hb dM_near_21 rfl hl (by decide) rfl (fun ls hl => ?_)
          refine lv_iinc (v := nI (k + 1)) (lv' := [(4, .int (nI (k + 1))), (2, .long (t1 ||| ((preOf sts drw (nxF fx)) t1))), (0, .ref qm), (1, .int (nI n9))]) hx hb dM_near_22 hl (k := 3) rfl (nI_add _ 1) (by decide) rfl (fun ls hl => ?_)
          refine lv_goto (tgt := 8) hx hb dM_near_25 rfl ?_
          have hl : lv_has ls 5 [(0, .ref qm), (1, .int (nI n9)), (2, .long (t1 ||| ((preOf sts drw (nxF fx)) t1))), (4, .int (nI (k + 1)))] := lv_sub hl [2, 3, 1, 0] rfl
          exact ih8 (t1 ||| ((preOf sts drw (nxF fx)) t1)) (k + 1) _ _ _ (by omega) (by omega) (by rw [ht, show k + 1 - 1 = (k - 1) + 1 by omega]; unfold nF; rw [gr_s]) hP hD hS hl
    have hl : lv_has ls 5 [(0, .ref qm), (1, .int (nI n9)), (2, .long (badOf sts drw (bdF fb))), (4, .int (nI 1))] := lv_sub hl [2, 3, 1, 0] rfl
    exact loop8 (n9 - 1 + 1) (badOf sts drw (bdF fb)) 1 _ _ _ (by omega) (by omega) rfl hP hD hS hl
  rw [hH, hlc] at hgo
  exact hgo
set_option maxRecDepth 100000 in
set_option maxHeartbeats 4000000 in
theorem k_M_reached (l : Launch) (G : GG) (sz : Nat) (qm : Nat) (xt : Nat) (xh : Nat) (xi : Nat) (xl : Nat) (xo : Nat) (xg : Nat) (xd : Nat) (xs : Nat) (xn : Nat) (xb : Nat) (xv : Nat) (th : Nat) (ul : Nat) (pt : Nat) (ld : Bool) (stt : Nat) (sts : Nat) (drw : Nat) (bd : Nat) (rd : Nat) (fx : Nat → Nat) (hz : sts ≤ 64) (hdw : 1 ≤ drw ∧ drw ≤ 8) (hst : stt < 64) : Kl l yM_reached cM_reached 4 1 26 G [.ref qm] [(qm, .inr (6, [.int (nI th), .int (nI ul), .ref xt, .int (nI pt), .ref xh, .ref xi, .ref xl, .ref xo, .ref xg, .ref xd, .int (zB ld), .ref xs, .int (nI stt), .int (nI sts), .int (nI drw), .ref xn, .ref xb, .ref xv, .int (nI bd), .int (nI rd)])), (xn, aI G 512 fx)] sz (fun (r : Int64) (u : Unit) => (gr (postOf sts drw (nxF fx)) 64 (sg stt) = r ∧ () = u)) (fun (u : Unit) => [(qm, .inr (6, [.int (nI th), .int (nI ul), .ref xt, .int (nI pt), .ref xh, .ref xi, .ref xl, .ref xo, .ref xg, .ref xd, .int (zB ld), .ref xs, .int (nI stt), .int (nI sts), .int (nI drw), .ref xn, .ref xb, .ref xv, .int (nI bd), .int (nI rd)])), (xn, aI G 512 fx)]) := by
  refine Met.ofW (cc := cM_reached) (maxL := 4) (ret := (some .long)) (by decide) rfl ?_
  intro p e s m args below meth c s₁ B hml hv
  obtain ⟨hav, hsz, hP, hK, hD0, hE⟩ := hv
  have hx := B.exec
  have hb := B.bytes
  have hr := B.returns
  have htb : ∀ w ∈ TB, w.before args s = true := fun w h => atoms_spec (ws := Cond.code yM_reached cM_reached 4 (some .long) :: TB) B.pre w (List.mem_cons_of_mem _ h)
  have hown : s.vm.findClass "CircuitProverModel" = some m.cls := findClass_of_methodNamed B.named
  have hlocks := B.notSynchronized
  subst hsz
  have hD := hD0.self (sz := s.heap.size)
  clear hD0
  generalize hRm : (headSpec (Cond.code yM_reached cM_reached 4 (some .long) :: TB) { frames := 1, cells := 0, slots := 0, locals := 26 }).room = R
  have hRf : R.frames = 1 := by rw [← hRm]; rfl
  have hRl : R.locals = 26 := by rw [← hRm]; rfl
  have hRc : R.cells = 0 := by rw [← hRm]; rfl
  have hRs : R.slots = 0 := by rw [← hRm]; rfl
  clear hRm
  generalize hAe : va_A [(qm, .inr (6, [.int (nI th), .int (nI ul), .ref xt, .int (nI pt), .ref xh, .ref xi, .ref xl, .ref xo, .ref xg, .ref xd, .int (zB ld), .ref xs, .int (nI stt), .int (nI sts), .int (nI drw), .ref xn, .ref xb, .ref xv, .int (nI bd), .int (nI rd)])), (xn, aI G 512 fx)] s.heap.size = A at hD hE ⊢
  have hA : ∀ q : Nat, s.heap.size ≤ q → A q := fun q h => by rw [← hAe]; exact Or.inr h
  clear hAe
  have hS : va_S A s.heap s.heap [] := va_S.rf
  have hl := lv_entry ([.ref qm]) (n := 4) (Nat.le_of_ble_eq_true rfl)
  have hent := lg_entry_eq m ([.ref qm]) 4
  rw [← hav] at hent
  rw [hent]
  clear hent hav
  generalize (lg_sl ([.ref qm]) ++ List.replicate (4 - (lg_sl ([.ref qm])).length) Slot.unset).toArray = ls at hl ⊢
  have hl : lv_has ls 4 [(0, .ref qm)] := hl
  generalize hQ : MQ below _ args s 0 0 _ = Q
  have hP : va_P (gD G) vC [(qm, .inr (6, [.int (nI th), .int (nI ul), .ref xt, .int (nI pt), .ref xh, .ref xi, .ref xl, .ref xo, .ref xg, .ref xd, .int (zB ld), .ref xs, .int (nI stt), .int (nI sts), .int (nI drw), .ref xn, .ref xb, .ref xv, .int (nI bd), .int (nI rd)])), (xn, aI G 512 fx)] s.heap := hP
  obtain ⟨H, hH⟩ : ∃ H : Heap, H = s.heap := ⟨_, rfl⟩
  obtain ⟨locs, hlc⟩ : ∃ L : List Loc, L = [] := ⟨_, rfl⟩
  have hS : va_S A s.heap H locs := by rw [hH, hlc]; exact hS
  have hP : va_P (gD G) vC [(qm, .inr (6, [.int (nI th), .int (nI ul), .ref xt, .int (nI pt), .ref xh, .ref xi, .ref xl, .ref xo, .ref xg, .ref xd, .int (zB ld), .ref xs, .int (nI stt), .int (nI sts), .int (nI drw), .ref xn, .ref xb, .ref xv, .int (nI bd), .int (nI rd)])), (xn, aI G 512 fx)] H := by rw [hH]; exact hP
  have hgo : W p l e R s m args below meth c H locs 0 0 Q (F0 m 0 ls []) := by
    clear hH hlc
    refine lv_lconst (v := 1) hx hb dM_reached_0 (by decide) ?_
    refine lv_aload_n hx hb dM_reached_1 rfl (lv_at hl 0 rfl) ?_
    refine va_get (D := gD G) (ci := 6) (v := .int (nI stt)) (C := "CircuitProverModel") (T := TM) (N := 20) hx hb htb inM hown hK hP 0 rfl rfl 12 (by decide) (htb _ b683) (fun _ h9 => h9) rfl dM_reached_2 ?_
    refine lv_lshl (v := sg stt) hx hb dM_reached_5 rfl ?_
    refine lv_lstore_n (lv' := [(1, .long (sg stt)), (0, .ref qm)]) hx hb dM_reached_6 rfl hl (by decide) rfl (fun ls hl => ?_)
    refine lv_iconst (v := nI 0) hx hb dM_reached_7 (by decide) ?_
    refine lv_istore_n (lv' := [(3, .int (nI 0)), (1, .long (sg stt)), (0, .ref qm)]) hx hb dM_reached_8 rfl hl (by decide) rfl (fun ls hl => ?_)
    have loop9 : ∀ (n : Nat) (t1 : Int64) (k : Nat) (H : Heap) (locs : List Loc) (ls : Array Slot), 64 - k < n → (k ≤ 64) → (t1 = gr (postOf sts drw (nxF fx)) k (sg stt)) → va_P (gD G) vC [(qm, .inr (6, [.int (nI th), .int (nI ul), .ref xt, .int (nI pt), .ref xh, .ref xi, .ref xl, .ref xo, .ref xg, .ref xd, .int (zB ld), .ref xs, .int (nI stt), .int (nI sts), .int (nI drw), .ref xn, .ref xb, .ref xv, .int (nI bd), .int (nI rd)])), (xn, aI G 512 fx)] H → va_D A [(qm, .inr (6, [.int (nI th), .int (nI ul), .ref xt, .int (nI pt), .ref xh, .ref xi, .ref xl, .ref xo, .ref xg, .ref xd, .int (zB ld), .ref xs, .int (nI stt), .int (nI sts), .int (nI drw), .ref xn, .ref xb, .ref xv, .int (nI bd), .int (nI rd)])), (xn, aI G 512 fx)] → va_S A s.heap H locs → lv_has ls 4 [(0, .ref qm), (1, .long t1), (3, .int (nI k))] → W p l e R s m args below meth c H locs 0 0 Q (F0 m 9 ls []) := by
      intro n
      induction n with
      | zero => intro t1 k H locs ls hmu; omega
      | succ n ih =>
        intro t1 k H locs ls hmu hk ht hP hD hS hl
        have ih9 := ih
        clear ih
        refine lv_iload_n hx hb dM_reached_9 rfl (lv_at hl 2 rfl) ?_
        refine lv_bipush (v := nI 64) hx hb dM_reached_10 (by decide) ?_
        refine lv_icmp_ge (tgt := 29) hx hb dM_reached_12 rfl (fun h12 => ?_) (fun h12 => ?_)
        · have h12 : 64 ≤ k := (nI_leI (a := 64) (b := k) (by omega) (by omega)).mp h12
          refine lv_lload_n hx hb dM_reached_29 rfl (lv_at hl 1 rfl) ?_
          -- end 0
          rw [← hQ]
          exact k_lret hx hb hr hlocks (u := ()) (⟨by rw [ht, show k = 64 by omega], rfl⟩) hP hD hK hS dM_reached_30
        · have h12 : k < 64 := Nat.lt_of_not_le (fun z => h12 ((nI_leI (a := 64) (b := k) (by omega) (by omega)).mpr z))
          refine lv_lload_n hx hb dM_reached_15 rfl (lv_at hl 1 rfl) ?_
          refine lv_aload_n hx hb dM_reached_16 rfl (lv_at hl 0 rfl) ?_
          refine lv_lload_n hx hb dM_reached_17 rfl (lv_at hl 1 rfl) ?_
          refine k_l (ws2 := fun u => [(qm, .inr (6, [.int (nI th), .int (nI ul), .ref xt, .int (nI pt), .ref xh, .ref xi, .ref xl, .ref xo, .ref xg, .ref xd, .int (zB ld), .ref xs, .int (nI stt), .int (nI sts), .int (nI drw), .ref xn, .ref xb, .ref xv, .int (nI bd), .int (nI rd)])), (xn, aI G 512 fx)]) (wr := []) (k_runV (n := 1) (As := [.long t1]) (rest := [.long t1]) hx hb hml hown htb hP hD hK hS hA hE (k_M_post l G H.size qm xt xh xi xl xo xg xd xs xn xb xv th ul pt ld stt sts drw bd rd fx t1 (show sts ≤ 64 from by omega) (show 1 ≤ drw ∧ drw ≤ 8 from by omega)) b820 b822 s42 b7 b823 (by decide +kernel) rfl rfl ⟨by rw [hRf]; exact Nat.le_of_ble_eq_true rfl, by rw [hRl]; exact Nat.le_of_ble_eq_true rfl⟩ [0, 1] rfl (by decide) 0 rfl rfl rfl rfl hl.1 rfl (Nat.le_of_ble_eq_true rfl) dM_reached_18 ⟨Nat.zero_le _, Nat.zero_le _⟩) hP hD hS hA [0, 1] [] [0, 1] rfl rfl (by decide) (by decide) (fun u => rfl) (by decide) (fun r u H locs hw hP hD hS => ?_)
          obtain ⟨rfl, rfl⟩ := hw
          have hP : va_P (gD G) vC [(qm, .inr (6, [.int (nI th), .int (nI ul), .ref xt, .int (nI pt), .ref xh, .ref xi, .ref xl, .ref xo, .ref xg, .ref xd, .int (zB ld), .ref xs, .int (nI stt), .int (nI sts), .int (nI drw), .ref xn, .ref xb, .ref xv, .int (nI bd), .int (nI rd)])), (xn, aI G 512 fx)] H := hP
          have hD : va_D A [(qm, .inr (6, [.int (nI th), .int (nI ul), .ref xt, .int (nI pt), .ref xh, .ref xi, .ref xl, .ref xo, .ref xg, .ref xd, .int (zB ld), .ref xs, .int (nI stt), .int (nI sts), .int (nI drw), .ref xn, .ref xb, .ref xv, .int (nI bd), .int (nI rd)])), (xn, aI G 512 fx)] := hD
          refine lv_lor hx hb dM_reached_21 ?_
          refine lv_lstore_n (lv' := [(1, .long (t1 ||| ((postOf sts drw (nxF fx)) t1))), (0, .ref qm), (3, .int (nI k))]) hx hb dM_reached_22 rfl hl (by decide) rfl (fun ls hl => ?_)
          refine lv_iinc (v := nI (k + 1)) (lv' := [(3, .int (nI (k + 1))), (1, .long (t1 ||| ((postOf sts drw (nxF fx)) t1))), (0, .ref qm)]) hx hb dM_reached_23 hl (k := 2) rfl (nI_add _ 1) (by decide) rfl (fun ls hl => ?_)
          refine lv_goto (tgt := 9) hx hb dM_reached_26 rfl ?_
          have hl : lv_has ls 4 [(0, .ref qm), (1, .long (t1 ||| ((postOf sts drw (nxF fx)) t1))), (3, .int (nI (k + 1)))] := lv_sub hl [2, 1, 0] rfl
          exact ih9 (t1 ||| ((postOf sts drw (nxF fx)) t1)) (k + 1) _ _ _ (by omega) (by omega) (by rw [gr_s, ← ht]) hP hD hS hl
    have hl : lv_has ls 4 [(0, .ref qm), (1, .long (sg stt)), (3, .int (nI 0))] := lv_sub hl [2, 1, 0] rfl
    exact loop9 (64 - 0 + 1) (sg stt) 0 _ _ _ (by omega) (by omega) rfl hP hD hS hl
  rw [hH, hlc] at hgo
  exact hgo
set_option maxRecDepth 100000 in
set_option maxHeartbeats 4000000 in
theorem k_M_isSafe (l : Launch) (G : GG) (sz : Nat) (qm : Nat) (xt : Nat) (xh : Nat) (xi : Nat) (xl : Nat) (xo : Nat) (xg : Nat) (xd : Nat) (xs : Nat) (xn : Nat) (xb : Nat) (xv : Nat) (th : Nat) (ul : Nat) (pt : Nat) (ld : Bool) (stt : Nat) (sts : Nat) (drw : Nat) (bd : Nat) (rd : Nat) (fx : Nat → Nat) (fb : Nat → Bool) (hz : sts ≤ 64) (hdw : 1 ≤ drw ∧ drw ≤ 8) (hst : stt < 64) : Ki l yM_isSafe cM_isSafe 1 .boolean 2 49 G [.ref qm] [(qm, .inr (6, [.int (nI th), .int (nI ul), .ref xt, .int (nI pt), .ref xh, .ref xi, .ref xl, .ref xo, .ref xg, .ref xd, .int (zB ld), .ref xs, .int (nI stt), .int (nI sts), .int (nI drw), .ref xn, .ref xb, .ref xv, .int (nI bd), .int (nI rd)])), (xn, aI G 512 fx), (xb, aZ G 512 fb)] sz (fun (r : Int32) (u : Unit) => ((gr (postOf sts drw (nxF fx)) 64 (sg stt) &&& (badOf sts drw (bdF fb))) = 0 ∧ nI 1 = r ∧ () = u) ∨ (¬ (gr (postOf sts drw (nxF fx)) 64 (sg stt) &&& (badOf sts drw (bdF fb))) = 0 ∧ nI 0 = r ∧ () = u)) (fun (u : Unit) => [(qm, .inr (6, [.int (nI th), .int (nI ul), .ref xt, .int (nI pt), .ref xh, .ref xi, .ref xl, .ref xo, .ref xg, .ref xd, .int (zB ld), .ref xs, .int (nI stt), .int (nI sts), .int (nI drw), .ref xn, .ref xb, .ref xv, .int (nI bd), .int (nI rd)])), (xn, aI G 512 fx), (xb, aZ G 512 fb)]) := by
  refine Met.ofW (cc := cM_isSafe) (maxL := 1) (ret := (some .boolean)) (by decide) rfl ?_
  intro p e s m args below meth c s₁ B hml hv
  obtain ⟨hav, hsz, hP, hK, hD0, hE⟩ := hv
  have hx := B.exec
  have hb := B.bytes
  have hr := B.returns
  have htb : ∀ w ∈ TB, w.before args s = true := fun w h => atoms_spec (ws := Cond.code yM_isSafe cM_isSafe 1 (some .boolean) :: TB) B.pre w (List.mem_cons_of_mem _ h)
  have hown : s.vm.findClass "CircuitProverModel" = some m.cls := findClass_of_methodNamed B.named
  have hlocks := B.notSynchronized
  subst hsz
  have hD := hD0.self (sz := s.heap.size)
  clear hD0
  generalize hRm : (headSpec (Cond.code yM_isSafe cM_isSafe 1 (some .boolean) :: TB) { frames := 2, cells := 0, slots := 0, locals := 49 }).room = R
  have hRf : R.frames = 2 := by rw [← hRm]; rfl
  have hRl : R.locals = 49 := by rw [← hRm]; rfl
  have hRc : R.cells = 0 := by rw [← hRm]; rfl
  have hRs : R.slots = 0 := by rw [← hRm]; rfl
  clear hRm
  generalize hAe : va_A [(qm, .inr (6, [.int (nI th), .int (nI ul), .ref xt, .int (nI pt), .ref xh, .ref xi, .ref xl, .ref xo, .ref xg, .ref xd, .int (zB ld), .ref xs, .int (nI stt), .int (nI sts), .int (nI drw), .ref xn, .ref xb, .ref xv, .int (nI bd), .int (nI rd)])), (xn, aI G 512 fx), (xb, aZ G 512 fb)] s.heap.size = A at hD hE ⊢
  have hA : ∀ q : Nat, s.heap.size ≤ q → A q := fun q h => by rw [← hAe]; exact Or.inr h
  clear hAe
  have hS : va_S A s.heap s.heap [] := va_S.rf
  have hl := lv_entry ([.ref qm]) (n := 1) (Nat.le_of_ble_eq_true rfl)
  have hent := lg_entry_eq m ([.ref qm]) 1
  rw [← hav] at hent
  rw [hent]
  clear hent hav
  generalize (lg_sl ([.ref qm]) ++ List.replicate (1 - (lg_sl ([.ref qm])).length) Slot.unset).toArray = ls at hl ⊢
  have hl : lv_has ls 1 [(0, .ref qm)] := hl
  generalize hQ : MQ below _ args s 0 0 _ = Q
  have hP : va_P (gD G) vC [(qm, .inr (6, [.int (nI th), .int (nI ul), .ref xt, .int (nI pt), .ref xh, .ref xi, .ref xl, .ref xo, .ref xg, .ref xd, .int (zB ld), .ref xs, .int (nI stt), .int (nI sts), .int (nI drw), .ref xn, .ref xb, .ref xv, .int (nI bd), .int (nI rd)])), (xn, aI G 512 fx), (xb, aZ G 512 fb)] s.heap := hP
  obtain ⟨H, hH⟩ : ∃ H : Heap, H = s.heap := ⟨_, rfl⟩
  obtain ⟨locs, hlc⟩ : ∃ L : List Loc, L = [] := ⟨_, rfl⟩
  have hS : va_S A s.heap H locs := by rw [hH, hlc]; exact hS
  have hP : va_P (gD G) vC [(qm, .inr (6, [.int (nI th), .int (nI ul), .ref xt, .int (nI pt), .ref xh, .ref xi, .ref xl, .ref xo, .ref xg, .ref xd, .int (zB ld), .ref xs, .int (nI stt), .int (nI sts), .int (nI drw), .ref xn, .ref xb, .ref xv, .int (nI bd), .int (nI rd)])), (xn, aI G 512 fx), (xb, aZ G 512 fb)] H := by rw [hH]; exact hP
  have hgo : W p l e R s m args below meth c H locs 0 0 Q (F0 m 0 ls []) := by
    clear hH hlc
    refine lv_aload_n hx hb dM_isSafe_0 rfl (lv_at hl 0 rfl) ?_
    refine k_l (ws2 := fun u => [(qm, .inr (6, [.int (nI th), .int (nI ul), .ref xt, .int (nI pt), .ref xh, .ref xi, .ref xl, .ref xo, .ref xg, .ref xd, .int (zB ld), .ref xs, .int (nI stt), .int (nI sts), .int (nI drw), .ref xn, .ref xb, .ref xv, .int (nI bd), .int (nI rd)])), (xn, aI G 512 fx), (xb, aZ G 512 fb)]) (wr := [(xb, aZ G 512 fb)]) (k_runV (n := 0) (As := []) (rest := []) hx hb hml hown htb hP hD hK hS hA hE (k_M_reached l G H.size qm xt xh xi xl xo xg xd xs xn xb xv th ul pt ld stt sts drw bd rd fx (show sts ≤ 64 from by omega) (show 1 ≤ drw ∧ drw ≤ 8 from by omega) (show stt < 64 from by omega)) b816 b818 s41 b7 b819 (by decide +kernel) rfl rfl ⟨by rw [hRf]; exact Nat.le_of_ble_eq_true rfl, by rw [hRl]; exact Nat.le_of_ble_eq_true rfl⟩ [0, 1] rfl (by decide) 0 rfl rfl rfl rfl hl.1 rfl (Nat.le_of_ble_eq_true rfl) dM_isSafe_1 ⟨Nat.zero_le _, Nat.zero_le _⟩) hP hD hS hA [0, 1] [2] [1, 2, 0] rfl rfl (by decide) (by decide) (fun u => rfl) (by decide) (fun r u H locs hw hP hD hS => ?_)
    obtain ⟨rfl, rfl⟩ := hw
    have hP : va_P (gD G) vC [(qm, .inr (6, [.int (nI th), .int (nI ul), .ref xt, .int (nI pt), .ref xh, .ref xi, .ref xl, .ref xo, .ref xg, .ref xd, .int (zB ld), .ref xs, .int (nI stt), .int (nI sts), .int (nI drw), .ref xn, .ref xb, .ref xv, .int (nI bd), .int (nI rd)])), (xn, aI G 512 fx), (xb, aZ G 512 fb)] H := hP
    have hD : va_D A [(qm, .inr (6, [.int (nI th), .int (nI ul), .ref xt, .int (nI pt), .ref xh, .ref xi, .ref xl, .ref xo, .ref xg, .ref xd, .int (zB ld), .ref xs, .int (nI stt), .int (nI sts), .int (nI drw), .ref xn, .ref xb, .ref xv, .int (nI bd), .int (nI rd)])), (xn, aI G 512 fx), (xb, aZ G 512 fb)] := hD
    refine lv_aload_n hx hb dM_isSafe_4 rfl (lv_at hl 0 rfl) ?_
    refine k_l (ws2 := fun u => [(qm, .inr (6, [.int (nI th), .int (nI ul), .ref xt, .int (nI pt), .ref xh, .ref xi, .ref xl, .ref xo, .ref xg, .ref xd, .int (zB ld), .ref xs, .int (nI stt), .int (nI sts), .int (nI drw), .ref xn, .ref xb, .ref xv, .int (nI bd), .int (nI rd)])), (xn, aI G 512 fx), (xb, aZ G 512 fb)]) (wr := [(xn, aI G 512 fx)]) (k_runV (n := 0) (As := []) (rest := [.long (gr (postOf sts drw (nxF fx)) 64 (sg stt))]) hx hb hml hown htb hP hD hK hS hA hE (k_M_badSet l G H.size qm xt xh xi xl xo xg xd xs xn xb xv th ul pt ld stt sts drw bd rd fb (show sts ≤ 64 from by omega) (show 1 ≤ drw ∧ drw ≤ 8 from by omega)) b824 b826 s43 b7 b827 (by decide +kernel) rfl rfl ⟨by rw [hRf]; exact Nat.le_of_ble_eq_true rfl, by rw [hRl]; exact Nat.le_of_ble_eq_true rfl⟩ [0, 2] rfl (by decide) 0 rfl rfl rfl rfl hl.1 rfl (Nat.le_of_ble_eq_true rfl) dM_isSafe_5 ⟨Nat.zero_le _, Nat.zero_le _⟩) hP hD hS hA [0, 2] [1] [1, 0, 2] rfl rfl (by decide) (by decide) (fun u => rfl) (by decide) (fun r u H locs hw hP hD hS => ?_)
    obtain ⟨rfl, rfl⟩ := hw
    have hP : va_P (gD G) vC [(qm, .inr (6, [.int (nI th), .int (nI ul), .ref xt, .int (nI pt), .ref xh, .ref xi, .ref xl, .ref xo, .ref xg, .ref xd, .int (zB ld), .ref xs, .int (nI stt), .int (nI sts), .int (nI drw), .ref xn, .ref xb, .ref xv, .int (nI bd), .int (nI rd)])), (xn, aI G 512 fx), (xb, aZ G 512 fb)] H := hP
    have hD : va_D A [(qm, .inr (6, [.int (nI th), .int (nI ul), .ref xt, .int (nI pt), .ref xh, .ref xi, .ref xl, .ref xo, .ref xg, .ref xd, .int (zB ld), .ref xs, .int (nI stt), .int (nI sts), .int (nI drw), .ref xn, .ref xb, .ref xv, .int (nI bd), .int (nI rd)])), (xn, aI G 512 fx), (xb, aZ G 512 fb)] := hD
    refine lv_land hx hb dM_isSafe_8 ?_
    refine lv_lconst (v := 0) hx hb dM_isSafe_9 (by decide) ?_
    refine W.lcmp hx hb dM_isSafe_10 ?_
    refine lv_if_ne (tgt := 18) hx hb dM_isSafe_11 rfl (fun h11 => ?_) (fun h11 => ?_)
    · have h11 : ¬ ((gr (postOf sts drw (nxF fx)) 64 (sg stt)) &&& (badOf sts drw (bdF fb))) = 0 := fun z => h11 ((lg_cmp_eq _ _).mpr z)
      refine lv_iconst (v := nI 0) hx hb dM_isSafe_18 (by decide) ?_
      -- end 0
      rw [← hQ]
      exact k_iret hx hb hr hlocks (by decide) (u := ()) (Or.inr ⟨h11, rfl, rfl⟩) hP hD hK hS dM_isSafe_19
    · have h11 : ((gr (postOf sts drw (nxF fx)) 64 (sg stt)) &&& (badOf sts drw (bdF fb))) = 0 := (lg_cmp_eq _ _).mp h11
      refine lv_iconst (v := nI 1) hx hb dM_isSafe_14 (by decide) ?_
      refine lv_goto (tgt := 19) hx hb dM_isSafe_15 rfl ?_
      -- end 1
      rw [← hQ]
      exact k_iret hx hb hr hlocks (by decide) (u := ()) (Or.inl ⟨h11, rfl, rfl⟩) hP hD hK hS dM_isSafe_19
  rw [hH, hlc] at hgo
  exact hgo
set_option maxRecDepth 100000 in
set_option maxHeartbeats 4000000 in
theorem k_M_distance (l : Launch) (G : GG) (sz : Nat) (qm : Nat) (xt : Nat) (xh : Nat) (xi : Nat) (xl : Nat) (xo : Nat) (xg : Nat) (xd : Nat) (xs : Nat) (xn : Nat) (xb : Nat) (xv : Nat) (th : Nat) (ul : Nat) (pt : Nat) (ld : Bool) (stt : Nat) (sts : Nat) (drw : Nat) (bd : Nat) (rd : Nat) (fx : Nat → Nat) (fb : Nat → Bool) (x : Nat) (hz : sts ≤ 64) (hdw : 1 ≤ drw ∧ drw ≤ 8) (hn6 : ∀ a b, a < sts → b < drw → fx (8 * a + b) < 64) (hx6 : x < 64) : Ki l yM_distance cM_distance 5 .int 1 26 G [.ref qm, .int (nI x)] [(qm, .inr (6, [.int (nI th), .int (nI ul), .ref xt, .int (nI pt), .ref xh, .ref xi, .ref xl, .ref xo, .ref xg, .ref xd, .int (zB ld), .ref xs, .int (nI stt), .int (nI sts), .int (nI drw), .ref xn, .ref xb, .ref xv, .int (nI bd), .int (nI rd)])), (xn, aI G 512 fx), (xb, aZ G 512 fb)] sz (fun (r : Int32) (u : Unit) => (nI (lst (fun j => lb ((nF sts drw (nxF fx) (badOf sts drw (bdF fb))) j) x) 64) = r ∧ () = u)) (fun (u : Unit) => [(qm, .inr (6, [.int (nI th), .int (nI ul), .ref xt, .int (nI pt), .ref xh, .ref xi, .ref xl, .ref xo, .ref xg, .ref xd, .int (zB ld), .ref xs, .int (nI stt), .int (nI sts), .int (nI drw), .ref xn, .ref xb, .ref xv, .int (nI bd), .int (nI rd)])), (xn, aI G 512 fx), (xb, aZ G 512 fb)]) := by
  refine Met.ofW (cc := cM_distance) (maxL := 5) (ret := (some .int)) (by decide) rfl ?_
  intro p e s m args below meth c s₁ B hml hv
  obtain ⟨hav, hsz, hP, hK, hD0, hE⟩ := hv
  have hx := B.exec
  have hb := B.bytes
  have hr := B.returns
  have htb : ∀ w ∈ TB, w.before args s = true := fun w h => atoms_spec (ws := Cond.code yM_distance cM_distance 5 (some .int) :: TB) B.pre w (List.mem_cons_of_mem _ h)
  have hown : s.vm.findClass "CircuitProverModel" = some m.cls := findClass_of_methodNamed B.named
  have hlocks := B.notSynchronized
  subst hsz
  have hD := hD0.self (sz := s.heap.size)
  clear hD0
  generalize hRm : (headSpec (Cond.code yM_distance cM_distance 5 (some .int) :: TB) { frames := 1, cells := 0, slots := 0, locals := 26 }).room = R
  have hRf : R.frames = 1 := by rw [← hRm]; rfl
  have hRl : R.locals = 26 := by rw [← hRm]; rfl
  have hRc : R.cells = 0 := by rw [← hRm]; rfl
  have hRs : R.slots = 0 := by rw [← hRm]; rfl
  clear hRm
  generalize hAe : va_A [(qm, .inr (6, [.int (nI th), .int (nI ul), .ref xt, .int (nI pt), .ref xh, .ref xi, .ref xl, .ref xo, .ref xg, .ref xd, .int (zB ld), .ref xs, .int (nI stt), .int (nI sts), .int (nI drw), .ref xn, .ref xb, .ref xv, .int (nI bd), .int (nI rd)])), (xn, aI G 512 fx), (xb, aZ G 512 fb)] s.heap.size = A at hD hE ⊢
  have hA : ∀ q : Nat, s.heap.size ≤ q → A q := fun q h => by rw [← hAe]; exact Or.inr h
  clear hAe
  have hS : va_S A s.heap s.heap [] := va_S.rf
  have hl := lv_entry ([.ref qm, .int (nI x)]) (n := 5) (Nat.le_of_ble_eq_true rfl)
  have hent := lg_entry_eq m ([.ref qm, .int (nI x)]) 5
  rw [← hav] at hent
  rw [hent]
  clear hent hav
  generalize (lg_sl ([.ref qm, .int (nI x)]) ++ List.replicate (5 - (lg_sl ([.ref qm, .int (nI x)])).length) Slot.unset).toArray = ls at hl ⊢
  have hl : lv_has ls 5 [(0, .ref qm), (1, .int (nI x))] := hl
  generalize hQ : MQ below _ args s 0 0 _ = Q
  have hP : va_P (gD G) vC [(qm, .inr (6, [.int (nI th), .int (nI ul), .ref xt, .int (nI pt), .ref xh, .ref xi, .ref xl, .ref xo, .ref xg, .ref xd, .int (zB ld), .ref xs, .int (nI stt), .int (nI sts), .int (nI drw), .ref xn, .ref xb, .ref xv, .int (nI bd), .int (nI rd)])), (xn, aI G 512 fx), (xb, aZ G 512 fb)] s.heap := hP
  obtain ⟨H, hH⟩ : ∃ H : Heap, H = s.heap := ⟨_, rfl⟩
  obtain ⟨locs, hlc⟩ : ∃ L : List Loc, L = [] := ⟨_, rfl⟩
  have hS : va_S A s.heap H locs := by rw [hH, hlc]; exact hS
  have hP : va_P (gD G) vC [(qm, .inr (6, [.int (nI th), .int (nI ul), .ref xt, .int (nI pt), .ref xh, .ref xi, .ref xl, .ref xo, .ref xg, .ref xd, .int (zB ld), .ref xs, .int (nI stt), .int (nI sts), .int (nI drw), .ref xn, .ref xb, .ref xv, .int (nI bd), .int (nI rd)])), (xn, aI G 512 fx), (xb, aZ G 512 fb)] H := by rw [hH]; exact hP
  have hgo : W p l e R s m args below meth c H locs 0 0 Q (F0 m 0 ls []) := by
    clear hH hlc
    refine lv_aload_n hx hb dM_distance_0 rfl (lv_at hl 0 rfl) ?_
    refine k_l (ws2 := fun u => [(qm, .inr (6, [.int (nI th), .int (nI ul), .ref xt, .int (nI pt), .ref xh, .ref xi, .ref xl, .ref xo, .ref xg, .ref xd, .int (zB ld), .ref xs, .int (nI stt), .int (nI sts), .int (nI drw), .ref xn, .ref xb, .ref xv, .int (nI bd), .int (nI rd)])), (xn, aI G 512 fx), (xb, aZ G 512 fb)]) (wr := [(xn, aI G 512 fx)]) (k_runV (n := 0) (As := []) (rest := []) hx hb hml hown htb hP hD hK hS hA hE (k_M_badSet l G H.size qm xt xh xi xl xo xg xd xs xn xb xv th ul pt ld stt sts drw bd rd fb (show sts ≤ 64 from by omega) (show 1 ≤ drw ∧ drw ≤ 8 from by omega)) b824 b826 s43 b7 b827 (by decide +kernel) rfl rfl ⟨by rw [hRf]; exact Nat.le_of_ble_eq_true rfl, by rw [hRl]; exact Nat.le_of_ble_eq_true rfl⟩ [0, 2] rfl (by decide) 0 rfl rfl rfl rfl hl.1 rfl (Nat.le_of_ble_eq_true rfl) dM_distance_1 ⟨Nat.zero_le _, Nat.zero_le _⟩) hP hD hS hA [0, 2] [1] [1, 0, 2] rfl rfl (by decide) (by decide) (fun u => rfl) (by decide) (fun r u H locs hw hP hD hS => ?_)
    obtain ⟨rfl, rfl⟩ := hw
    have hP : va_P (gD G) vC [(qm, .inr (6, [.int (nI th), .int (nI ul), .ref xt, .int (nI pt), .ref xh, .ref xi, .ref xl, .ref xo, .ref xg, .ref xd, .int (zB ld), .ref xs, .int (nI stt), .int (nI sts), .int (nI drw), .ref xn, .ref xb, .ref xv, .int (nI bd), .int (nI rd)])), (xn, aI G 512 fx), (xb, aZ G 512 fb)] H := hP
    have hD : va_D A [(qm, .inr (6, [.int (nI th), .int (nI ul), .ref xt, .int (nI pt), .ref xh, .ref xi, .ref xl, .ref xo, .ref xg, .ref xd, .int (zB ld), .ref xs, .int (nI stt), .int (nI sts), .int (nI drw), .ref xn, .ref xb, .ref xv, .int (nI bd), .int (nI rd)])), (xn, aI G 512 fx), (xb, aZ G 512 fb)] := hD
    refine lv_lstore_n (lv' := [(2, .long (badOf sts drw (bdF fb))), (0, .ref qm), (1, .int (nI x))]) hx hb dM_distance_4 rfl hl (by decide) rfl (fun ls hl => ?_)
    refine lv_iconst (v := nI 0) hx hb dM_distance_5 (by decide) ?_
    refine lv_istore (lv' := [(4, .int (nI 0)), (2, .long (badOf sts drw (bdF fb))), (0, .ref qm), (1, .int (nI x))]) hx hb dM_distance_6 hl (by decide) rfl (fun ls hl => ?_)
    have loop8 : ∀ (n : Nat) (t1 : Int64) (k : Nat) (H : Heap) (locs : List Loc) (ls : Array Slot), 64 - k < n → (k ≤ 64) → (t1 = (nF sts drw (nxF fx) (badOf sts drw (bdF fb))) k) → (∀ j, j < k → lb ((nF sts drw (nxF fx) (badOf sts drw (bdF fb))) j) x = false) → va_P (gD G) vC [(qm, .inr (6, [.int (nI th), .int (nI ul), .ref xt, .int (nI pt), .ref xh, .ref xi, .ref xl, .ref xo, .ref xg, .ref xd, .int (zB ld), .ref xs, .int (nI stt), .int (nI sts), .int (nI drw), .ref xn, .ref xb, .ref xv, .int (nI bd), .int (nI rd)])), (xn, aI G 512 fx), (xb, aZ G 512 fb)] H → va_D A [(qm, .inr (6, [.int (nI th), .int (nI ul), .ref xt, .int (nI pt), .ref xh, .ref xi, .ref xl, .ref xo, .ref xg, .ref xd, .int (zB ld), .ref xs, .int (nI stt), .int (nI sts), .int (nI drw), .ref xn, .ref xb, .ref xv, .int (nI bd), .int (nI rd)])), (xn, aI G 512 fx), (xb, aZ G 512 fb)] → va_S A s.heap H locs → lv_has ls 5 [(0, .ref qm), (1, .int (nI x)), (2, .long t1), (4, .int (nI k))] → W p l e R s m args below meth c H locs 0 0 Q (F0 m 8 ls []) := by
      intro n
      induction n with
      | zero => intro t1 k H locs ls hmu; omega
      | succ n ih =>
        intro t1 k H locs ls hmu hk ht ha hP hD hS hl
        have ih8 := ih
        clear ih
        refine lv_iload hx hb dM_distance_8 (lv_at hl 3 rfl) ?_
        refine lv_bipush (v := nI 64) hx hb dM_distance_10 (by decide) ?_
        refine lv_icmp_ge (tgt := 42) hx hb dM_distance_12 rfl (fun h12 => ?_) (fun h12 => ?_)
        · have h12 : 64 ≤ k := (nI_leI (a := 64) (b := k) (by omega) (by omega)).mp h12
          refine lv_bipush (v := nI 64) hx hb dM_distance_42 (by decide) ?_
          -- end 0
          rw [← hQ]
          exact k_iret hx hb hr hlocks rfl (u := ()) (⟨by rw [lst_eq (P := fun j => lb ((nF sts drw (nxF fx) (badOf sts drw (bdF fb))) j) x) (k := 64) (Nat.le_refl _) (fun j hj => ha j (by omega)) (fun h => absurd h (by omega))], rfl⟩) hP hD hK hS dM_distance_44
        · have h12 : k < 64 := Nat.lt_of_not_le (fun z => h12 ((nI_leI (a := 64) (b := k) (by omega) (by omega)).mpr z))
          refine lv_lload_n hx hb dM_distance_15 rfl (lv_at hl 2 rfl) ?_
          refine lv_iload_n hx hb dM_distance_16 rfl (lv_at hl 1 rfl) ?_
          refine lv_lshr (v := sr t1 x) hx hb dM_distance_17 rfl ?_
          refine lv_lconst (v := 1) hx hb dM_distance_18 (by decide) ?_
          refine lv_land hx hb dM_distance_19 ?_
          refine lv_lconst (v := 1) hx hb dM_distance_20 (by decide) ?_
          refine W.lcmp hx hb dM_distance_21 ?_
          refine lv_if_ne (tgt := 28) hx hb dM_distance_22 rfl (fun h22 => ?_) (fun h22 => ?_)
          · have h22 : ¬ ((sr t1 x) &&& 1) = 1 := fun z => h22 ((lg_cmp_eq _ _).mpr z)
            refine lv_lload_n hx hb dM_distance_28 rfl (lv_at hl 2 rfl) ?_
            refine lv_aload_n hx hb dM_distance_29 rfl (lv_at hl 0 rfl) ?_
            refine lv_lload_n hx hb dM_distance_30 rfl (lv_at hl 2 rfl) ?_
            refine k_l (ws2 := fun u => [(qm, .inr (6, [.int (nI th), .int (nI ul), .ref xt, .int (nI pt), .ref xh, .ref xi, .ref xl, .ref xo, .ref xg, .ref xd, .int (zB ld), .ref xs, .int (nI stt), .int (nI sts), .int (nI drw), .ref xn, .ref xb, .ref xv, .int (nI bd), .int (nI rd)])), (xn, aI G 512 fx), (xb, aZ G 512 fb)]) (wr := [(xb, aZ G 512 fb)]) (k_runV (n := 1) (As := [.long t1]) (rest := [.long t1]) hx hb hml hown htb hP hD hK hS hA hE (k_M_pre l G H.size qm xt xh xi xl xo xg xd xs xn xb xv th ul pt ld stt sts drw bd rd fx t1 (show sts ≤ 64 from by omega) (show 1 ≤ drw ∧ drw ≤ 8 from by omega) (show ∀ a b, a < sts → b < drw → fx (8 * a + b) < 64 from hn6)) b836 b838 s45 b7 b839 (by decide +kernel) rfl rfl ⟨by rw [hRf]; exact Nat.le_of_ble_eq_true rfl, by rw [hRl]; exact Nat.le_of_ble_eq_true rfl⟩ [0, 1] rfl (by decide) 0 rfl rfl rfl rfl hl.1 rfl (Nat.le_of_ble_eq_true rfl) dM_distance_31 ⟨Nat.zero_le _, Nat.zero_le _⟩) hP hD hS hA [0, 1] [2] [1, 2, 0] rfl rfl (by decide) (by decide) (fun u => rfl) (by decide) (fun r u H locs hw hP hD hS => ?_)
            obtain ⟨rfl, rfl⟩ := hw
            have hP : va_P (gD G) vC [(qm, .inr (6, [.int (nI th), .int (nI ul), .ref xt, .int (nI pt), .ref xh, .ref xi, .ref xl, .ref xo, .ref xg, .ref xd, .int (zB ld), .ref xs, .int (nI stt), .int (nI sts), .int (nI drw), .ref xn, .ref xb, .ref xv, .int (nI bd), .int (nI rd)])), (xn, aI G 512 fx), (xb, aZ G 512 fb)] H := hP
            have hD : va_D A [(qm, .inr (6, [.int (nI th), .int (nI ul), .ref xt, .int (nI pt), .ref xh, .ref xi, .ref xl, .ref xo, .ref xg, .ref xd, .int (zB ld), .ref xs, .int (nI stt), .int (nI sts), .int (nI drw), .ref xn, .ref xb, .ref xv, .int (nI bd), .int (nI rd)])), (xn, aI G 512 fx), (xb, aZ G 512 fb)] := hD
            refine lv_lor hx hb dM_distance_34 ?_
            refine lv_lstore_n (lv' := [(2, .long (t1 ||| ((preOf sts drw (nxF fx)) t1))), (0, .ref qm), (1, .int (nI x)), (4, .int (nI k))]) hx hb dM_distance_35 rfl hl (by decide) rfl (fun ls hl => ?_)
            refine lv_iinc (v := nI (k + 1)) (lv' := [(4, .int (nI (k + 1))), (2, .long (t1 ||| ((preOf sts drw (nxF fx)) t1))), (0, .ref qm), (1, .int (nI x))]) hx hb dM_distance_36 hl (k := 3) rfl (nI_add _ 1) (by decide) rfl (fun ls hl => ?_)
            refine lv_goto (tgt := 8) hx hb dM_distance_39 rfl ?_
            have hl : lv_has ls 5 [(0, .ref qm), (1, .int (nI x)), (2, .long (t1 ||| ((preOf sts drw (nxF fx)) t1))), (4, .int (nI (k + 1)))] := lv_sub hl [2, 3, 1, 0] rfl
            exact ih8 (t1 ||| ((preOf sts drw (nxF fx)) t1)) (k + 1) _ _ _ (by omega) (by omega) (by rw [ht]; unfold nF; rw [gr_s]) (fun j hj => by by_cases e9 : j = k; (subst e9; rw [← ht]; have h9 := fun z => h22 ((bit_s t1 hx6).mpr z); simpa using h9); (exact ha j (by omega))) hP hD hS hl
          · have h22 : ((sr t1 x) &&& 1) = 1 := (lg_cmp_eq _ _).mp h22
            refine lv_iload hx hb dM_distance_25 (lv_at hl 3 rfl) ?_
            -- end 1
            rw [← hQ]
            exact k_iret hx hb hr hlocks rfl (u := ()) (⟨by rw [lst_eq (P := fun j => lb ((nF sts drw (nxF fx) (badOf sts drw (bdF fb))) j) x) (k := k) hk ha (fun h => by (show lb ((nF sts drw (nxF fx) (badOf sts drw (bdF fb))) k) x = true); rw [← ht]; exact (bit_s t1 hx6).mp h22)], rfl⟩) hP hD hK hS dM_distance_27
    have hl : lv_has ls 5 [(0, .ref qm), (1, .int (nI x)), (2, .long (badOf sts drw (bdF fb))), (4, .int (nI 0))] := lv_sub hl [2, 3, 1, 0] rfl
    exact loop8 (64 - 0 + 1) (badOf sts drw (bdF fb)) 0 _ _ _ (by omega) (by omega) rfl (fun j hj => absurd hj (Nat.not_lt_zero j)) hP hD hS hl
  rw [hH, hlc] at hgo
  exact hgo
set_option maxRecDepth 100000 in
set_option maxHeartbeats 4000000 in
theorem k_M_widen (l : Launch) (G : GG) (sz : Nat) (qm : Nat) (xt : Nat) (xh : Nat) (xi : Nat) (xl : Nat) (xo : Nat) (xg : Nat) (xd : Nat) (xs : Nat) (xn : Nat) (xb : Nat) (xv : Nat) (th : Nat) (ul : Nat) (pt : Nat) (ld : Bool) (stt : Nat) (sts : Nat) (drw : Nat) (bd : Nat) (rd : Nat) (x : Int64) (j : Nat) (hz : sts ≤ 64) (hj : j < 6) : Kl l yM_widen cM_widen 7 0 0 G [.ref qm, .long x, .int (nI j)] [(qm, .inr (6, [.int (nI th), .int (nI ul), .ref xt, .int (nI pt), .ref xh, .ref xi, .ref xl, .ref xo, .ref xg, .ref xd, .int (zB ld), .ref xs, .int (nI stt), .int (nI sts), .int (nI drw), .ref xn, .ref xb, .ref xv, .int (nI bd), .int (nI rd)]))] sz (fun (r : Int64) (u : Unit) => (widM sts x j = r ∧ () = u)) (fun (u : Unit) => [(qm, .inr (6, [.int (nI th), .int (nI ul), .ref xt, .int (nI pt), .ref xh, .ref xi, .ref xl, .ref xo, .ref xg, .ref xd, .int (zB ld), .ref xs, .int (nI stt), .int (nI sts), .int (nI drw), .ref xn, .ref xb, .ref xv, .int (nI bd), .int (nI rd)]))]) := by
  refine Met.ofW (cc := cM_widen) (maxL := 7) (ret := (some .long)) (by decide) rfl ?_
  intro p e s m args below meth c s₁ B hml hv
  obtain ⟨hav, hsz, hP, hK, hD0, hE⟩ := hv
  have hx := B.exec
  have hb := B.bytes
  have hr := B.returns
  have htb : ∀ w ∈ TB, w.before args s = true := fun w h => atoms_spec (ws := Cond.code yM_widen cM_widen 7 (some .long) :: TB) B.pre w (List.mem_cons_of_mem _ h)
  have hown : s.vm.findClass "CircuitProverModel" = some m.cls := findClass_of_methodNamed B.named
  have hlocks := B.notSynchronized
  subst hsz
  have hD := hD0.self (sz := s.heap.size)
  clear hD0
  generalize hRm : (headSpec (Cond.code yM_widen cM_widen 7 (some .long) :: TB) { frames := 0, cells := 0, slots := 0, locals := 0 }).room = R
  have hRf : R.frames = 0 := by rw [← hRm]; rfl
  have hRl : R.locals = 0 := by rw [← hRm]; rfl
  have hRc : R.cells = 0 := by rw [← hRm]; rfl
  have hRs : R.slots = 0 := by rw [← hRm]; rfl
  clear hRm
  generalize hAe : va_A [(qm, .inr (6, [.int (nI th), .int (nI ul), .ref xt, .int (nI pt), .ref xh, .ref xi, .ref xl, .ref xo, .ref xg, .ref xd, .int (zB ld), .ref xs, .int (nI stt), .int (nI sts), .int (nI drw), .ref xn, .ref xb, .ref xv, .int (nI bd), .int (nI rd)]))] s.heap.size = A at hD hE ⊢
  have hA : ∀ q : Nat, s.heap.size ≤ q → A q := fun q h => by rw [← hAe]; exact Or.inr h
  clear hAe
  have hS : va_S A s.heap s.heap [] := va_S.rf
  have hl := lv_entry ([.ref qm, .long x, .int (nI j)]) (n := 7) (Nat.le_of_ble_eq_true rfl)
  have hent := lg_entry_eq m ([.ref qm, .long x, .int (nI j)]) 7
  rw [← hav] at hent
  rw [hent]
  clear hent hav
  generalize (lg_sl ([.ref qm, .long x, .int (nI j)]) ++ List.replicate (7 - (lg_sl ([.ref qm, .long x, .int (nI j)])).length) Slot.unset).toArray = ls at hl ⊢
  have hl : lv_has ls 7 [(0, .ref qm), (1, .long x), (3, .int (nI j))] := hl
  generalize hQ : MQ below _ args s 0 0 _ = Q
  have hP : va_P (gD G) vC [(qm, .inr (6, [.int (nI th), .int (nI ul), .ref xt, .int (nI pt), .ref xh, .ref xi, .ref xl, .ref xo, .ref xg, .ref xd, .int (zB ld), .ref xs, .int (nI stt), .int (nI sts), .int (nI drw), .ref xn, .ref xb, .ref xv, .int (nI bd), .int (nI rd)]))] s.heap := hP
  obtain ⟨H, hH⟩ : ∃ H : Heap, H = s.heap := ⟨_, rfl⟩
  obtain ⟨locs, hlc⟩ : ∃ L : List Loc, L = [] := ⟨_, rfl⟩
  have hS : va_S A s.heap H locs := by rw [hH, hlc]; exact hS
  have hP : va_P (gD G) vC [(qm, .inr (6, [.int (nI th), .int (nI ul), .ref xt, .int (nI pt), .ref xh, .ref xi, .ref xl, .ref xo, .ref xg, .ref xd, .int (zB ld), .ref xs, .int (nI stt), .int (nI sts), .int (nI drw), .ref xn, .ref xb, .ref xv, .int (nI bd), .int (nI rd)]))] H := by rw [hH]; exact hP
  have hgo : W p l e R s m args below meth c H locs 0 0 Q (F0 m 0 ls []) := by
    clear hH hlc
    refine lv_lload_n hx hb dM_widen_0 rfl (lv_at hl 1 rfl) ?_
    refine lv_lstore (lv' := [(4, .long x), (0, .ref qm), (1, .long x), (3, .int (nI j))]) hx hb dM_widen_1 hl (by decide) rfl (fun ls hl => ?_)
    refine lv_iconst (v := nI 0) hx hb dM_widen_3 (by decide) ?_
    refine lv_istore (lv' := [(6, .int (nI 0)), (4, .long x), (0, .ref qm), (1, .long x), (3, .int (nI j))]) hx hb dM_widen_4 hl (by decide) rfl (fun ls hl => ?_)
    have loop6 : ∀ (n : Nat) (t1 : Int64) (sx : Nat) (H : Heap) (locs : List Loc) (ls : Array Slot), sts - sx < n → (sx ≤ sts) → (t1 = it (fun s a => if lb x s = true then a ||| sg (s ^^^ 2 ^ j) else a) sx x) → va_P (gD G) vC [(qm, .inr (6, [.int (nI th), .int (nI ul), .ref xt, .int (nI pt), .ref xh, .ref xi, .ref xl, .ref xo, .ref xg, .ref xd, .int (zB ld), .ref xs, .int (nI stt), .int (nI sts), .int (nI drw), .ref xn, .ref xb, .ref xv, .int (nI bd), .int (nI rd)]))] H → va_D A [(qm, .inr (6, [.int (nI th), .int (nI ul), .ref xt, .int (nI pt), .ref xh, .ref xi, .ref xl, .ref xo, .ref xg, .ref xd, .int (zB ld), .ref xs, .int (nI stt), .int (nI sts), .int (nI drw), .ref xn, .ref xb, .ref xv, .int (nI bd), .int (nI rd)]))] → va_S A s.heap H locs → lv_has ls 7 [(0, .ref qm), (1, .long x), (3, .int (nI j)), (4, .long t1), (6, .int (nI sx))] → W p l e R s m args below meth c H locs 0 0 Q (F0 m 6 ls []) := by
      intro n
      induction n with
      | zero => intro t1 sx H locs ls hmu; omega
      | succ n ih =>
        intro t1 sx H locs ls hmu hsx ht hP hD hS hl
        have ih6 := ih
        clear ih
        refine lv_iload hx hb dM_widen_6 (lv_at hl 4 rfl) ?_
        refine lv_aload_n hx hb dM_widen_8 rfl (lv_at hl 0 rfl) ?_
        refine va_get (D := gD G) (ci := 6) (v := .int (nI sts)) (C := "CircuitProverModel") (T := TM) (N := 20) hx hb htb inM hown hK hP 0 rfl rfl 13 (by decide) (htb _ b684) (fun _ h9 => h9) rfl dM_widen_9 ?_
        refine lv_icmp_ge (tgt := 50) hx hb dM_widen_12 rfl (fun h12 => ?_) (fun h12 => ?_)
        · have h12 : sts ≤ sx := (nI_leI (a := sts) (b := sx) (by omega) (by omega)).mp h12
          refine lv_lload hx hb dM_widen_50 (lv_at hl 3 rfl) ?_
          -- end 0
          rw [← hQ]
          exact k_lret hx hb hr hlocks (u := ()) (⟨by rw [ht, show sx = sts by omega]; rfl, rfl⟩) hP hD hK hS dM_widen_52
        · have h12 : sx < sts := Nat.lt_of_not_le (fun z => h12 ((nI_leI (a := sts) (b := sx) (by omega) (by omega)).mpr z))
          refine lv_lload_n hx hb dM_widen_15 rfl (lv_at hl 1 rfl) ?_
          refine lv_iload hx hb dM_widen_16 (lv_at hl 4 rfl) ?_
          refine lv_lshr (v := sr x sx) hx hb dM_widen_18 rfl ?_
          refine lv_lconst (v := 1) hx hb dM_widen_19 (by decide) ?_
          refine lv_land hx hb dM_widen_20 ?_
          refine lv_lconst (v := 1) hx hb dM_widen_21 (by decide) ?_
          refine W.lcmp hx hb dM_widen_22 ?_
          refine lv_if_ne (tgt := 40) hx hb dM_widen_23 rfl (fun h23 => ?_) (fun h23 => ?_)
          · have h23 : ¬ ((sr x sx) &&& 1) = 1 := fun z => h23 ((lg_cmp_eq _ _).mpr z)
            refine lv_lload hx hb dM_widen_40 (lv_at hl 3 rfl) ?_
            refine lv_lstore (lv' := [(4, .long t1), (0, .ref qm), (1, .long x), (3, .int (nI j)), (6, .int (nI sx))]) hx hb dM_widen_42 hl (by decide) rfl (fun ls hl => ?_)
            refine lv_iinc (v := nI (sx + 1)) (lv' := [(6, .int (nI (sx + 1))), (4, .long t1), (0, .ref qm), (1, .long x), (3, .int (nI j))]) hx hb dM_widen_44 hl (k := 4) rfl (nI_add _ 1) (by decide) rfl (fun ls hl => ?_)
            refine lv_goto (tgt := 6) hx hb dM_widen_47 rfl ?_
            have hl : lv_has ls 7 [(0, .ref qm), (1, .long x), (3, .int (nI j)), (4, .long t1), (6, .int (nI (sx + 1)))] := lv_sub hl [2, 3, 4, 1, 0] rfl
            exact ih6 t1 (sx + 1) _ _ _ (by omega) (by omega) (by rw [it_s, ← ht]; first | rw [if_pos ((bit_s x (by omega)).mp h23)] | rw [if_neg (fun z => h23 ((bit_s x (by omega)).mpr z))]) hP hD hS hl
          · have h23 : ((sr x sx) &&& 1) = 1 := (lg_cmp_eq _ _).mp h23
            refine lv_lload hx hb dM_widen_26 (lv_at hl 3 rfl) ?_
            refine lv_lconst (v := 1) hx hb dM_widen_28 (by decide) ?_
            refine lv_iload hx hb dM_widen_29 (lv_at hl 4 rfl) ?_
            refine lv_iconst (v := nI 1) hx hb dM_widen_31 (by decide) ?_
            refine lv_iload_n hx hb dM_widen_32 rfl (lv_at hl 2 rfl) ?_
            refine lv_ishl hx hb dM_widen_33 ?_
            refine k_toi (y := nI (2 ^ j)) (sh1 (by omega)) ?_
            refine lv_ixor hx hb dM_widen_34 ?_
            refine k_toi (y := nI (sx ^^^ (2 ^ j))) (nx_xor _ _) ?_
            refine lv_lshl (v := sg (sx ^^^ (2 ^ j))) hx hb dM_widen_35 rfl ?_
            refine lv_lor hx hb dM_widen_36 ?_
            refine lv_goto (tgt := 42) hx hb dM_widen_37 rfl ?_
            refine lv_lstore (lv' := [(4, .long (t1 ||| (sg (sx ^^^ (2 ^ j))))), (0, .ref qm), (1, .long x), (3, .int (nI j)), (6, .int (nI sx))]) hx hb dM_widen_42 hl (by decide) rfl (fun ls hl => ?_)
            refine lv_iinc (v := nI (sx + 1)) (lv' := [(6, .int (nI (sx + 1))), (4, .long (t1 ||| (sg (sx ^^^ (2 ^ j))))), (0, .ref qm), (1, .long x), (3, .int (nI j))]) hx hb dM_widen_44 hl (k := 4) rfl (nI_add _ 1) (by decide) rfl (fun ls hl => ?_)
            refine lv_goto (tgt := 6) hx hb dM_widen_47 rfl ?_
            have hl : lv_has ls 7 [(0, .ref qm), (1, .long x), (3, .int (nI j)), (4, .long (t1 ||| (sg (sx ^^^ (2 ^ j))))), (6, .int (nI (sx + 1)))] := lv_sub hl [2, 3, 4, 1, 0] rfl
            exact ih6 (t1 ||| (sg (sx ^^^ (2 ^ j)))) (sx + 1) _ _ _ (by omega) (by omega) (by rw [it_s, ← ht]; first | rw [if_pos ((bit_s x (by omega)).mp h23)] | rw [if_neg (fun z => h23 ((bit_s x (by omega)).mpr z))]) hP hD hS hl
    have hl : lv_has ls 7 [(0, .ref qm), (1, .long x), (3, .int (nI j)), (4, .long x), (6, .int (nI 0))] := lv_sub hl [2, 3, 4, 1, 0] rfl
    exact loop6 (sts - 0 + 1) x 0 _ _ _ (by omega) (by omega) rfl hP hD hS hl
  rw [hH, hlc] at hgo
  exact hgo
set_option maxRecDepth 100000 in
set_option maxHeartbeats 4000000 in
theorem k_M_prove (l : Launch) (G : GG) (sz : Nat) (qm : Nat) (xt : Nat) (xh : Nat) (xi : Nat) (xl : Nat) (xo : Nat) (xg : Nat) (xd : Nat) (xs : Nat) (xn : Nat) (xb : Nat) (xv : Nat) (th : Nat) (ul : Nat) (pt : Nat) (ld : Bool) (stt : Nat) (sts : Nat) (drw : Nat) (bd : Nat) (rd : Nat) (fs : Nat → Nat) (fx : Nat → Nat) (fb : Nat → Bool) (hz : sts ≤ 64) (hdw : 1 ≤ drw ∧ drw ≤ 8) (hn6 : ∀ a b, a < sts → b < drw → fx (8 * a + b) < 64) (hst : stt < 64) (hla : fs 2 ≤ 6) : Kl l yM_prove cM_prove 11 2 50 G [.ref qm] [(qm, .inr (6, [.int (nI th), .int (nI ul), .ref xt, .int (nI pt), .ref xh, .ref xi, .ref xl, .ref xo, .ref xg, .ref xd, .int (zB ld), .ref xs, .int (nI stt), .int (nI sts), .int (nI drw), .ref xn, .ref xb, .ref xv, .int (nI bd), .int (nI rd)])), (xs, aI G 5 fs), (xn, aI G 512 fx), (xb, aZ G 512 fb)] sz (fun (r : Int64) (u : Nat × Nat) => ((prf (postOf sts drw (nxF fx)) (nrF (nF sts drw (nxF fx) (badOf sts drw (bdF fb)))) (widM sts) (fs 2) (sg stt) 10000 1 (sg stt) 0).2.1 = r ∧ ((prf (postOf sts drw (nxF fx)) (nrF (nF sts drw (nxF fx) (badOf sts drw (bdF fb)))) (widM sts) (fs 2) (sg stt) 10000 1 (sg stt) 0).1, (prf (postOf sts drw (nxF fx)) (nrF (nF sts drw (nxF fx) (badOf sts drw (bdF fb)))) (widM sts) (fs 2) (sg stt) 10000 1 (sg stt) 0).2.2) = u)) (fun (u : Nat × Nat) => [(qm, .inr (6, [.int (nI th), .int (nI ul), .ref xt, .int (nI pt), .ref xh, .ref xi, .ref xl, .ref xo, .ref xg, .ref xd, .int (zB ld), .ref xs, .int (nI stt), .int (nI sts), .int (nI drw), .ref xn, .ref xb, .ref xv, .int (nI u.1), .int (nI u.2)])), (xs, aI G 5 fs), (xn, aI G 512 fx), (xb, aZ G 512 fb)]) := by
  refine Met.ofW (cc := cM_prove) (maxL := 11) (ret := (some .long)) (by decide) rfl ?_
  intro p e s m args below meth c s₁ B hml hv
  obtain ⟨hav, hsz, hP, hK, hD0, hE⟩ := hv
  have hx := B.exec
  have hb := B.bytes
  have hr := B.returns
  have htb : ∀ w ∈ TB, w.before args s = true := fun w h => atoms_spec (ws := Cond.code yM_prove cM_prove 11 (some .long) :: TB) B.pre w (List.mem_cons_of_mem _ h)
  have hown : s.vm.findClass "CircuitProverModel" = some m.cls := findClass_of_methodNamed B.named
  have hlocks := B.notSynchronized
  subst hsz
  have hD := hD0.self (sz := s.heap.size)
  clear hD0
  generalize hRm : (headSpec (Cond.code yM_prove cM_prove 11 (some .long) :: TB) { frames := 2, cells := 0, slots := 0, locals := 50 }).room = R
  have hRf : R.frames = 2 := by rw [← hRm]; rfl
  have hRl : R.locals = 50 := by rw [← hRm]; rfl
  have hRc : R.cells = 0 := by rw [← hRm]; rfl
  have hRs : R.slots = 0 := by rw [← hRm]; rfl
  clear hRm
  generalize hAe : va_A [(qm, .inr (6, [.int (nI th), .int (nI ul), .ref xt, .int (nI pt), .ref xh, .ref xi, .ref xl, .ref xo, .ref xg, .ref xd, .int (zB ld), .ref xs, .int (nI stt), .int (nI sts), .int (nI drw), .ref xn, .ref xb, .ref xv, .int (nI bd), .int (nI rd)])), (xs, aI G 5 fs), (xn, aI G 512 fx), (xb, aZ G 512 fb)] s.heap.size = A at hD hE ⊢
  have hA : ∀ q : Nat, s.heap.size ≤ q → A q := fun q h => by rw [← hAe]; exact Or.inr h
  clear hAe
  have hS : va_S A s.heap s.heap [] := va_S.rf
  have hl := lv_entry ([.ref qm]) (n := 11) (Nat.le_of_ble_eq_true rfl)
  have hent := lg_entry_eq m ([.ref qm]) 11
  rw [← hav] at hent
  rw [hent]
  clear hent hav
  generalize (lg_sl ([.ref qm]) ++ List.replicate (11 - (lg_sl ([.ref qm])).length) Slot.unset).toArray = ls at hl ⊢
  have hl : lv_has ls 11 [(0, .ref qm)] := hl
  generalize hQ : MQ below _ args s 0 0 _ = Q
  have hP : va_P (gD G) vC [(qm, .inr (6, [.int (nI th), .int (nI ul), .ref xt, .int (nI pt), .ref xh, .ref xi, .ref xl, .ref xo, .ref xg, .ref xd, .int (zB ld), .ref xs, .int (nI stt), .int (nI sts), .int (nI drw), .ref xn, .ref xb, .ref xv, .int (nI bd), .int (nI rd)])), (xs, aI G 5 fs), (xn, aI G 512 fx), (xb, aZ G 512 fb)] s.heap := hP
  obtain ⟨H, hH⟩ : ∃ H : Heap, H = s.heap := ⟨_, rfl⟩
  obtain ⟨locs, hlc⟩ : ∃ L : List Loc, L = [] := ⟨_, rfl⟩
  have hS : va_S A s.heap H locs := by rw [hH, hlc]; exact hS
  have hP : va_P (gD G) vC [(qm, .inr (6, [.int (nI th), .int (nI ul), .ref xt, .int (nI pt), .ref xh, .ref xi, .ref xl, .ref xo, .ref xg, .ref xd, .int (zB ld), .ref xs, .int (nI stt), .int (nI sts), .int (nI drw), .ref xn, .ref xb, .ref xv, .int (nI bd), .int (nI rd)])), (xs, aI G 5 fs), (xn, aI G 512 fx), (xb, aZ G 512 fb)] H := by rw [hH]; exact hP
  have hgo : W p l e R s m args below meth c H locs 0 0 Q (F0 m 0 ls []) := by
    clear hH hlc
    refine lv_lconst (v := 1) hx hb dM_prove_0 (by decide) ?_
    refine lv_aload_n hx hb dM_prove_1 rfl (lv_at hl 0 rfl) ?_
    refine va_get (D := gD G) (ci := 6) (v := .int (nI stt)) (C := "CircuitProverModel") (T := TM) (N := 20) hx hb htb inM hown hK hP 0 rfl rfl 12 (by decide) (htb _ b683) (fun _ h9 => h9) rfl dM_prove_2 ?_
    refine lv_lshl (v := sg stt) hx hb dM_prove_5 rfl ?_
    refine lv_lstore_n (lv' := [(1, .long (sg stt)), (0, .ref qm)]) hx hb dM_prove_6 rfl hl (by decide) rfl (fun ls hl => ?_)
    refine lv_aload_n hx hb dM_prove_7 rfl (lv_at hl 1 rfl) ?_
    refine lv_iconst (v := nI 1) hx hb dM_prove_8 (by decide) ?_
    refine va_put (D := gD G) (ci := 6) (v := .int (nI 1)) (ty := tyM 18) (C := "CircuitProverModel") (T := TM) (N := 20) hx hb htb inM tyM tyM_ok nmM hown hK hP hD hS 0 rfl rfl 18 (by decide) (htb _ b689) (fun _ h9 => h9) rfl (tyM_ok 18 (by decide)) rfl rfl (Nat.le_of_ble_eq_true rfl) dM_prove_9 (fun H locs hP hD hS => ?_)
    have hP : va_P (gD G) vC [(qm, .inr (6, [.int (nI th), .int (nI ul), .ref xt, .int (nI pt), .ref xh, .ref xi, .ref xl, .ref xo, .ref xg, .ref xd, .int (zB ld), .ref xs, .int (nI stt), .int (nI sts), .int (nI drw), .ref xn, .ref xb, .ref xv, .int (nI 1), .int (nI rd)])), (xs, aI G 5 fs), (xn, aI G 512 fx), (xb, aZ G 512 fb)] H := hP
    have hD : va_D A [(qm, .inr (6, [.int (nI th), .int (nI ul), .ref xt, .int (nI pt), .ref xh, .ref xi, .ref xl, .ref xo, .ref xg, .ref xd, .int (zB ld), .ref xs, .int (nI stt), .int (nI sts), .int (nI drw), .ref xn, .ref xb, .ref xv, .int (nI 1), .int (nI rd)])), (xs, aI G 5 fs), (xn, aI G 512 fx), (xb, aZ G 512 fb)] := hD
    refine lv_aload_n hx hb dM_prove_12 rfl (lv_at hl 1 rfl) ?_
    refine lv_iconst (v := nI 0) hx hb dM_prove_13 (by decide) ?_
    refine va_put (D := gD G) (ci := 6) (v := .int (nI 0)) (ty := tyM 19) (C := "CircuitProverModel") (T := TM) (N := 20) hx hb htb inM tyM tyM_ok nmM hown hK hP hD hS 0 rfl rfl 19 (by decide) (htb _ b690) (fun _ h9 => h9) rfl (tyM_ok 19 (by decide)) rfl rfl (Nat.le_of_ble_eq_true rfl) dM_prove_14 (fun H locs hP hD hS => ?_)
    have hP : va_P (gD G) vC [(qm, .inr (6, [.int (nI th), .int (nI ul), .ref xt, .int (nI pt), .ref xh, .ref xi, .ref xl, .ref xo, .ref xg, .ref xd, .int (zB ld), .ref xs, .int (nI stt), .int (nI sts), .int (nI drw), .ref xn, .ref xb, .ref xv, .int (nI 1), .int (nI 0)])), (xs, aI G 5 fs), (xn, aI G 512 fx), (xb, aZ G 512 fb)] H := hP
    have hD : va_D A [(qm, .inr (6, [.int (nI th), .int (nI ul), .ref xt, .int (nI pt), .ref xh, .ref xi, .ref xl, .ref xo, .ref xg, .ref xd, .int (zB ld), .ref xs, .int (nI stt), .int (nI sts), .int (nI drw), .ref xn, .ref xb, .ref xv, .int (nI 1), .int (nI 0)])), (xs, aI G 5 fs), (xn, aI G 512 fx), (xb, aZ G 512 fb)] := hD
    refine lv_iconst (v := nI 1) hx hb dM_prove_17 (by decide) ?_
    refine lv_istore_n (lv' := [(3, .int (nI 1)), (1, .long (sg stt)), (0, .ref qm)]) hx hb dM_prove_18 rfl hl (by decide) rfl (fun ls hl => ?_)
    have loop19 : ∀ (n : Nat) (t1 : Int64) (go : Nat) (bv : Nat) (rv : Nat) (f : Nat) (H : Heap) (locs : List Loc) (ls : Array Slot), f < n → (f + rv = 10000 ∧ go ≤ 1 ∧ 1 ≤ bv ∧ bv ≤ rv + 1) → ((go = 1 → prf (postOf sts drw (nxF fx)) (nrF (nF sts drw (nxF fx) (badOf sts drw (bdF fb)))) (widM sts) (fs 2) (sg stt) f bv t1 rv = prf (postOf sts drw (nxF fx)) (nrF (nF sts drw (nxF fx) (badOf sts drw (bdF fb)))) (widM sts) (fs 2) (sg stt) 10000 1 (sg stt) 0) ∧ (go = 0 → (bv, t1, rv) = prf (postOf sts drw (nxF fx)) (nrF (nF sts drw (nxF fx) (badOf sts drw (bdF fb)))) (widM sts) (fs 2) (sg stt) 10000 1 (sg stt) 0)) → va_P (gD G) vC [(qm, .inr (6, [.int (nI th), .int (nI ul), .ref xt, .int (nI pt), .ref xh, .ref xi, .ref xl, .ref xo, .ref xg, .ref xd, .int (zB ld), .ref xs, .int (nI stt), .int (nI sts), .int (nI drw), .ref xn, .ref xb, .ref xv, .int (nI bv), .int (nI rv)])), (xs, aI G 5 fs), (xn, aI G 512 fx), (xb, aZ G 512 fb)] H → va_D A [(qm, .inr (6, [.int (nI th), .int (nI ul), .ref xt, .int (nI pt), .ref xh, .ref xi, .ref xl, .ref xo, .ref xg, .ref xd, .int (zB ld), .ref xs, .int (nI stt), .int (nI sts), .int (nI drw), .ref xn, .ref xb, .ref xv, .int (nI bv), .int (nI rv)])), (xs, aI G 5 fs), (xn, aI G 512 fx), (xb, aZ G 512 fb)] → va_S A s.heap H locs → lv_has ls 11 [(0, .ref qm), (1, .long t1), (3, .int (nI go))] → W p l e R s m args below meth c H locs 0 0 Q (F0 m 19 ls []) := by
      intro n
      induction n with
      | zero => intro t1 go bv rv f H locs ls hmu; omega
      | succ n ih =>
        intro t1 go bv rv f H locs ls hmu hf he hP hD hS hl
        have ih19 := ih
        clear ih
        refine lv_iload_n hx hb dM_prove_19 rfl (lv_at hl 2 rfl) ?_
        refine lv_if_eq (tgt := 166) hx hb dM_prove_20 rfl (fun h20 => ?_) (fun h20 => ?_)
        · have h20 : go = 0 := (nI_eq (a := go) (b := 0) (by omega) (by omega)).mp h20
          refine lv_lload_n hx hb dM_prove_166 rfl (lv_at hl 1 rfl) ?_
          -- end 0
          rw [← hQ]
          exact k_lret hx hb hr hlocks (u := (bv, rv)) (by have h9 := he.2 h20; rw [← h9]; exact ⟨rfl, rfl⟩) hP hD hK hS dM_prove_167
        · have h20 : ¬ go = 0 := fun z => h20 ((nI_eq (a := go) (b := 0) (by omega) (by omega)).mpr z)
          refine lv_aload_n hx hb dM_prove_23 rfl (lv_at hl 0 rfl) ?_
          refine va_get (D := gD G) (ci := 6) (v := .int (nI rv)) (C := "CircuitProverModel") (T := TM) (N := 20) hx hb htb inM hown hK hP 0 rfl rfl 19 (by decide) (htb _ b690) (fun _ h9 => h9) rfl dM_prove_24 ?_
          refine lv_sipush (v := nI 10000) hx hb dM_prove_27 (by decide) ?_
          refine lv_icmp_ge (tgt := 166) hx hb dM_prove_30 rfl (fun h30 => ?_) (fun h30 => ?_)
          · have h30 : 10000 ≤ rv := (nI_leI (a := 10000) (b := rv) (by omega) (by omega)).mp h30
            refine lv_lload_n hx hb dM_prove_166 rfl (lv_at hl 1 rfl) ?_
            -- end 1
            rw [← hQ]
            exact k_lret hx hb hr hlocks (u := (bv, rv)) (by have h9 := he.1 (by omega); rw [← h9, show f = 0 by omega]; exact ⟨rfl, rfl⟩) hP hD hK hS dM_prove_167
          · have h30 : rv < 10000 := Nat.lt_of_not_le (fun z => h30 ((nI_leI (a := 10000) (b := rv) (by omega) (by omega)).mpr z))
            obtain ⟨f, rfl⟩ : ∃ g, f = g + 1 := ⟨f - 1, by omega⟩
            refine lv_aload_n hx hb dM_prove_33 rfl (lv_at hl 0 rfl) ?_
            refine lv_dup hx hb dM_prove_34 rfl ?_
            refine va_get (D := gD G) (ci := 6) (v := .int (nI rv)) (C := "CircuitProverModel") (T := TM) (N := 20) hx hb htb inM hown hK hP 0 rfl rfl 19 (by decide) (htb _ b690) (fun _ h9 => h9) rfl dM_prove_35 ?_
            refine lv_iconst (v := nI 1) hx hb dM_prove_38 (by decide) ?_
            refine lv_iadd hx hb dM_prove_39 ?_
            refine k_toi (y := nI (rv + 1)) (nI_add _ _) ?_
            refine va_put (D := gD G) (ci := 6) (v := .int (nI (rv + 1))) (ty := tyM 19) (C := "CircuitProverModel") (T := TM) (N := 20) hx hb htb inM tyM tyM_ok nmM hown hK hP hD hS 0 rfl rfl 19 (by decide) (htb _ b690) (fun _ h9 => h9) rfl (tyM_ok 19 (by decide)) rfl rfl (Nat.le_of_ble_eq_true rfl) dM_prove_40 (fun H locs hP hD hS => ?_)
            have hP : va_P (gD G) vC [(qm, .inr (6, [.int (nI th), .int (nI ul), .ref xt, .int (nI pt), .ref xh, .ref xi, .ref xl, .ref xo, .ref xg, .ref xd, .int (zB ld), .ref xs, .int (nI stt), .int (nI sts), .int (nI drw), .ref xn, .ref xb, .ref xv, .int (nI bv), .int (nI (rv + 1))])), (xs, aI G 5 fs), (xn, aI G 512 fx), (xb, aZ G 512 fb)] H := hP
            have hD : va_D A [(qm, .inr (6, [.int (nI th), .int (nI ul), .ref xt, .int (nI pt), .ref xh, .ref xi, .ref xl, .ref xo, .ref xg, .ref xd, .int (zB ld), .ref xs, .int (nI stt), .int (nI sts), .int (nI drw), .ref xn, .ref xb, .ref xv, .int (nI bv), .int (nI (rv + 1))])), (xs, aI G 5 fs), (xn, aI G 512 fx), (xb, aZ G 512 fb)] := hD
            refine lv_aload_n hx hb dM_prove_43 rfl (lv_at hl 0 rfl) ?_
            refine lv_aload_n hx hb dM_prove_44 rfl (lv_at hl 0 rfl) ?_
            refine va_get (D := gD G) (ci := 6) (v := .int (nI bv)) (C := "CircuitProverModel") (T := TM) (N := 20) hx hb htb inM hown hK hP 0 rfl rfl 18 (by decide) (htb _ b689) (fun _ h9 => h9) rfl dM_prove_45 ?_
            refine k_l (ws2 := fun u => [(qm, .inr (6, [.int (nI th), .int (nI ul), .ref xt, .int (nI pt), .ref xh, .ref xi, .ref xl, .ref xo, .ref xg, .ref xd, .int (zB ld), .ref xs, .int (nI stt), .int (nI sts), .int (nI drw), .ref xn, .ref xb, .ref xv, .int (nI bv), .int (nI (rv + 1))])), (xs, aI G 5 fs), (xn, aI G 512 fx), (xb, aZ G 512 fb)]) (wr := [(xs, aI G 5 fs)]) (k_runV (n := 1) (As := [.int (nI bv)]) (rest := []) hx hb hml hown htb hP hD hK hS hA hE (k_M_near l G H.size qm xt xh xi xl xo xg xd xs xn xb xv th ul pt ld stt sts drw bv (rv + 1) fx fb bv (show sts ≤ 64 from by omega) (show 1 ≤ drw ∧ drw ≤ 8 from by omega) (show ∀ a b, a < sts → b < drw → fx (8 * a + b) < 64 from hn6) (show 1 ≤ bv ∧ bv ≤ 10001 from by omega)) b852 b854 s47 b7 b855 (by decide +kernel) rfl rfl ⟨by rw [hRf]; exact Nat.le_of_ble_eq_true rfl, by rw [hRl]; exact Nat.le_of_ble_eq_true rfl⟩ [0, 2, 3] rfl (by decide) 0 rfl rfl rfl rfl hl.1 rfl (Nat.le_of_ble_eq_true rfl) dM_prove_48 ⟨Nat.zero_le _, Nat.zero_le _⟩) hP hD hS hA [0, 2, 3] [1] [1, 0, 2, 3] rfl rfl (by decide) (by decide) (fun u => rfl) (by decide) (fun r u H locs hw hP hD hS => ?_)
            obtain ⟨rfl, rfl⟩ := hw
            have hP : va_P (gD G) vC [(qm, .inr (6, [.int (nI th), .int (nI ul), .ref xt, .int (nI pt), .ref xh, .ref xi, .ref xl, .ref xo, .ref xg, .ref xd, .int (zB ld), .ref xs, .int (nI stt), .int (nI sts), .int (nI drw), .ref xn, .ref xb, .ref xv, .int (nI bv), .int (nI (rv + 1))])), (xs, aI G 5 fs), (xn, aI G 512 fx), (xb, aZ G 512 fb)] H := hP
            have hD : va_D A [(qm, .inr (6, [.int (nI th), .int (nI ul), .ref xt, .int (nI pt), .ref xh, .ref xi, .ref xl, .ref xo, .ref xg, .ref xd, .int (zB ld), .ref xs, .int (nI stt), .int (nI sts), .int (nI drw), .ref xn, .ref xb, .ref xv, .int (nI bv), .int (nI (rv + 1))])), (xs, aI G 5 fs), (xn, aI G 512 fx), (xb, aZ G 512 fb)] := hD
            refine lv_lstore (lv' := [(4, .long ((nF sts drw (nxF fx) (badOf sts drw (bdF fb))) (bv - 1))), (0, .ref qm), (1, .long t1), (3, .int (nI go))]) hx hb dM_prove_51 hl (by decide) rfl (fun ls hl => ?_)
            refine lv_aload_n hx hb dM_prove_53 rfl (lv_at hl 1 rfl) ?_
            refine lv_lload_n hx hb dM_prove_54 rfl (lv_at hl 2 rfl) ?_
            refine k_l (ws2 := fun u => [(qm, .inr (6, [.int (nI th), .int (nI ul), .ref xt, .int (nI pt), .ref xh, .ref xi, .ref xl, .ref xo, .ref xg, .ref xd, .int (zB ld), .ref xs, .int (nI stt), .int (nI sts), .int (nI drw), .ref xn, .ref xb, .ref xv, .int (nI bv), .int (nI (rv + 1))])), (xs, aI G 5 fs), (xn, aI G 512 fx), (xb, aZ G 512 fb)]) (wr := [(xs, aI G 5 fs), (xb, aZ G 512 fb)]) (k_runV (n := 1) (As := [.long t1]) (rest := []) hx hb hml hown htb hP hD hK hS hA hE (k_M_post l G H.size qm xt xh xi xl xo xg xd xs xn xb xv th ul pt ld stt sts drw bv (rv + 1) fx t1 (show sts ≤ 64 from by omega) (show 1 ≤ drw ∧ drw ≤ 8 from by omega)) b820 b822 s42 b7 b823 (by decide +kernel) rfl rfl ⟨by rw [hRf]; exact Nat.le_of_ble_eq_true rfl, by rw [hRl]; exact Nat.le_of_ble_eq_true rfl⟩ [0, 2] rfl (by decide) 0 rfl rfl rfl rfl hl.1 rfl (Nat.le_of_ble_eq_true rfl) dM_prove_55 ⟨Nat.zero_le _, Nat.zero_le _⟩) hP hD hS hA [0, 2] [1, 3] [2, 0, 3, 1] rfl rfl (by decide) (by decide) (fun u => rfl) (by decide) (fun r u H locs hw hP hD hS => ?_)
            obtain ⟨rfl, rfl⟩ := hw
            have hP : va_P (gD G) vC [(qm, .inr (6, [.int (nI th), .int (nI ul), .ref xt, .int (nI pt), .ref xh, .ref xi, .ref xl, .ref xo, .ref xg, .ref xd, .int (zB ld), .ref xs, .int (nI stt), .int (nI sts), .int (nI drw), .ref xn, .ref xb, .ref xv, .int (nI bv), .int (nI (rv + 1))])), (xs, aI G 5 fs), (xn, aI G 512 fx), (xb, aZ G 512 fb)] H := hP
            have hD : va_D A [(qm, .inr (6, [.int (nI th), .int (nI ul), .ref xt, .int (nI pt), .ref xh, .ref xi, .ref xl, .ref xo, .ref xg, .ref xd, .int (zB ld), .ref xs, .int (nI stt), .int (nI sts), .int (nI drw), .ref xn, .ref xb, .ref xv, .int (nI bv), .int (nI (rv + 1))])), (xs, aI G 5 fs), (xn, aI G 512 fx), (xb, aZ G 512 fb)] := hD
            refine lv_lstore (lv' := [(6, .long ((postOf sts drw (nxF fx)) t1)), (4, .long ((nF sts drw (nxF fx) (badOf sts drw (bdF fb))) (bv - 1))), (0, .ref qm), (1, .long t1), (3, .int (nI go))]) hx hb dM_prove_58 hl (by decide) rfl (fun ls hl => ?_)
            refine lv_lload hx hb dM_prove_60 (lv_at hl 0 rfl) ?_
            refine lv_lload hx hb dM_prove_62 (lv_at hl 1 rfl) ?_
            refine lv_land hx hb dM_prove_64 ?_
            refine lv_lconst (v := 0) hx hb dM_prove_65 (by decide) ?_
            refine W.lcmp hx hb dM_prove_66 ?_
            refine lv_if_eq (tgt := 90) hx hb dM_prove_67 rfl (fun h67 => ?_) (fun h67 => ?_)
            · have h67 : (((postOf sts drw (nxF fx)) t1) &&& ((nF sts drw (nxF fx) (badOf sts drw (bdF fb))) (bv - 1))) = 0 := (lg_cmp_eq _ _).mp h67
              refine lv_iconst (v := nI 0) hx hb dM_prove_90 (by decide) ?_
              refine lv_istore (lv' := [(8, .int (nI 0)), (6, .long ((postOf sts drw (nxF fx)) t1)), (4, .long ((nF sts drw (nxF fx) (badOf sts drw (bdF fb))) (bv - 1))), (0, .ref qm), (1, .long t1), (3, .int (nI go))]) hx hb dM_prove_91 hl (by decide) rfl (fun ls hl => ?_)
              have loop93 : ∀ (n : Nat) (p9 : Int64) (j : Nat) (H : Heap) (locs : List Loc) (ls : Array Slot), fs 2 - j < n → (j ≤ fs 2) → (p9 = widAll (widM sts) j (nrF (nF sts drw (nxF fx) (badOf sts drw (bdF fb))) bv) ((postOf sts drw (nxF fx)) t1)) → va_P (gD G) vC [(qm, .inr (6, [.int (nI th), .int (nI ul), .ref xt, .int (nI pt), .ref xh, .ref xi, .ref xl, .ref xo, .ref xg, .ref xd, .int (zB ld), .ref xs, .int (nI stt), .int (nI sts), .int (nI drw), .ref xn, .ref xb, .ref xv, .int (nI bv), .int (nI (rv + 1))])), (xs, aI G 5 fs), (xn, aI G 512 fx), (xb, aZ G 512 fb)] H → va_D A [(qm, .inr (6, [.int (nI th), .int (nI ul), .ref xt, .int (nI pt), .ref xh, .ref xi, .ref xl, .ref xo, .ref xg, .ref xd, .int (zB ld), .ref xs, .int (nI stt), .int (nI sts), .int (nI drw), .ref xn, .ref xb, .ref xv, .int (nI bv), .int (nI (rv + 1))])), (xs, aI G 5 fs), (xn, aI G 512 fx), (xb, aZ G 512 fb)] → va_S A s.heap H locs → lv_has ls 11 [(0, .ref qm), (1, .long t1), (3, .int (nI go)), (4, .long ((nF sts drw (nxF fx) (badOf sts drw (bdF fb))) (bv - 1))), (6, .long p9), (8, .int (nI j))] → W p l e R s m args below meth c H locs 0 0 Q (F0 m 93 ls []) := by
                intro n
                induction n with
                | zero => intro p9 j H locs ls hmu; omega
                | succ n ih =>
                  intro p9 j H locs ls hmu hj hw hP hD hS hl
                  have ih93 := ih
                  clear ih
                  refine lv_iload hx hb dM_prove_93 (lv_at hl 5 rfl) ?_
                  refine lv_aload_n hx hb dM_prove_95 rfl (lv_at hl 0 rfl) ?_
                  refine va_get (D := gD G) (ci := 6) (v := .ref xs) (C := "CircuitProverModel") (T := TM) (N := 20) hx hb htb inM hown hK hP 0 rfl rfl 11 (by decide) (htb _ b682) (fun _ h9 => h9) rfl dM_prove_96 ?_
                  refine lv_iconst (v := nI 2) hx hb dM_prove_99 (by decide) ?_
                  refine k_iald hx hb hK hP 1 rfl (k := 2) (by omega) (by decide) dM_prove_100 ?_
                  refine lv_icmp_ge (tgt := 139) hx hb dM_prove_101 rfl (fun h101 => ?_) (fun h101 => ?_)
                  · have h101 : fs 2 ≤ j := (nI_leI (a := fs 2) (b := j) (by omega) (by omega)).mp h101
                    have hw93 : p9 = widAll (widM sts) (fs 2) (nrF (nF sts drw (nxF fx) (badOf sts drw (bdF fb))) bv) ((postOf sts drw (nxF fx)) t1) := by rw [hw, show j = fs 2 by omega]
                    refine lv_lload hx hb dM_prove_139 (lv_at hl 4 rfl) ?_
                    refine lv_lload_n hx hb dM_prove_141 rfl (lv_at hl 1 rfl) ?_
                    refine lv_ldc2 (v := (-1)) hx hb hown (htb _ b860) dM_prove_142 ?_
                    refine lv_lxor hx hb dM_prove_145 ?_
                    refine lv_land hx hb dM_prove_146 ?_
                    refine lv_lconst (v := 0) hx hb dM_prove_147 (by decide) ?_
                    refine W.lcmp hx hb dM_prove_148 ?_
                    refine lv_if_eq (tgt := 156) hx hb dM_prove_149 rfl (fun h149 => ?_) (fun h149 => ?_)
                    · have h149 : (p9 &&& (t1 ^^^ (-1))) = 0 := (lg_cmp_eq _ _).mp h149
                      refine lv_iconst (v := nI 0) hx hb dM_prove_156 (by decide) ?_
                      refine lv_istore_n (lv' := [(3, .int (nI 0)), (0, .ref qm), (1, .long t1), (4, .long ((nF sts drw (nxF fx) (badOf sts drw (bdF fb))) (bv - 1))), (6, .long p9), (8, .int (nI j))]) hx hb dM_prove_157 rfl hl (by decide) rfl (fun ls hl => ?_)
                      refine lv_lload_n hx hb dM_prove_158 rfl (lv_at hl 2 rfl) ?_
                      refine lv_lload hx hb dM_prove_159 (lv_at hl 4 rfl) ?_
                      refine lv_lor hx hb dM_prove_161 ?_
                      refine lv_lstore_n (lv' := [(1, .long (t1 ||| p9)), (3, .int (nI 0)), (0, .ref qm), (4, .long ((nF sts drw (nxF fx) (badOf sts drw (bdF fb))) (bv - 1))), (6, .long p9), (8, .int (nI j))]) hx hb dM_prove_162 rfl hl (by decide) rfl (fun ls hl => ?_)
                      refine lv_goto (tgt := 19) hx hb dM_prove_163 rfl ?_
                      have hl : lv_has ls 11 [(0, .ref qm), (1, .long (t1 ||| p9)), (3, .int (nI 0))] := lv_sub hl [2, 0, 1] rfl
                      have hpp : prf (postOf sts drw (nxF fx)) (nrF (nF sts drw (nxF fx) (badOf sts drw (bdF fb)))) (widM sts) (fs 2) (sg stt) (f + 1) bv t1 rv = prf (postOf sts drw (nxF fx)) (nrF (nF sts drw (nxF fx) (badOf sts drw (bdF fb)))) (widM sts) (fs 2) (sg stt) 10000 1 (sg stt) 0 := he.1 (by omega)
                      rw [prf] at hpp
                      have hst5 : (0 = 1 → prf (postOf sts drw (nxF fx)) (nrF (nF sts drw (nxF fx) (badOf sts drw (bdF fb)))) (widM sts) (fs 2) (sg stt) f bv (t1 ||| p9) (rv + 1) = prf (postOf sts drw (nxF fx)) (nrF (nF sts drw (nxF fx) (badOf sts drw (bdF fb)))) (widM sts) (fs 2) (sg stt) 10000 1 (sg stt) 0) ∧ (0 = 0 → (bv, (t1 ||| p9), (rv + 1)) = prf (postOf sts drw (nxF fx)) (nrF (nF sts drw (nxF fx) (badOf sts drw (bdF fb)))) (widM sts) (fs 2) (sg stt) 10000 1 (sg stt) 0) := by first | (rw [show rnd (postOf sts drw (nxF fx)) (nrF (nF sts drw (nxF fx) (badOf sts drw (bdF fb)))) (widM sts) (fs 2) (sg stt) bv t1 = some (bv + 1, sg stt) from by unfold rnd; rw [if_pos (show ((postOf sts drw (nxF fx)) t1 &&& nrF (nF sts drw (nxF fx) (badOf sts drw (bdF fb))) bv) ≠ 0 from h67)]] at hpp; exact ⟨fun _ => hpp, fun h => by omega⟩) | (rw [show rnd (postOf sts drw (nxF fx)) (nrF (nF sts drw (nxF fx) (badOf sts drw (bdF fb)))) (widM sts) (fs 2) (sg stt) bv t1 = some (bv, t1 ||| p9) from by unfold rnd; rw [if_neg (fun z => z (show ((postOf sts drw (nxF fx)) t1 &&& nrF (nF sts drw (nxF fx) (badOf sts drw (bdF fb))) bv) = 0 from h67)), ← hw93, if_neg (show ¬ (p9 &&& (t1 ^^^ (-1))) = 0 from h149)]] at hpp; exact ⟨fun _ => hpp, fun h => by omega⟩) | (rw [show rnd (postOf sts drw (nxF fx)) (nrF (nF sts drw (nxF fx) (badOf sts drw (bdF fb)))) (widM sts) (fs 2) (sg stt) bv t1 = none from by unfold rnd; rw [if_neg (fun z => z (show ((postOf sts drw (nxF fx)) t1 &&& nrF (nF sts drw (nxF fx) (badOf sts drw (bdF fb))) bv) = 0 from h67)), ← hw93, if_pos (show (p9 &&& (t1 ^^^ (-1))) = 0 from h149)]] at hpp; exact ⟨fun h => by omega, fun _ => by rw [or_no h149]; exact hpp⟩)
                      exact ih19 (t1 ||| p9) 0 bv (rv + 1) f _ _ _ (by omega) (by omega) hst5 hP hD hS hl
                    · have h149 : ¬ (p9 &&& (t1 ^^^ (-1))) = 0 := fun z => h149 ((lg_cmp_eq _ _).mpr z)
                      refine lv_iconst (v := nI 1) hx hb dM_prove_152 (by decide) ?_
                      refine lv_goto (tgt := 157) hx hb dM_prove_153 rfl ?_
                      refine lv_istore_n (lv' := [(3, .int (nI 1)), (0, .ref qm), (1, .long t1), (4, .long ((nF sts drw (nxF fx) (badOf sts drw (bdF fb))) (bv - 1))), (6, .long p9), (8, .int (nI j))]) hx hb dM_prove_157 rfl hl (by decide) rfl (fun ls hl => ?_)
                      refine lv_lload_n hx hb dM_prove_158 rfl (lv_at hl 2 rfl) ?_
                      refine lv_lload hx hb dM_prove_159 (lv_at hl 4 rfl) ?_
                      refine lv_lor hx hb dM_prove_161 ?_
                      refine lv_lstore_n (lv' := [(1, .long (t1 ||| p9)), (3, .int (nI 1)), (0, .ref qm), (4, .long ((nF sts drw (nxF fx) (badOf sts drw (bdF fb))) (bv - 1))), (6, .long p9), (8, .int (nI j))]) hx hb dM_prove_162 rfl hl (by decide) rfl (fun ls hl => ?_)
                      refine lv_goto (tgt := 19) hx hb dM_prove_163 rfl ?_
                      have hl : lv_has ls 11 [(0, .ref qm), (1, .long (t1 ||| p9)), (3, .int (nI 1))] := lv_sub hl [2, 0, 1] rfl
                      have hpp : prf (postOf sts drw (nxF fx)) (nrF (nF sts drw (nxF fx) (badOf sts drw (bdF fb)))) (widM sts) (fs 2) (sg stt) (f + 1) bv t1 rv = prf (postOf sts drw (nxF fx)) (nrF (nF sts drw (nxF fx) (badOf sts drw (bdF fb)))) (widM sts) (fs 2) (sg stt) 10000 1 (sg stt) 0 := he.1 (by omega)
                      rw [prf] at hpp
                      have hst5 : (1 = 1 → prf (postOf sts drw (nxF fx)) (nrF (nF sts drw (nxF fx) (badOf sts drw (bdF fb)))) (widM sts) (fs 2) (sg stt) f bv (t1 ||| p9) (rv + 1) = prf (postOf sts drw (nxF fx)) (nrF (nF sts drw (nxF fx) (badOf sts drw (bdF fb)))) (widM sts) (fs 2) (sg stt) 10000 1 (sg stt) 0) ∧ (1 = 0 → (bv, (t1 ||| p9), (rv + 1)) = prf (postOf sts drw (nxF fx)) (nrF (nF sts drw (nxF fx) (badOf sts drw (bdF fb)))) (widM sts) (fs 2) (sg stt) 10000 1 (sg stt) 0) := by first | (rw [show rnd (postOf sts drw (nxF fx)) (nrF (nF sts drw (nxF fx) (badOf sts drw (bdF fb)))) (widM sts) (fs 2) (sg stt) bv t1 = some (bv + 1, sg stt) from by unfold rnd; rw [if_pos (show ((postOf sts drw (nxF fx)) t1 &&& nrF (nF sts drw (nxF fx) (badOf sts drw (bdF fb))) bv) ≠ 0 from h67)]] at hpp; exact ⟨fun _ => hpp, fun h => by omega⟩) | (rw [show rnd (postOf sts drw (nxF fx)) (nrF (nF sts drw (nxF fx) (badOf sts drw (bdF fb)))) (widM sts) (fs 2) (sg stt) bv t1 = some (bv, t1 ||| p9) from by unfold rnd; rw [if_neg (fun z => z (show ((postOf sts drw (nxF fx)) t1 &&& nrF (nF sts drw (nxF fx) (badOf sts drw (bdF fb))) bv) = 0 from h67)), ← hw93, if_neg (show ¬ (p9 &&& (t1 ^^^ (-1))) = 0 from h149)]] at hpp; exact ⟨fun _ => hpp, fun h => by omega⟩) | (rw [show rnd (postOf sts drw (nxF fx)) (nrF (nF sts drw (nxF fx) (badOf sts drw (bdF fb)))) (widM sts) (fs 2) (sg stt) bv t1 = none from by unfold rnd; rw [if_neg (fun z => z (show ((postOf sts drw (nxF fx)) t1 &&& nrF (nF sts drw (nxF fx) (badOf sts drw (bdF fb))) bv) = 0 from h67)), ← hw93, if_pos (show (p9 &&& (t1 ^^^ (-1))) = 0 from h149)]] at hpp; exact ⟨fun h => by omega, fun _ => by rw [or_no h149]; exact hpp⟩)
                      exact ih19 (t1 ||| p9) 1 bv (rv + 1) f _ _ _ (by omega) (by omega) hst5 hP hD hS hl
                  · have h101 : j < fs 2 := Nat.lt_of_not_le (fun z => h101 ((nI_leI (a := fs 2) (b := j) (by omega) (by omega)).mpr z))
                    refine lv_aload_n hx hb dM_prove_104 rfl (lv_at hl 0 rfl) ?_
                    refine lv_lload hx hb dM_prove_105 (lv_at hl 4 rfl) ?_
                    refine lv_iload hx hb dM_prove_107 (lv_at hl 5 rfl) ?_
                    refine k_l (ws2 := fun u => [(qm, .inr (6, [.int (nI th), .int (nI ul), .ref xt, .int (nI pt), .ref xh, .ref xi, .ref xl, .ref xo, .ref xg, .ref xd, .int (zB ld), .ref xs, .int (nI stt), .int (nI sts), .int (nI drw), .ref xn, .ref xb, .ref xv, .int (nI bv), .int (nI (rv + 1))])), (xs, aI G 5 fs), (xn, aI G 512 fx), (xb, aZ G 512 fb)]) (wr := [(xs, aI G 5 fs), (xn, aI G 512 fx), (xb, aZ G 512 fb)]) (k_runV (n := 2) (As := [.long p9, .int (nI j)]) (rest := []) hx hb hml hown htb hP hD hK hS hA hE (k_M_widen l G H.size qm xt xh xi xl xo xg xd xs xn xb xv th ul pt ld stt sts drw bv (rv + 1) p9 j (show sts ≤ 64 from by omega) (show j < 6 from by omega)) b856 b858 s48 b7 b859 (by decide +kernel) rfl rfl ⟨by rw [hRf]; exact Nat.le_of_ble_eq_true rfl, by rw [hRl]; exact Nat.le_of_ble_eq_true rfl⟩ [0] rfl (by decide) 0 rfl rfl rfl rfl hl.1 rfl (Nat.le_of_ble_eq_true rfl) dM_prove_109 ⟨Nat.zero_le _, Nat.zero_le _⟩) hP hD hS hA [0] [1, 2, 3] [3, 0, 1, 2] rfl rfl (by decide) (by decide) (fun u => rfl) (by decide) (fun r u H locs hw hP hD hS => ?_)
                    obtain ⟨rfl, rfl⟩ := hw
                    have hP : va_P (gD G) vC [(qm, .inr (6, [.int (nI th), .int (nI ul), .ref xt, .int (nI pt), .ref xh, .ref xi, .ref xl, .ref xo, .ref xg, .ref xd, .int (zB ld), .ref xs, .int (nI stt), .int (nI sts), .int (nI drw), .ref xn, .ref xb, .ref xv, .int (nI bv), .int (nI (rv + 1))])), (xs, aI G 5 fs), (xn, aI G 512 fx), (xb, aZ G 512 fb)] H := hP
                    have hD : va_D A [(qm, .inr (6, [.int (nI th), .int (nI ul), .ref xt, .int (nI pt), .ref xh, .ref xi, .ref xl, .ref xo, .ref xg, .ref xd, .int (zB ld), .ref xs, .int (nI stt), .int (nI sts), .int (nI drw), .ref xn, .ref xb, .ref xv, .int (nI bv), .int (nI (rv + 1))])), (xs, aI G 5 fs), (xn, aI G 512 fx), (xb, aZ G 512 fb)] := hD
                    refine lv_lstore (lv' := [(9, .long (widM sts p9 j)), (0, .ref qm), (1, .long t1), (3, .int (nI go)), (4, .long ((nF sts drw (nxF fx) (badOf sts drw (bdF fb))) (bv - 1))), (6, .long p9), (8, .int (nI j))]) hx hb dM_prove_112 hl (by decide) rfl (fun ls hl => ?_)
                    refine lv_lload hx hb dM_prove_114 (lv_at hl 0 rfl) ?_
                    refine lv_lload hx hb dM_prove_116 (lv_at hl 4 rfl) ?_
                    refine lv_land hx hb dM_prove_118 ?_
                    refine lv_lconst (v := 0) hx hb dM_prove_119 (by decide) ?_
                    refine W.lcmp hx hb dM_prove_120 ?_
                    refine lv_if_ne (tgt := 129) hx hb dM_prove_121 rfl (fun h121 => ?_) (fun h121 => ?_)
                    · have h121 : ¬ ((widM sts p9 j) &&& ((nF sts drw (nxF fx) (badOf sts drw (bdF fb))) (bv - 1))) = 0 := fun z => h121 ((lg_cmp_eq _ _).mpr z)
                      refine lv_lload hx hb dM_prove_129 (lv_at hl 5 rfl) ?_
                      refine lv_lstore (lv' := [(6, .long p9), (9, .long (widM sts p9 j)), (0, .ref qm), (1, .long t1), (3, .int (nI go)), (4, .long ((nF sts drw (nxF fx) (badOf sts drw (bdF fb))) (bv - 1))), (8, .int (nI j))]) hx hb dM_prove_131 hl (by decide) rfl (fun ls hl => ?_)
                      refine lv_iinc (v := nI (j + 1)) (lv' := [(8, .int (nI (j + 1))), (6, .long p9), (9, .long (widM sts p9 j)), (0, .ref qm), (1, .long t1), (3, .int (nI go)), (4, .long ((nF sts drw (nxF fx) (badOf sts drw (bdF fb))) (bv - 1)))]) hx hb dM_prove_133 hl (k := 6) rfl (nI_add _ 1) (by decide) rfl (fun ls hl => ?_)
                      refine lv_goto (tgt := 93) hx hb dM_prove_136 rfl ?_
                      have hl : lv_has ls 11 [(0, .ref qm), (1, .long t1), (3, .int (nI go)), (4, .long ((nF sts drw (nxF fx) (badOf sts drw (bdF fb))) (bv - 1))), (6, .long p9), (8, .int (nI (j + 1)))] := lv_sub hl [3, 4, 5, 6, 1, 0] rfl
                      exact ih93 p9 (j + 1) _ _ _ (by omega) (by omega) (by unfold widAll; rw [it_s]; unfold widAll at hw; rw [← hw]; first | rw [if_pos (show (widM sts p9 j &&& nrF (nF sts drw (nxF fx) (badOf sts drw (bdF fb))) bv) = 0 from h121)] | rw [if_neg (show ¬ (widM sts p9 j &&& nrF (nF sts drw (nxF fx) (badOf sts drw (bdF fb))) bv) = 0 from h121)]) hP hD hS hl
                    · have h121 : ((widM sts p9 j) &&& ((nF sts drw (nxF fx) (badOf sts drw (bdF fb))) (bv - 1))) = 0 := (lg_cmp_eq _ _).mp h121
                      refine lv_lload hx hb dM_prove_124 (lv_at hl 0 rfl) ?_
                      refine lv_goto (tgt := 131) hx hb dM_prove_126 rfl ?_
                      refine lv_lstore (lv' := [(6, .long (widM sts p9 j)), (9, .long (widM sts p9 j)), (0, .ref qm), (1, .long t1), (3, .int (nI go)), (4, .long ((nF sts drw (nxF fx) (badOf sts drw (bdF fb))) (bv - 1))), (8, .int (nI j))]) hx hb dM_prove_131 hl (by decide) rfl (fun ls hl => ?_)
                      refine lv_iinc (v := nI (j + 1)) (lv' := [(8, .int (nI (j + 1))), (6, .long (widM sts p9 j)), (9, .long (widM sts p9 j)), (0, .ref qm), (1, .long t1), (3, .int (nI go)), (4, .long ((nF sts drw (nxF fx) (badOf sts drw (bdF fb))) (bv - 1)))]) hx hb dM_prove_133 hl (k := 6) rfl (nI_add _ 1) (by decide) rfl (fun ls hl => ?_)
                      refine lv_goto (tgt := 93) hx hb dM_prove_136 rfl ?_
                      have hl : lv_has ls 11 [(0, .ref qm), (1, .long t1), (3, .int (nI go)), (4, .long ((nF sts drw (nxF fx) (badOf sts drw (bdF fb))) (bv - 1))), (6, .long (widM sts p9 j)), (8, .int (nI (j + 1)))] := lv_sub hl [3, 4, 5, 6, 1, 0] rfl
                      exact ih93 (widM sts p9 j) (j + 1) _ _ _ (by omega) (by omega) (by unfold widAll; rw [it_s]; unfold widAll at hw; rw [← hw]; first | rw [if_pos (show (widM sts p9 j &&& nrF (nF sts drw (nxF fx) (badOf sts drw (bdF fb))) bv) = 0 from h121)] | rw [if_neg (show ¬ (widM sts p9 j &&& nrF (nF sts drw (nxF fx) (badOf sts drw (bdF fb))) bv) = 0 from h121)]) hP hD hS hl
              have hl : lv_has ls 11 [(0, .ref qm), (1, .long t1), (3, .int (nI go)), (4, .long ((nF sts drw (nxF fx) (badOf sts drw (bdF fb))) (bv - 1))), (6, .long ((postOf sts drw (nxF fx)) t1)), (8, .int (nI 0))] := lv_sub hl [3, 4, 5, 2, 1, 0] rfl
              exact loop93 (fs 2 - 0 + 1) ((postOf sts drw (nxF fx)) t1) 0 _ _ _ (by omega) (by omega) rfl hP hD hS hl
            · have h67 : ¬ (((postOf sts drw (nxF fx)) t1) &&& ((nF sts drw (nxF fx) (badOf sts drw (bdF fb))) (bv - 1))) = 0 := fun z => h67 ((lg_cmp_eq _ _).mpr z)
              refine lv_aload_n hx hb dM_prove_70 rfl (lv_at hl 2 rfl) ?_
              refine lv_dup hx hb dM_prove_71 rfl ?_
              refine va_get (D := gD G) (ci := 6) (v := .int (nI bv)) (C := "CircuitProverModel") (T := TM) (N := 20) hx hb htb inM hown hK hP 0 rfl rfl 18 (by decide) (htb _ b689) (fun _ h9 => h9) rfl dM_prove_72 ?_
              refine lv_iconst (v := nI 1) hx hb dM_prove_75 (by decide) ?_
              refine lv_iadd hx hb dM_prove_76 ?_
              refine k_toi (y := nI (bv + 1)) (nI_add _ _) ?_
              refine va_put (D := gD G) (ci := 6) (v := .int (nI (bv + 1))) (ty := tyM 18) (C := "CircuitProverModel") (T := TM) (N := 20) hx hb htb inM tyM tyM_ok nmM hown hK hP hD hS 0 rfl rfl 18 (by decide) (htb _ b689) (fun _ h9 => h9) rfl (tyM_ok 18 (by decide)) rfl rfl (Nat.le_of_ble_eq_true rfl) dM_prove_77 (fun H locs hP hD hS => ?_)
              have hP : va_P (gD G) vC [(qm, .inr (6, [.int (nI th), .int (nI ul), .ref xt, .int (nI pt), .ref xh, .ref xi, .ref xl, .ref xo, .ref xg, .ref xd, .int (zB ld), .ref xs, .int (nI stt), .int (nI sts), .int (nI drw), .ref xn, .ref xb, .ref xv, .int (nI (bv + 1)), .int (nI (rv + 1))])), (xs, aI G 5 fs), (xn, aI G 512 fx), (xb, aZ G 512 fb)] H := hP
              have hD : va_D A [(qm, .inr (6, [.int (nI th), .int (nI ul), .ref xt, .int (nI pt), .ref xh, .ref xi, .ref xl, .ref xo, .ref xg, .ref xd, .int (zB ld), .ref xs, .int (nI stt), .int (nI sts), .int (nI drw), .ref xn, .ref xb, .ref xv, .int (nI (bv + 1)), .int (nI (rv + 1))])), (xs, aI G 5 fs), (xn, aI G 512 fx), (xb, aZ G 512 fb)] := hD
              refine lv_lconst (v := 1) hx hb dM_prove_80 (by decide) ?_
              refine lv_aload_n hx hb dM_prove_81 rfl (lv_at hl 2 rfl) ?_
              refine va_get (D := gD G) (ci := 6) (v := .int (nI stt)) (C := "CircuitProverModel") (T := TM) (N := 20) hx hb htb inM hown hK hP 0 rfl rfl 12 (by decide) (htb _ b683) (fun _ h9 => h9) rfl dM_prove_82 ?_
              refine lv_lshl (v := sg stt) hx hb dM_prove_85 rfl ?_
              refine lv_lstore_n (lv' := [(1, .long (sg stt)), (6, .long ((postOf sts drw (nxF fx)) t1)), (4, .long ((nF sts drw (nxF fx) (badOf sts drw (bdF fb))) (bv - 1))), (0, .ref qm), (3, .int (nI go))]) hx hb dM_prove_86 rfl hl (by decide) rfl (fun ls hl => ?_)
              refine lv_goto (tgt := 163) hx hb dM_prove_87 rfl ?_
              refine lv_goto (tgt := 19) hx hb dM_prove_163 rfl ?_
              have hl : lv_has ls 11 [(0, .ref qm), (1, .long (sg stt)), (3, .int (nI go))] := lv_sub hl [3, 0, 4] rfl
              have hpp : prf (postOf sts drw (nxF fx)) (nrF (nF sts drw (nxF fx) (badOf sts drw (bdF fb)))) (widM sts) (fs 2) (sg stt) (f + 1) bv t1 rv = prf (postOf sts drw (nxF fx)) (nrF (nF sts drw (nxF fx) (badOf sts drw (bdF fb)))) (widM sts) (fs 2) (sg stt) 10000 1 (sg stt) 0 := he.1 (by omega)
              rw [prf] at hpp
              have hst5 : (go = 1 → prf (postOf sts drw (nxF fx)) (nrF (nF sts drw (nxF fx) (badOf sts drw (bdF fb)))) (widM sts) (fs 2) (sg stt) f (bv + 1) (sg stt) (rv + 1) = prf (postOf sts drw (nxF fx)) (nrF (nF sts drw (nxF fx) (badOf sts drw (bdF fb)))) (widM sts) (fs 2) (sg stt) 10000 1 (sg stt) 0) ∧ (go = 0 → ((bv + 1), (sg stt), (rv + 1)) = prf (postOf sts drw (nxF fx)) (nrF (nF sts drw (nxF fx) (badOf sts drw (bdF fb)))) (widM sts) (fs 2) (sg stt) 10000 1 (sg stt) 0) := by first | (rw [show rnd (postOf sts drw (nxF fx)) (nrF (nF sts drw (nxF fx) (badOf sts drw (bdF fb)))) (widM sts) (fs 2) (sg stt) bv t1 = some (bv + 1, sg stt) from by unfold rnd; rw [if_pos (show ((postOf sts drw (nxF fx)) t1 &&& nrF (nF sts drw (nxF fx) (badOf sts drw (bdF fb))) bv) ≠ 0 from h67)]] at hpp; exact ⟨fun _ => hpp, fun h => by omega⟩) | (rw [show rnd (postOf sts drw (nxF fx)) (nrF (nF sts drw (nxF fx) (badOf sts drw (bdF fb)))) (widM sts) (fs 2) (sg stt) bv t1 = some (bv, t1 ||| p9) from by unfold rnd; rw [if_neg (fun z => z (show ((postOf sts drw (nxF fx)) t1 &&& nrF (nF sts drw (nxF fx) (badOf sts drw (bdF fb))) bv) = 0 from h67)), ← hw93, if_neg (show ¬ (p9 &&& (t1 ^^^ (-1))) = 0 from h149)]] at hpp; exact ⟨fun _ => hpp, fun h => by omega⟩) | (rw [show rnd (postOf sts drw (nxF fx)) (nrF (nF sts drw (nxF fx) (badOf sts drw (bdF fb)))) (widM sts) (fs 2) (sg stt) bv t1 = none from by unfold rnd; rw [if_neg (fun z => z (show ((postOf sts drw (nxF fx)) t1 &&& nrF (nF sts drw (nxF fx) (badOf sts drw (bdF fb))) bv) = 0 from h67)), ← hw93, if_pos (show (p9 &&& (t1 ^^^ (-1))) = 0 from h149)]] at hpp; exact ⟨fun h => by omega, fun _ => by rw [or_no h149]; exact hpp⟩)
              exact ih19 (sg stt) go (bv + 1) (rv + 1) f _ _ _ (by omega) (by omega) hst5 hP hD hS hl
    have hl : lv_has ls 11 [(0, .ref qm), (1, .long (sg stt)), (3, .int (nI 1))] := lv_sub hl [2, 1, 0] rfl
    exact loop19 (10000 + 1) (sg stt) 1 1 0 10000 _ _ _ (by omega) (by omega) (⟨fun _ => rfl, fun h => by omega⟩) hP hD hS hl
  rw [hH, hlc] at hgo
  exact hgo
