theorem lo8 (y : Int64) : (Int64.toInt32 y).toBitVec.toNat % 256 = y.toBitVec.toNat % 256 := by
  rw [Int64.toBitVec_toInt32, BitVec.signExtend_eq_setWidth_of_le _ (by decide), BitVec.toNat_setWidth, Nat.mod_mod_of_dvd _ (by decide)]
theorem byt_sr (x : Int64) {j : Nat} (hj : j ≤ 7) : (Int64.toInt32 (sr x (8 * (7 - j)))).toBitVec.toNat % 256 = byt x j := by
  unfold byt
  rw [show 8 * (7 - j) = 56 - 8 * j by omega, lo8, lo8]
  generalize hk : 56 - 8 * j = k
  apply Nat.eq_of_testBit_eq
  intro i
  rw [show (256 : Nat) = 2 ^ 8 from rfl, Nat.testBit_mod_two_pow, Nat.testBit_mod_two_pow]
  by_cases hi : i < 8
  · rw [decide_eq_true hi, Bool.true_and, Bool.true_and]
    show lb (sr x k) i = lb (su x k) i
    rw [lb_sr x (by omega) (by omega), if_pos (by omega), lb_su x (by omega)]
  · rw [decide_eq_false hi, Bool.false_and, Bool.false_and]
def sw (j : Nat) : Int32 := nI 7 - nI j
theorem sw_n {j : Nat} (h : j ≤ 7) : sw j = nI (7 - j) := pk_sub h
theorem sw_s (j : Nat) : sw j + (-1) = sw (j + 1) := by
  unfold sw
  rw [← nI_add, Int32.sub_eq_add_neg, Int32.sub_eq_add_neg, Int32.neg_add, Int32.sub_eq_add_neg, Int32.add_assoc]
  rfl
theorem sw_neg : ∀ j, j ≤ 8 → (sw j < 0 ↔ j = 8) := by decide +kernel
theorem ap_lo {x : Int64} {tx : Nat → Nat} {us j p : Nat} (hp : p < us) : apB x tx us j p = tx p := by
  induction j with
  | zero => rfl
  | succ j ih =>
    rw [apB]
    split
    · exact ih
    · rw [va_up_ne _ _ (by omega)]; exact ih
theorem ap_128 {x : Int64} {tx : Nat → Nat} {us j : Nat} (ht : ∀ p, tx p < 128) (h : okB x j) : ∀ p, apB x tx us j p < 128 := by
  induction j with
  | zero => exact ht
  | succ j ih =>
    intro p
    have ih := ih (fun i hi => h i (by omega)) p
    rw [apB]
    split
    · exact ih
    · rename_i hne
      by_cases e : p = us + cB x j
      · subst e
        rw [va_up_self]
        have h9 := h j (by omega) hne
        unfold vch at h9
        omega
      · rw [va_up_ne _ _ e]; exact ih
set_option maxRecDepth 100000 in
set_option maxHeartbeats 4000000 in
theorem k_M_type (l : Launch) (G : GG) (sz : Nat) (qm : Nat) (xt : Nat) (xh : Nat) (xi : Nat) (xl : Nat) (xo : Nat) (xg : Nat) (xd : Nat) (xs : Nat) (xn : Nat) (xb : Nat) (xv : Nat) (th : Nat) (ul : Nat) (pt : Nat) (ld : Bool) (stt : Nat) (sts : Nat) (drw : Nat) (bd : Nat) (rd : Nat) (tx : Nat → Nat) (x : Int64) (hul : ul ≤ 400) (htx : ∀ j, tx j < 128) : Ki l yM_type cM_type 6 .boolean 0 0 G [.ref qm, .long x] [(qm, .inr (6, [.int (nI th), .int (nI ul), .ref xt, .int (nI pt), .ref xh, .ref xi, .ref xl, .ref xo, .ref xg, .ref xd, .int (zB ld), .ref xs, .int (nI stt), .int (nI sts), .int (nI drw), .ref xn, .ref xb, .ref xv, .int (nI bd), .int (nI rd)])), (xt, aI G 400 tx)] sz (fun (r : Int32) (u : Nat × Nat × (Nat → Nat)) => ((okB x 8 ∧ ul + cB x 8 ≤ 400) ∧ nI 1 = r ∧ (0, ul + cB x 8, apB x tx ul 8) = u) ∨ (∃ (t9 : Nat → Nat), (¬ (okB x 8 ∧ ul + cB x 8 ≤ 400)) ∧ (∀ p, p < ul → t9 p = tx p) ∧ (∀ p, t9 p < 128) ∧ nI 0 = r ∧ (0, ul, t9) = u)) (fun (u : Nat × Nat × (Nat → Nat)) => [(qm, .inr (6, [.int (nI u.1), .int (nI u.2.1), .ref xt, .int (nI pt), .ref xh, .ref xi, .ref xl, .ref xo, .ref xg, .ref xd, .int (zB ld), .ref xs, .int (nI stt), .int (nI sts), .int (nI drw), .ref xn, .ref xb, .ref xv, .int (nI bd), .int (nI rd)])), (xt, aI G 400 u.2.2)]) := by
  refine Met.ofW (cc := cM_type) (maxL := 6) (ret := (some .boolean)) (by decide) rfl ?_
  intro p e s m args below meth c s₁ B hml hv
  obtain ⟨hav, hsz, hP, hK, hD0, hE⟩ := hv
  have hx := B.exec
  have hb := B.bytes
  have hr := B.returns
  have htb : ∀ w ∈ TB, w.before args s = true := fun w h => atoms_spec (ws := Cond.code yM_type cM_type 6 (some .boolean) :: TB) B.pre w (List.mem_cons_of_mem _ h)
  have hown : s.vm.findClass "CircuitProverModel" = some m.cls := findClass_of_methodNamed B.named
  have hlocks := B.notSynchronized
  subst hsz
  have hD := hD0.self (sz := s.heap.size)
  clear hD0
  generalize hRm : (headSpec (Cond.code yM_type cM_type 6 (some .boolean) :: TB) { frames := 0, cells := 0, slots := 0, locals := 0 }).room = R
  have hRf : R.frames = 0 := by rw [← hRm]; rfl
  have hRl : R.locals = 0 := by rw [← hRm]; rfl
  have hRc : R.cells = 0 := by rw [← hRm]; rfl
  have hRs : R.slots = 0 := by rw [← hRm]; rfl
  clear hRm
  generalize hAe : va_A [(qm, .inr (6, [.int (nI th), .int (nI ul), .ref xt, .int (nI pt), .ref xh, .ref xi, .ref xl, .ref xo, .ref xg, .ref xd, .int (zB ld), .ref xs, .int (nI stt), .int (nI sts), .int (nI drw), .ref xn, .ref xb, .ref xv, .int (nI bd), .int (nI rd)])), (xt, aI G 400 tx)] s.heap.size = A at hD hE ⊢
  have hA : ∀ q : Nat, s.heap.size ≤ q → A q := fun q h => by rw [← hAe]; exact Or.inr h
  clear hAe
  have hS : va_S A s.heap s.heap [] := va_S.rf
  have hl := lv_entry ([.ref qm, .long x]) (n := 6) (Nat.le_of_ble_eq_true rfl)
  have hent := lg_entry_eq m ([.ref qm, .long x]) 6
  rw [← hav] at hent
  rw [hent]
  clear hent hav
  generalize (lg_sl ([.ref qm, .long x]) ++ List.replicate (6 - (lg_sl ([.ref qm, .long x])).length) Slot.unset).toArray = ls at hl ⊢
  have hl : lv_has ls 6 [(0, .ref qm), (1, .long x)] := hl
  generalize hQ : MQ below _ args s 0 0 _ = Q
  have hP : va_P (gD G) vC [(qm, .inr (6, [.int (nI th), .int (nI ul), .ref xt, .int (nI pt), .ref xh, .ref xi, .ref xl, .ref xo, .ref xg, .ref xd, .int (zB ld), .ref xs, .int (nI stt), .int (nI sts), .int (nI drw), .ref xn, .ref xb, .ref xv, .int (nI bd), .int (nI rd)])), (xt, aI G 400 tx)] s.heap := hP
  obtain ⟨H, hH⟩ : ∃ H : Heap, H = s.heap := ⟨_, rfl⟩
  obtain ⟨locs, hlc⟩ : ∃ L : List Loc, L = [] := ⟨_, rfl⟩
  have hS : va_S A s.heap H locs := by rw [hH, hlc]; exact hS
  have hP : va_P (gD G) vC [(qm, .inr (6, [.int (nI th), .int (nI ul), .ref xt, .int (nI pt), .ref xh, .ref xi, .ref xl, .ref xo, .ref xg, .ref xd, .int (zB ld), .ref xs, .int (nI stt), .int (nI sts), .int (nI drw), .ref xn, .ref xb, .ref xv, .int (nI bd), .int (nI rd)])), (xt, aI G 400 tx)] H := by rw [hH]; exact hP
  have hgo : W p l e R s m args below meth c H locs 0 0 Q (F0 m 0 ls []) := by
    clear hH hlc
    refine lv_aload_n hx hb dM_type_0 rfl (lv_at hl 0 rfl) ?_
    refine lv_iconst (v := nI 0) hx hb dM_type_1 (by decide) ?_
    refine va_put (D := gD G) (ci := 6) (v := .int (nI 0)) (ty := tyM 0) (C := "CircuitProverModel") (T := TM) (N := 20) hx hb htb inM tyM tyM_ok nmM hown hK hP hD hS 0 rfl rfl 0 (by decide) (htb _ b671) (fun _ h9 => h9) rfl (tyM_ok 0 (by decide)) rfl rfl (Nat.le_of_ble_eq_true rfl) dM_type_2 (fun H locs hP hD hS => ?_)
    have hP : va_P (gD G) vC [(qm, .inr (6, [.int (nI 0), .int (nI ul), .ref xt, .int (nI pt), .ref xh, .ref xi, .ref xl, .ref xo, .ref xg, .ref xd, .int (zB ld), .ref xs, .int (nI stt), .int (nI sts), .int (nI drw), .ref xn, .ref xb, .ref xv, .int (nI bd), .int (nI rd)])), (xt, aI G 400 tx)] H := hP
    have hD : va_D A [(qm, .inr (6, [.int (nI 0), .int (nI ul), .ref xt, .int (nI pt), .ref xh, .ref xi, .ref xl, .ref xo, .ref xg, .ref xd, .int (zB ld), .ref xs, .int (nI stt), .int (nI sts), .int (nI drw), .ref xn, .ref xb, .ref xv, .int (nI bd), .int (nI rd)])), (xt, aI G 400 tx)] := hD
    refine lv_aload_n hx hb dM_type_5 rfl (lv_at hl 0 rfl) ?_
    refine va_get (D := gD G) (ci := 6) (v := .int (nI ul)) (C := "CircuitProverModel") (T := TM) (N := 20) hx hb htb inM hown hK hP 0 rfl rfl 1 (by decide) (htb _ b672) (fun _ h9 => h9) rfl dM_type_6 ?_
    refine lv_istore_n (lv' := [(3, .int (nI ul)), (0, .ref qm), (1, .long x)]) hx hb dM_type_9 rfl hl (by decide) rfl (fun ls hl => ?_)
    refine lv_bipush (v := nI 7) hx hb dM_type_10 (by decide) ?_
    refine lv_istore (lv' := [(4, .int (nI 7)), (3, .int (nI ul)), (0, .ref qm), (1, .long x)]) hx hb dM_type_12 hl (by decide) rfl (fun ls hl => ?_)
    have loop14 : ∀ (n : Nat) (nn : Nat) (jv : Int32) (t1 : Nat → Nat) (j : Nat) (H : Heap) (locs : List Loc) (ls : Array Slot), 8 - j < n → (j ≤ 8 ∧ nn ≤ 400) → (jv = sw j) → (nn = ul + cB x j) → (okB x j) → (t1 = apB x tx ul j) → va_P (gD G) vC [(qm, .inr (6, [.int (nI 0), .int (nI ul), .ref xt, .int (nI pt), .ref xh, .ref xi, .ref xl, .ref xo, .ref xg, .ref xd, .int (zB ld), .ref xs, .int (nI stt), .int (nI sts), .int (nI drw), .ref xn, .ref xb, .ref xv, .int (nI bd), .int (nI rd)])), (xt, aI G 400 t1)] H → va_D A [(qm, .inr (6, [.int (nI 0), .int (nI ul), .ref xt, .int (nI pt), .ref xh, .ref xi, .ref xl, .ref xo, .ref xg, .ref xd, .int (zB ld), .ref xs, .int (nI stt), .int (nI sts), .int (nI drw), .ref xn, .ref xb, .ref xv, .int (nI bd), .int (nI rd)])), (xt, aI G 400 t1)] → va_S A s.heap H locs → lv_has ls 6 [(0, .ref qm), (1, .long x), (3, .int (nI nn)), (4, .int jv)] → W p l e R s m args below meth c H locs 0 0 Q (F0 m 14 ls []) := by
      intro n
      induction n with
      | zero => intro nn jv t1 j H locs ls hmu; omega
      | succ n ih =>
        intro nn jv t1 j H locs ls hmu hj hjv hn ho ht hP hD hS hl
        have ih14 := ih
        clear ih
        refine lv_iload hx hb dM_type_14 (lv_at hl 3 rfl) ?_
        refine lv_if_lt (tgt := 90) hx hb dM_type_16 rfl (fun h16 => ?_) (fun h16 => ?_)
        · skip
          refine lv_aload_n hx hb dM_type_90 rfl (lv_at hl 0 rfl) ?_
          refine lv_iload_n hx hb dM_type_91 rfl (lv_at hl 2 rfl) ?_
          refine va_put (D := gD G) (ci := 6) (v := .int (nI nn)) (ty := tyM 1) (C := "CircuitProverModel") (T := TM) (N := 20) hx hb htb inM tyM tyM_ok nmM hown hK hP hD hS 0 rfl rfl 1 (by decide) (htb _ b672) (fun _ h9 => h9) rfl (tyM_ok 1 (by decide)) rfl rfl (Nat.le_of_ble_eq_true rfl) dM_type_92 (fun H locs hP hD hS => ?_)
          have hP : va_P (gD G) vC [(qm, .inr (6, [.int (nI 0), .int (nI nn), .ref xt, .int (nI pt), .ref xh, .ref xi, .ref xl, .ref xo, .ref xg, .ref xd, .int (zB ld), .ref xs, .int (nI stt), .int (nI sts), .int (nI drw), .ref xn, .ref xb, .ref xv, .int (nI bd), .int (nI rd)])), (xt, aI G 400 t1)] H := hP
          have hD : va_D A [(qm, .inr (6, [.int (nI 0), .int (nI nn), .ref xt, .int (nI pt), .ref xh, .ref xi, .ref xl, .ref xo, .ref xg, .ref xd, .int (zB ld), .ref xs, .int (nI stt), .int (nI sts), .int (nI drw), .ref xn, .ref xb, .ref xv, .int (nI bd), .int (nI rd)])), (xt, aI G 400 t1)] := hD
          refine lv_iconst (v := nI 1) hx hb dM_type_95 (by decide) ?_
          -- end 0
          rw [← hQ]
          exact k_iret hx hb hr hlocks (by decide) (u := (0, nn, t1)) (Or.inl (by have h8 : j = 8 := (sw_neg j hj.1).mp (by rw [← hjv]; exact h16); subst h8; exact ⟨⟨ho, by omega⟩, rfl, by rw [ht, hn]⟩)) hP hD hK hS dM_type_96
        · skip
          have hj7 : j ≤ 7 := by rcases Nat.lt_or_ge j 8 with h9 | h9; (exact Nat.le_of_lt_succ h9); (exact absurd ((sw_neg j hj.1).mpr (by omega)) (by rw [← hjv]; exact h16))
          have hbl := byt_lt x j
          refine lv_lload_n hx hb dM_type_19 rfl (lv_at hl 1 rfl) ?_
          refine lv_bipush (v := nI 8) hx hb dM_type_20 (by decide) ?_
          refine lv_iload hx hb dM_type_22 (lv_at hl 3 rfl) ?_
          refine k_toi (y := nI (7 - j)) (by rw [hjv]; exact sw_n hj7) ?_
          refine lv_imul hx hb dM_type_24 ?_
          refine k_toi (y := nI (8 * (7 - j))) (pk_mul _ _) ?_
          refine lv_lshr (v := sr x (8 * (7 - j))) hx hb dM_type_25 rfl ?_
          refine lv_l2i (v := Int64.toInt32 (sr x (8 * (7 - j)))) hx hb dM_type_26 rfl ?_
          refine lv_sipush (v := nI 255) hx hb dM_type_27 (by decide) ?_
          refine lv_iand hx hb dM_type_30 ?_
          refine k_toi (y := nI ((Int64.toInt32 (sr x (8 * (7 - j)))).toBitVec.toNat % 256)) (pk_and _ 8 (by decide)) ?_
          refine k_toi (y := nI (byt x j)) (by rw [byt_sr x hj7]) ?_
          refine lv_istore (lv' := [(5, .int (nI (byt x j))), (0, .ref qm), (1, .long x), (3, .int (nI nn)), (4, .int jv)]) hx hb dM_type_31 hl (by decide) rfl (fun ls hl => ?_)
          refine lv_iload hx hb dM_type_33 (lv_at hl 0 rfl) ?_
          refine lv_if_eq (tgt := 68) hx hb dM_type_35 rfl (fun h35 => ?_) (fun h35 => ?_)
          · have h35 : byt x j = 0 := (nI_eq (a := byt x j) (b := 0) (by omega) (by omega)).mp h35
            refine lv_iload hx hb dM_type_68 (lv_at hl 0 rfl) ?_
            refine lv_if_eq (tgt := 84) hx hb dM_type_70 rfl (fun h70 => ?_) (fun h70 => ?_)
            · have h70 : byt x j = 0 := (nI_eq (a := byt x j) (b := 0) (by omega) (by omega)).mp h70
              refine lv_iinc (v := jv + (-1)) (lv' := [(4, .int (jv + (-1))), (5, .int (nI (byt x j))), (0, .ref qm), (1, .long x), (3, .int (nI nn))]) hx hb dM_type_84 hl (k := 4) rfl (rfl) (by decide) rfl (fun ls hl => ?_)
              refine lv_goto (tgt := 14) hx hb dM_type_87 rfl ?_
              have hl : lv_has ls 6 [(0, .ref qm), (1, .long x), (3, .int (nI nn)), (4, .int (jv + (-1)))] := lv_sub hl [2, 3, 4, 0] rfl
              exact ih14 nn (jv + (-1)) t1 (j + 1) _ _ _ (by omega) (by omega) (by rw [hjv]; exact sw_s j) (by rw [cB]; first | rw [if_pos h35, hn, Nat.add_zero] | rw [if_neg h35, hn, Nat.add_assoc]) (okB_s ho (fun h0 => by first | exact absurd h35 h0 | (unfold vch; omega))) (by rw [apB]; first | rw [if_pos h35, ht] | rw [if_neg h35, ht, hn]) hP hD hS hl
            · have h70 : ¬ byt x j = 0 := fun z => h70 ((nI_eq (a := byt x j) (b := 0) (by omega) (by omega)).mpr z)
              exfalso; omega
          · have h35 : ¬ byt x j = 0 := fun z => h35 ((nI_eq (a := byt x j) (b := 0) (by omega) (by omega)).mpr z)
            refine lv_iload hx hb dM_type_38 (lv_at hl 0 rfl) ?_
            refine lv_bipush (v := nI 10) hx hb dM_type_40 (by decide) ?_
            refine lv_icmp_eq (tgt := 52) hx hb dM_type_42 rfl (fun h42 => ?_) (fun h42 => ?_)
            · have h42 : byt x j = 10 := (nI_eq (a := byt x j) (b := 10) (by omega) (by omega)).mp h42
              refine lv_iload hx hb dM_type_52 (lv_at hl 0 rfl) ?_
              refine lv_bipush (v := nI 126) hx hb dM_type_54 (by decide) ?_
              refine lv_icmp_gt (tgt := 66) hx hb dM_type_56 rfl (fun h56 => ?_) (fun h56 => ?_)
              · have h56 : 126 < byt x j := (nI_ltI (a := 126) (b := byt x j) (by omega) (by omega)).mp h56
                refine lv_iconst (v := nI 0) hx hb dM_type_66 (by decide) ?_
                -- end 1
                rw [← hQ]
                exact k_iret hx hb hr hlocks (by decide) (u := (0, ul, t1)) (Or.inr ⟨_, fun z => (by have h9 := z.1 j (by omega) h35; have hcl1 := cB_mono x (show j + 1 ≤ 8 by omega); rw [cB, if_neg h35] at hcl1; unfold vch at h9; omega), (by rw [ht]; exact fun p hp => ap_lo hp), (by rw [ht]; exact ap_128 htx ho), rfl, rfl⟩) hP hD hK hS dM_type_67
              · have h56 : byt x j ≤ 126 := Nat.le_of_not_lt (fun z => h56 ((nI_ltI (a := 126) (b := byt x j) (by omega) (by omega)).mpr z))
                refine lv_iload_n hx hb dM_type_59 rfl (lv_at hl 3 rfl) ?_
                refine lv_sipush (v := nI 400) hx hb dM_type_60 (by decide) ?_
                refine lv_icmp_ne (tgt := 68) hx hb dM_type_63 rfl (fun h63 => ?_) (fun h63 => ?_)
                · have h63 : ¬ nn = 400 := fun z => h63 ((nI_eq (a := nn) (b := 400) (by omega) (by omega)).mpr z)
                  refine lv_iload hx hb dM_type_68 (lv_at hl 0 rfl) ?_
                  refine lv_if_eq (tgt := 84) hx hb dM_type_70 rfl (fun h70 => ?_) (fun h70 => ?_)
                  · have h70 : byt x j = 0 := (nI_eq (a := byt x j) (b := 0) (by omega) (by omega)).mp h70
                    exfalso; omega
                  · have h70 : ¬ byt x j = 0 := fun z => h70 ((nI_eq (a := byt x j) (b := 0) (by omega) (by omega)).mpr z)
                    refine lv_aload_n hx hb dM_type_73 rfl (lv_at hl 1 rfl) ?_
                    refine va_get (D := gD G) (ci := 6) (v := .ref xt) (C := "CircuitProverModel") (T := TM) (N := 20) hx hb htb inM hown hK hP 0 rfl rfl 2 (by decide) (htb _ b673) (fun _ h9 => h9) rfl dM_type_74 ?_
                    refine lv_iload_n hx hb dM_type_77 rfl (lv_at hl 3 rfl) ?_
                    refine lv_iload hx hb dM_type_78 (lv_at hl 0 rfl) ?_
                    refine k_iast hx hb hK hP hD hS 1 rfl (k := nn) (v := byt x j) (by omega) (by decide) dM_type_80 (fun H locs hP hD hS => ?_)
                    have hP : va_P (gD G) vC [(qm, .inr (6, [.int (nI 0), .int (nI ul), .ref xt, .int (nI pt), .ref xh, .ref xi, .ref xl, .ref xo, .ref xg, .ref xd, .int (zB ld), .ref xs, .int (nI stt), .int (nI sts), .int (nI drw), .ref xn, .ref xb, .ref xv, .int (nI bd), .int (nI rd)])), (xt, aI G 400 (va_up t1 nn (byt x j)))] H := hP
                    have hD : va_D A [(qm, .inr (6, [.int (nI 0), .int (nI ul), .ref xt, .int (nI pt), .ref xh, .ref xi, .ref xl, .ref xo, .ref xg, .ref xd, .int (zB ld), .ref xs, .int (nI stt), .int (nI sts), .int (nI drw), .ref xn, .ref xb, .ref xv, .int (nI bd), .int (nI rd)])), (xt, aI G 400 (va_up t1 nn (byt x j)))] := hD
                    refine lv_iinc (v := nI (nn + 1)) (lv' := [(3, .int (nI (nn + 1))), (5, .int (nI (byt x j))), (0, .ref qm), (1, .long x), (4, .int jv)]) hx hb dM_type_81 hl (k := 3) rfl (nI_add _ 1) (by decide) rfl (fun ls hl => ?_)
                    refine lv_iinc (v := jv + (-1)) (lv' := [(4, .int (jv + (-1))), (3, .int (nI (nn + 1))), (5, .int (nI (byt x j))), (0, .ref qm), (1, .long x)]) hx hb dM_type_84 hl (k := 4) rfl (rfl) (by decide) rfl (fun ls hl => ?_)
                    refine lv_goto (tgt := 14) hx hb dM_type_87 rfl ?_
                    have hl : lv_has ls 6 [(0, .ref qm), (1, .long x), (3, .int (nI (nn + 1))), (4, .int (jv + (-1)))] := lv_sub hl [3, 4, 1, 0] rfl
                    exact ih14 (nn + 1) (jv + (-1)) (va_up t1 nn (byt x j)) (j + 1) _ _ _ (by omega) (by omega) (by rw [hjv]; exact sw_s j) (by rw [cB]; first | rw [if_pos h35, hn, Nat.add_zero] | rw [if_neg h35, hn, Nat.add_assoc]) (okB_s ho (fun h0 => by first | exact absurd h35 h0 | (unfold vch; omega))) (by rw [apB]; first | rw [if_pos h35, ht] | rw [if_neg h35, ht, hn]) hP hD hS hl
                · have h63 : nn = 400 := (nI_eq (a := nn) (b := 400) (by omega) (by omega)).mp h63
                  refine lv_iconst (v := nI 0) hx hb dM_type_66 (by decide) ?_
                  -- end 2
                  rw [← hQ]
                  exact k_iret hx hb hr hlocks (by decide) (u := (0, ul, t1)) (Or.inr ⟨_, fun z => (by have h9 := z.1 j (by omega) h35; have hcl1 := cB_mono x (show j + 1 ≤ 8 by omega); rw [cB, if_neg h35] at hcl1; unfold vch at h9; omega), (by rw [ht]; exact fun p hp => ap_lo hp), (by rw [ht]; exact ap_128 htx ho), rfl, rfl⟩) hP hD hK hS dM_type_67
            · have h42 : ¬ byt x j = 10 := fun z => h42 ((nI_eq (a := byt x j) (b := 10) (by omega) (by omega)).mpr z)
              refine lv_iload hx hb dM_type_45 (lv_at hl 0 rfl) ?_
              refine lv_bipush (v := nI 32) hx hb dM_type_47 (by decide) ?_
              refine lv_icmp_lt (tgt := 66) hx hb dM_type_49 rfl (fun h49 => ?_) (fun h49 => ?_)
              · have h49 : byt x j < 32 := (nI_ltI (a := byt x j) (b := 32) (by omega) (by omega)).mp h49
                refine lv_iconst (v := nI 0) hx hb dM_type_66 (by decide) ?_
                -- end 3
                rw [← hQ]
                exact k_iret hx hb hr hlocks (by decide) (u := (0, ul, t1)) (Or.inr ⟨_, fun z => (by have h9 := z.1 j (by omega) h35; have hcl1 := cB_mono x (show j + 1 ≤ 8 by omega); rw [cB, if_neg h35] at hcl1; unfold vch at h9; omega), (by rw [ht]; exact fun p hp => ap_lo hp), (by rw [ht]; exact ap_128 htx ho), rfl, rfl⟩) hP hD hK hS dM_type_67
              · have h49 : 32 ≤ byt x j := Nat.le_of_not_lt (fun z => h49 ((nI_ltI (a := byt x j) (b := 32) (by omega) (by omega)).mpr z))
                refine lv_iload hx hb dM_type_52 (lv_at hl 0 rfl) ?_
                refine lv_bipush (v := nI 126) hx hb dM_type_54 (by decide) ?_
                refine lv_icmp_gt (tgt := 66) hx hb dM_type_56 rfl (fun h56 => ?_) (fun h56 => ?_)
                · have h56 : 126 < byt x j := (nI_ltI (a := 126) (b := byt x j) (by omega) (by omega)).mp h56
                  refine lv_iconst (v := nI 0) hx hb dM_type_66 (by decide) ?_
                  -- end 4
                  rw [← hQ]
                  exact k_iret hx hb hr hlocks (by decide) (u := (0, ul, t1)) (Or.inr ⟨_, fun z => (by have h9 := z.1 j (by omega) h35; have hcl1 := cB_mono x (show j + 1 ≤ 8 by omega); rw [cB, if_neg h35] at hcl1; unfold vch at h9; omega), (by rw [ht]; exact fun p hp => ap_lo hp), (by rw [ht]; exact ap_128 htx ho), rfl, rfl⟩) hP hD hK hS dM_type_67
                · have h56 : byt x j ≤ 126 := Nat.le_of_not_lt (fun z => h56 ((nI_ltI (a := 126) (b := byt x j) (by omega) (by omega)).mpr z))
                  refine lv_iload_n hx hb dM_type_59 rfl (lv_at hl 3 rfl) ?_
                  refine lv_sipush (v := nI 400) hx hb dM_type_60 (by decide) ?_
                  refine lv_icmp_ne (tgt := 68) hx hb dM_type_63 rfl (fun h63 => ?_) (fun h63 => ?_)
                  · have h63 : ¬ nn = 400 := fun z => h63 ((nI_eq (a := nn) (b := 400) (by omega) (by omega)).mpr z)
                    refine lv_iload hx hb dM_type_68 (lv_at hl 0 rfl) ?_
                    refine lv_if_eq (tgt := 84) hx hb dM_type_70 rfl (fun h70 => ?_) (fun h70 => ?_)
                    · have h70 : byt x j = 0 := (nI_eq (a := byt x j) (b := 0) (by omega) (by omega)).mp h70
                      exfalso; omega
                    · have h70 : ¬ byt x j = 0 := fun z => h70 ((nI_eq (a := byt x j) (b := 0) (by omega) (by omega)).mpr z)
                      refine lv_aload_n hx hb dM_type_73 rfl (lv_at hl 1 rfl) ?_
                      refine va_get (D := gD G) (ci := 6) (v := .ref xt) (C := "CircuitProverModel") (T := TM) (N := 20) hx hb htb inM hown hK hP 0 rfl rfl 2 (by decide) (htb _ b673) (fun _ h9 => h9) rfl dM_type_74 ?_
                      refine lv_iload_n hx hb dM_type_77 rfl (lv_at hl 3 rfl) ?_
                      refine lv_iload hx hb dM_type_78 (lv_at hl 0 rfl) ?_
                      refine k_iast hx hb hK hP hD hS 1 rfl (k := nn) (v := byt x j) (by omega) (by decide) dM_type_80 (fun H locs hP hD hS => ?_)
                      have hP : va_P (gD G) vC [(qm, .inr (6, [.int (nI 0), .int (nI ul), .ref xt, .int (nI pt), .ref xh, .ref xi, .ref xl, .ref xo, .ref xg, .ref xd, .int (zB ld), .ref xs, .int (nI stt), .int (nI sts), .int (nI drw), .ref xn, .ref xb, .ref xv, .int (nI bd), .int (nI rd)])), (xt, aI G 400 (va_up t1 nn (byt x j)))] H := hP
                      have hD : va_D A [(qm, .inr (6, [.int (nI 0), .int (nI ul), .ref xt, .int (nI pt), .ref xh, .ref xi, .ref xl, .ref xo, .ref xg, .ref xd, .int (zB ld), .ref xs, .int (nI stt), .int (nI sts), .int (nI drw), .ref xn, .ref xb, .ref xv, .int (nI bd), .int (nI rd)])), (xt, aI G 400 (va_up t1 nn (byt x j)))] := hD
                      refine lv_iinc (v := nI (nn + 1)) (lv' := [(3, .int (nI (nn + 1))), (5, .int (nI (byt x j))), (0, .ref qm), (1, .long x), (4, .int jv)]) hx hb dM_type_81 hl (k := 3) rfl (nI_add _ 1) (by decide) rfl (fun ls hl => ?_)
                      refine lv_iinc (v := jv + (-1)) (lv' := [(4, .int (jv + (-1))), (3, .int (nI (nn + 1))), (5, .int (nI (byt x j))), (0, .ref qm), (1, .long x)]) hx hb dM_type_84 hl (k := 4) rfl (rfl) (by decide) rfl (fun ls hl => ?_)
                      refine lv_goto (tgt := 14) hx hb dM_type_87 rfl ?_
                      have hl : lv_has ls 6 [(0, .ref qm), (1, .long x), (3, .int (nI (nn + 1))), (4, .int (jv + (-1)))] := lv_sub hl [3, 4, 1, 0] rfl
                      exact ih14 (nn + 1) (jv + (-1)) (va_up t1 nn (byt x j)) (j + 1) _ _ _ (by omega) (by omega) (by rw [hjv]; exact sw_s j) (by rw [cB]; first | rw [if_pos h35, hn, Nat.add_zero] | rw [if_neg h35, hn, Nat.add_assoc]) (okB_s ho (fun h0 => by first | exact absurd h35 h0 | (unfold vch; omega))) (by rw [apB]; first | rw [if_pos h35, ht] | rw [if_neg h35, ht, hn]) hP hD hS hl
                  · have h63 : nn = 400 := (nI_eq (a := nn) (b := 400) (by omega) (by omega)).mp h63
                    refine lv_iconst (v := nI 0) hx hb dM_type_66 (by decide) ?_
                    -- end 5
                    rw [← hQ]
                    exact k_iret hx hb hr hlocks (by decide) (u := (0, ul, t1)) (Or.inr ⟨_, fun z => (by have h9 := z.1 j (by omega) h35; have hcl1 := cB_mono x (show j + 1 ≤ 8 by omega); rw [cB, if_neg h35] at hcl1; unfold vch at h9; omega), (by rw [ht]; exact fun p hp => ap_lo hp), (by rw [ht]; exact ap_128 htx ho), rfl, rfl⟩) hP hD hK hS dM_type_67
    have hl : lv_has ls 6 [(0, .ref qm), (1, .long x), (3, .int (nI ul)), (4, .int (nI 7))] := lv_sub hl [2, 3, 1, 0] rfl
    exact loop14 (8 - 0 + 1) ul (nI 7) tx 0 _ _ _ (by omega) (by omega) (by decide) rfl (fun i h => absurd h (Nat.not_lt_zero i)) rfl hP hD hS hl
  rw [hH, hlc] at hgo
  exact hgo
set_option maxRecDepth 100000 in
set_option maxHeartbeats 4000000 in
theorem k_M_wipe (l : Launch) (G : GG) (sz : Nat) (qm : Nat) (xt : Nat) (xh : Nat) (xi : Nat) (xl : Nat) (xo : Nat) (xg : Nat) (xd : Nat) (xs : Nat) (xn : Nat) (xb : Nat) (xv : Nat) (th : Nat) (ul : Nat) (pt : Nat) (ld : Bool) (stt : Nat) (sts : Nat) (drw : Nat) (bd : Nat) (rd : Nat) : Kv l yM_wipe cM_wipe 1 0 0 0 0 G [.ref qm] [(qm, .inr (6, [.int (nI th), .int (nI ul), .ref xt, .int (nI pt), .ref xh, .ref xi, .ref xl, .ref xo, .ref xg, .ref xd, .int (zB ld), .ref xs, .int (nI stt), .int (nI sts), .int (nI drw), .ref xn, .ref xb, .ref xv, .int (nI bd), .int (nI rd)]))] sz (fun (u : Nat × Nat) => ((0, 0) = u)) (fun (u : Nat × Nat) => [(qm, .inr (6, [.int (nI u.1), .int (nI u.2), .ref xt, .int (nI pt), .ref xh, .ref xi, .ref xl, .ref xo, .ref xg, .ref xd, .int (zB ld), .ref xs, .int (nI stt), .int (nI sts), .int (nI drw), .ref xn, .ref xb, .ref xv, .int (nI bd), .int (nI rd)]))]) := by
  refine Met.ofW (cc := cM_wipe) (maxL := 1) (ret := none) (by decide) rfl ?_
  intro p e s m args below meth c s₁ B hml hv
  obtain ⟨hav, hsz, hP, hK, hD0, hE⟩ := hv
  have hx := B.exec
  have hb := B.bytes
  have hr := B.returns
  have htb : ∀ w ∈ TB, w.before args s = true := fun w h => atoms_spec (ws := Cond.code yM_wipe cM_wipe 1 none :: TB) B.pre w (List.mem_cons_of_mem _ h)
  have hown : s.vm.findClass "CircuitProverModel" = some m.cls := findClass_of_methodNamed B.named
  have hlocks := B.notSynchronized
  subst hsz
  have hD := hD0.self (sz := s.heap.size)
  clear hD0
  generalize hRm : (headSpec (Cond.code yM_wipe cM_wipe 1 none :: TB) { frames := 0, cells := 0, slots := 0, locals := 0 }).room = R
  have hRf : R.frames = 0 := by rw [← hRm]; rfl
  have hRl : R.locals = 0 := by rw [← hRm]; rfl
  have hRc : R.cells = 0 := by rw [← hRm]; rfl
  have hRs : R.slots = 0 := by rw [← hRm]; rfl
  clear hRm
  generalize hAe : va_A [(qm, .inr (6, [.int (nI th), .int (nI ul), .ref xt, .int (nI pt), .ref xh, .ref xi, .ref xl, .ref xo, .ref xg, .ref xd, .int (zB ld), .ref xs, .int (nI stt), .int (nI sts), .int (nI drw), .ref xn, .ref xb, .ref xv, .int (nI bd), .int (nI rd)]))] s.heap.size = A at hD hE ⊢
  have hA : ∀ q : Nat, s.heap.size ≤ q → A q := fun q h => by rw [← hAe]; exact Or.inr h
  clear hAe
  have hS : va_S A s.heap s.heap [] := va_S.rf
  have hl := lv_entry ([.ref qm]) (n := 1) (Nat.le_of_ble_eq_true rfl)
  have hent := lg_entry_eq m ([.ref qm]) 1
  rw [← hav] at hent
  rw [hent]
  clear hent hav
  generalize (lg_sl ([.ref qm]) ++ List.replicate (1 - (lg_sl ([.ref qm])).length) Slot.unset).toArray = ls at hl ⊢
  have hl : lv_has ls 1 [(0, .ref qm)] := hl
  generalize hQ : MQ below _ args s 0 0 _ = Q
  have hP : va_P (gD G) vC [(qm, .inr (6, [.int (nI th), .int (nI ul), .ref xt, .int (nI pt), .ref xh, .ref xi, .ref xl, .ref xo, .ref xg, .ref xd, .int (zB ld), .ref xs, .int (nI stt), .int (nI sts), .int (nI drw), .ref xn, .ref xb, .ref xv, .int (nI bd), .int (nI rd)]))] s.heap := hP
  obtain ⟨H, hH⟩ : ∃ H : Heap, H = s.heap := ⟨_, rfl⟩
  obtain ⟨locs, hlc⟩ : ∃ L : List Loc, L = [] := ⟨_, rfl⟩
  have hS : va_S A s.heap H locs := by rw [hH, hlc]; exact hS
  have hP : va_P (gD G) vC [(qm, .inr (6, [.int (nI th), .int (nI ul), .ref xt, .int (nI pt), .ref xh, .ref xi, .ref xl, .ref xo, .ref xg, .ref xd, .int (zB ld), .ref xs, .int (nI stt), .int (nI sts), .int (nI drw), .ref xn, .ref xb, .ref xv, .int (nI bd), .int (nI rd)]))] H := by rw [hH]; exact hP
  have hgo : W p l e R s m args below meth c H locs 0 0 Q (F0 m 0 ls []) := by
    clear hH hlc
    refine lv_aload_n hx hb dM_wipe_0 rfl (lv_at hl 0 rfl) ?_
    refine lv_iconst (v := nI 0) hx hb dM_wipe_1 (by decide) ?_
    refine va_put (D := gD G) (ci := 6) (v := .int (nI 0)) (ty := tyM 0) (C := "CircuitProverModel") (T := TM) (N := 20) hx hb htb inM tyM tyM_ok nmM hown hK hP hD hS 0 rfl rfl 0 (by decide) (htb _ b671) (fun _ h9 => h9) rfl (tyM_ok 0 (by decide)) rfl rfl (Nat.le_of_ble_eq_true rfl) dM_wipe_2 (fun H locs hP hD hS => ?_)
    have hP : va_P (gD G) vC [(qm, .inr (6, [.int (nI 0), .int (nI ul), .ref xt, .int (nI pt), .ref xh, .ref xi, .ref xl, .ref xo, .ref xg, .ref xd, .int (zB ld), .ref xs, .int (nI stt), .int (nI sts), .int (nI drw), .ref xn, .ref xb, .ref xv, .int (nI bd), .int (nI rd)]))] H := hP
    have hD : va_D A [(qm, .inr (6, [.int (nI 0), .int (nI ul), .ref xt, .int (nI pt), .ref xh, .ref xi, .ref xl, .ref xo, .ref xg, .ref xd, .int (zB ld), .ref xs, .int (nI stt), .int (nI sts), .int (nI drw), .ref xn, .ref xb, .ref xv, .int (nI bd), .int (nI rd)]))] := hD
    refine lv_aload_n hx hb dM_wipe_5 rfl (lv_at hl 0 rfl) ?_
    refine lv_iconst (v := nI 0) hx hb dM_wipe_6 (by decide) ?_
    refine va_put (D := gD G) (ci := 6) (v := .int (nI 0)) (ty := tyM 1) (C := "CircuitProverModel") (T := TM) (N := 20) hx hb htb inM tyM tyM_ok nmM hown hK hP hD hS 0 rfl rfl 1 (by decide) (htb _ b672) (fun _ h9 => h9) rfl (tyM_ok 1 (by decide)) rfl rfl (Nat.le_of_ble_eq_true rfl) dM_wipe_7 (fun H locs hP hD hS => ?_)
    have hP : va_P (gD G) vC [(qm, .inr (6, [.int (nI 0), .int (nI 0), .ref xt, .int (nI pt), .ref xh, .ref xi, .ref xl, .ref xo, .ref xg, .ref xd, .int (zB ld), .ref xs, .int (nI stt), .int (nI sts), .int (nI drw), .ref xn, .ref xb, .ref xv, .int (nI bd), .int (nI rd)]))] H := hP
    have hD : va_D A [(qm, .inr (6, [.int (nI 0), .int (nI 0), .ref xt, .int (nI pt), .ref xh, .ref xi, .ref xl, .ref xo, .ref xg, .ref xd, .int (zB ld), .ref xs, .int (nI stt), .int (nI sts), .int (nI drw), .ref xn, .ref xb, .ref xv, .int (nI bd), .int (nI rd)]))] := hD
    -- end 0
    rw [← hQ]
    exact k_vret hx hb hr hlocks (u := (0, 0)) (rfl) hP hD hK hS dM_wipe_10
  rw [hH, hlc] at hgo
  exact hgo
set_option maxRecDepth 100000 in
set_option maxHeartbeats 4000000 in
theorem k_M_length (l : Launch) (G : GG) (sz : Nat) (qm : Nat) (xt : Nat) (xh : Nat) (xi : Nat) (xl : Nat) (xo : Nat) (xg : Nat) (xd : Nat) (xs : Nat) (xn : Nat) (xb : Nat) (xv : Nat) (th : Nat) (ul : Nat) (pt : Nat) (ld : Bool) (stt : Nat) (sts : Nat) (drw : Nat) (bd : Nat) (rd : Nat) : Ki l yM_length cM_length 1 .int 0 0 G [.ref qm] [(qm, .inr (6, [.int (nI th), .int (nI ul), .ref xt, .int (nI pt), .ref xh, .ref xi, .ref xl, .ref xo, .ref xg, .ref xd, .int (zB ld), .ref xs, .int (nI stt), .int (nI sts), .int (nI drw), .ref xn, .ref xb, .ref xv, .int (nI bd), .int (nI rd)]))] sz (fun (r : Int32) (u : Nat) => (nI ul = r ∧ 0 = u)) (fun (u : Nat) => [(qm, .inr (6, [.int (nI u), .int (nI ul), .ref xt, .int (nI pt), .ref xh, .ref xi, .ref xl, .ref xo, .ref xg, .ref xd, .int (zB ld), .ref xs, .int (nI stt), .int (nI sts), .int (nI drw), .ref xn, .ref xb, .ref xv, .int (nI bd), .int (nI rd)]))]) := by
  refine Met.ofW (cc := cM_length) (maxL := 1) (ret := (some .int)) (by decide) rfl ?_
  intro p e s m args below meth c s₁ B hml hv
  obtain ⟨hav, hsz, hP, hK, hD0, hE⟩ := hv
  have hx := B.exec
  have hb := B.bytes
  have hr := B.returns
  have htb : ∀ w ∈ TB, w.before args s = true := fun w h => atoms_spec (ws := Cond.code yM_length cM_length 1 (some .int) :: TB) B.pre w (List.mem_cons_of_mem _ h)
  have hown : s.vm.findClass "CircuitProverModel" = some m.cls := findClass_of_methodNamed B.named
  have hlocks := B.notSynchronized
  subst hsz
  have hD := hD0.self (sz := s.heap.size)
  clear hD0
  generalize hRm : (headSpec (Cond.code yM_length cM_length 1 (some .int) :: TB) { frames := 0, cells := 0, slots := 0, locals := 0 }).room = R
  have hRf : R.frames = 0 := by rw [← hRm]; rfl
  have hRl : R.locals = 0 := by rw [← hRm]; rfl
  have hRc : R.cells = 0 := by rw [← hRm]; rfl
  have hRs : R.slots = 0 := by rw [← hRm]; rfl
  clear hRm
  generalize hAe : va_A [(qm, .inr (6, [.int (nI th), .int (nI ul), .ref xt, .int (nI pt), .ref xh, .ref xi, .ref xl, .ref xo, .ref xg, .ref xd, .int (zB ld), .ref xs, .int (nI stt), .int (nI sts), .int (nI drw), .ref xn, .ref xb, .ref xv, .int (nI bd), .int (nI rd)]))] s.heap.size = A at hD hE ⊢
  have hA : ∀ q : Nat, s.heap.size ≤ q → A q := fun q h => by rw [← hAe]; exact Or.inr h
  clear hAe
  have hS : va_S A s.heap s.heap [] := va_S.rf
  have hl := lv_entry ([.ref qm]) (n := 1) (Nat.le_of_ble_eq_true rfl)
  have hent := lg_entry_eq m ([.ref qm]) 1
  rw [← hav] at hent
  rw [hent]
  clear hent hav
  generalize (lg_sl ([.ref qm]) ++ List.replicate (1 - (lg_sl ([.ref qm])).length) Slot.unset).toArray = ls at hl ⊢
  have hl : lv_has ls 1 [(0, .ref qm)] := hl
  generalize hQ : MQ below _ args s 0 0 _ = Q
  have hP : va_P (gD G) vC [(qm, .inr (6, [.int (nI th), .int (nI ul), .ref xt, .int (nI pt), .ref xh, .ref xi, .ref xl, .ref xo, .ref xg, .ref xd, .int (zB ld), .ref xs, .int (nI stt), .int (nI sts), .int (nI drw), .ref xn, .ref xb, .ref xv, .int (nI bd), .int (nI rd)]))] s.heap := hP
  obtain ⟨H, hH⟩ : ∃ H : Heap, H = s.heap := ⟨_, rfl⟩
  obtain ⟨locs, hlc⟩ : ∃ L : List Loc, L = [] := ⟨_, rfl⟩
  have hS : va_S A s.heap H locs := by rw [hH, hlc]; exact hS
  have hP : va_P (gD G) vC [(qm, .inr (6, [.int (nI th), .int (nI ul), .ref xt, .int (nI pt), .ref xh, .ref xi, .ref xl, .ref xo, .ref xg, .ref xd, .int (zB ld), .ref xs, .int (nI stt), .int (nI sts), .int (nI drw), .ref xn, .ref xb, .ref xv, .int (nI bd), .int (nI rd)]))] H := by rw [hH]; exact hP
  have hgo : W p l e R s m args below meth c H locs 0 0 Q (F0 m 0 ls []) := by
    clear hH hlc
    refine lv_aload_n hx hb dM_length_0 rfl (lv_at hl 0 rfl) ?_
    refine lv_iconst (v := nI 0) hx hb dM_length_1 (by decide) ?_
    refine va_put (D := gD G) (ci := 6) (v := .int (nI 0)) (ty := tyM 0) (C := "CircuitProverModel") (T := TM) (N := 20) hx hb htb inM tyM tyM_ok nmM hown hK hP hD hS 0 rfl rfl 0 (by decide) (htb _ b671) (fun _ h9 => h9) rfl (tyM_ok 0 (by decide)) rfl rfl (Nat.le_of_ble_eq_true rfl) dM_length_2 (fun H locs hP hD hS => ?_)
    have hP : va_P (gD G) vC [(qm, .inr (6, [.int (nI 0), .int (nI ul), .ref xt, .int (nI pt), .ref xh, .ref xi, .ref xl, .ref xo, .ref xg, .ref xd, .int (zB ld), .ref xs, .int (nI stt), .int (nI sts), .int (nI drw), .ref xn, .ref xb, .ref xv, .int (nI bd), .int (nI rd)]))] H := hP
    have hD : va_D A [(qm, .inr (6, [.int (nI 0), .int (nI ul), .ref xt, .int (nI pt), .ref xh, .ref xi, .ref xl, .ref xo, .ref xg, .ref xd, .int (zB ld), .ref xs, .int (nI stt), .int (nI sts), .int (nI drw), .ref xn, .ref xb, .ref xv, .int (nI bd), .int (nI rd)]))] := hD
    refine lv_aload_n hx hb dM_length_5 rfl (lv_at hl 0 rfl) ?_
    refine va_get (D := gD G) (ci := 6) (v := .int (nI ul)) (C := "CircuitProverModel") (T := TM) (N := 20) hx hb htb inM hown hK hP 0 rfl rfl 1 (by decide) (htb _ b672) (fun _ h9 => h9) rfl dM_length_6 ?_
    -- end 0
    rw [← hQ]
    exact k_iret hx hb hr hlocks rfl (u := 0) (⟨rfl, rfl⟩) hP hD hK hS dM_length_9
  rw [hH, hlc] at hgo
  exact hgo
set_option maxRecDepth 100000 in
set_option maxHeartbeats 4000000 in
theorem k_M_thrown (l : Launch) (G : GG) (sz : Nat) (qm : Nat) (xt : Nat) (xh : Nat) (xi : Nat) (xl : Nat) (xo : Nat) (xg : Nat) (xd : Nat) (xs : Nat) (xn : Nat) (xb : Nat) (xv : Nat) (th : Nat) (ul : Nat) (pt : Nat) (ld : Bool) (stt : Nat) (sts : Nat) (drw : Nat) (bd : Nat) (rd : Nat) : Ki l yM_thrown cM_thrown 1 .int 0 0 G [.ref qm] [(qm, .inr (6, [.int (nI th), .int (nI ul), .ref xt, .int (nI pt), .ref xh, .ref xi, .ref xl, .ref xo, .ref xg, .ref xd, .int (zB ld), .ref xs, .int (nI stt), .int (nI sts), .int (nI drw), .ref xn, .ref xb, .ref xv, .int (nI bd), .int (nI rd)]))] sz (fun (r : Int32) (u : Unit) => (nI th = r ∧ () = u)) (fun (u : Unit) => [(qm, .inr (6, [.int (nI th), .int (nI ul), .ref xt, .int (nI pt), .ref xh, .ref xi, .ref xl, .ref xo, .ref xg, .ref xd, .int (zB ld), .ref xs, .int (nI stt), .int (nI sts), .int (nI drw), .ref xn, .ref xb, .ref xv, .int (nI bd), .int (nI rd)]))]) := by
  refine Met.ofW (cc := cM_thrown) (maxL := 1) (ret := (some .int)) (by decide) rfl ?_
  intro p e s m args below meth c s₁ B hml hv
  obtain ⟨hav, hsz, hP, hK, hD0, hE⟩ := hv
  have hx := B.exec
  have hb := B.bytes
  have hr := B.returns
  have htb : ∀ w ∈ TB, w.before args s = true := fun w h => atoms_spec (ws := Cond.code yM_thrown cM_thrown 1 (some .int) :: TB) B.pre w (List.mem_cons_of_mem _ h)
  have hown : s.vm.findClass "CircuitProverModel" = some m.cls := findClass_of_methodNamed B.named
  have hlocks := B.notSynchronized
  subst hsz
  have hD := hD0.self (sz := s.heap.size)
  clear hD0
  generalize hRm : (headSpec (Cond.code yM_thrown cM_thrown 1 (some .int) :: TB) { frames := 0, cells := 0, slots := 0, locals := 0 }).room = R
  have hRf : R.frames = 0 := by rw [← hRm]; rfl
  have hRl : R.locals = 0 := by rw [← hRm]; rfl
  have hRc : R.cells = 0 := by rw [← hRm]; rfl
  have hRs : R.slots = 0 := by rw [← hRm]; rfl
  clear hRm
  generalize hAe : va_A [(qm, .inr (6, [.int (nI th), .int (nI ul), .ref xt, .int (nI pt), .ref xh, .ref xi, .ref xl, .ref xo, .ref xg, .ref xd, .int (zB ld), .ref xs, .int (nI stt), .int (nI sts), .int (nI drw), .ref xn, .ref xb, .ref xv, .int (nI bd), .int (nI rd)]))] s.heap.size = A at hD hE ⊢
  have hA : ∀ q : Nat, s.heap.size ≤ q → A q := fun q h => by rw [← hAe]; exact Or.inr h
  clear hAe
  have hS : va_S A s.heap s.heap [] := va_S.rf
  have hl := lv_entry ([.ref qm]) (n := 1) (Nat.le_of_ble_eq_true rfl)
  have hent := lg_entry_eq m ([.ref qm]) 1
  rw [← hav] at hent
  rw [hent]
  clear hent hav
  generalize (lg_sl ([.ref qm]) ++ List.replicate (1 - (lg_sl ([.ref qm])).length) Slot.unset).toArray = ls at hl ⊢
  have hl : lv_has ls 1 [(0, .ref qm)] := hl
  generalize hQ : MQ below _ args s 0 0 _ = Q
  have hP : va_P (gD G) vC [(qm, .inr (6, [.int (nI th), .int (nI ul), .ref xt, .int (nI pt), .ref xh, .ref xi, .ref xl, .ref xo, .ref xg, .ref xd, .int (zB ld), .ref xs, .int (nI stt), .int (nI sts), .int (nI drw), .ref xn, .ref xb, .ref xv, .int (nI bd), .int (nI rd)]))] s.heap := hP
  obtain ⟨H, hH⟩ : ∃ H : Heap, H = s.heap := ⟨_, rfl⟩
  obtain ⟨locs, hlc⟩ : ∃ L : List Loc, L = [] := ⟨_, rfl⟩
  have hS : va_S A s.heap H locs := by rw [hH, hlc]; exact hS
  have hP : va_P (gD G) vC [(qm, .inr (6, [.int (nI th), .int (nI ul), .ref xt, .int (nI pt), .ref xh, .ref xi, .ref xl, .ref xo, .ref xg, .ref xd, .int (zB ld), .ref xs, .int (nI stt), .int (nI sts), .int (nI drw), .ref xn, .ref xb, .ref xv, .int (nI bd), .int (nI rd)]))] H := by rw [hH]; exact hP
  have hgo : W p l e R s m args below meth c H locs 0 0 Q (F0 m 0 ls []) := by
    clear hH hlc
    refine lv_aload_n hx hb dM_thrown_0 rfl (lv_at hl 0 rfl) ?_
    refine va_get (D := gD G) (ci := 6) (v := .int (nI th)) (C := "CircuitProverModel") (T := TM) (N := 20) hx hb htb inM hown hK hP 0 rfl rfl 0 (by decide) (htb _ b671) (fun _ h9 => h9) rfl dM_thrown_1 ?_
    -- end 0
    rw [← hQ]
    exact k_iret hx hb hr hlocks rfl (u := ()) (⟨rfl, rfl⟩) hP hD hK hS dM_thrown_4
  rw [hH, hlc] at hgo
  exact hgo
set_option maxRecDepth 100000 in
set_option maxHeartbeats 4000000 in
theorem k_M_isPlace (l : Launch) (G : GG) (sz : Nat) (qm : Nat) (xt : Nat) (xh : Nat) (xi : Nat) (xl : Nat) (xo : Nat) (xg : Nat) (xd : Nat) (xs : Nat) (xn : Nat) (xb : Nat) (xv : Nat) (th : Nat) (ul : Nat) (pt : Nat) (ld : Bool) (stt : Nat) (sts : Nat) (drw : Nat) (bd : Nat) (rd : Nat) (x : Int32) (y : Int32) (hz : sts ≤ 64) (hdw : 1 ≤ drw ∧ drw ≤ 8) : Ki l yM_isPlace cM_isPlace 3 .boolean 0 0 G [.ref qm, .int x, .int y] [(qm, .inr (6, [.int (nI th), .int (nI ul), .ref xt, .int (nI pt), .ref xh, .ref xi, .ref xl, .ref xo, .ref xg, .ref xd, .int (zB ld), .ref xs, .int (nI stt), .int (nI sts), .int (nI drw), .ref xn, .ref xb, .ref xv, .int (nI bd), .int (nI rd)]))] sz (fun (r : Int32) (u : Unit) => (∃ (j : Nat), ∃ (i : Nat), (j < sts ∧ i < drw ∧ x = nI j ∧ y = nI i) ∧ nI 1 = r ∧ () = u) ∨ ((∀ j i, j < sts → i < drw → x = nI j → ¬ y = nI i) ∧ nI 0 = r ∧ () = u)) (fun (u : Unit) => [(qm, .inr (6, [.int (nI th), .int (nI ul), .ref xt, .int (nI pt), .ref xh, .ref xi, .ref xl, .ref xo, .ref xg, .ref xd, .int (zB ld), .ref xs, .int (nI stt), .int (nI sts), .int (nI drw), .ref xn, .ref xb, .ref xv, .int (nI bd), .int (nI rd)]))]) := by
  refine Met.ofW (cc := cM_isPlace) (maxL := 3) (ret := (some .boolean)) (by decide) rfl ?_
  intro p e s m args below meth c s₁ B hml hv
  obtain ⟨hav, hsz, hP, hK, hD0, hE⟩ := hv
  have hx := B.exec
  have hb := B.bytes
  have hr := B.returns
  have htb : ∀ w ∈ TB, w.before args s = true := fun w h => atoms_spec (ws := Cond.code yM_isPlace cM_isPlace 3 (some .boolean) :: TB) B.pre w (List.mem_cons_of_mem _ h)
  have hown : s.vm.findClass "CircuitProverModel" = some m.cls := findClass_of_methodNamed B.named
  have hlocks := B.notSynchronized
  subst hsz
  have hD := hD0.self (sz := s.heap.size)
  clear hD0
  generalize hRm : (headSpec (Cond.code yM_isPlace cM_isPlace 3 (some .boolean) :: TB) { frames := 0, cells := 0, slots := 0, locals := 0 }).room = R
  have hRf : R.frames = 0 := by rw [← hRm]; rfl
  have hRl : R.locals = 0 := by rw [← hRm]; rfl
  have hRc : R.cells = 0 := by rw [← hRm]; rfl
  have hRs : R.slots = 0 := by rw [← hRm]; rfl
  clear hRm
  generalize hAe : va_A [(qm, .inr (6, [.int (nI th), .int (nI ul), .ref xt, .int (nI pt), .ref xh, .ref xi, .ref xl, .ref xo, .ref xg, .ref xd, .int (zB ld), .ref xs, .int (nI stt), .int (nI sts), .int (nI drw), .ref xn, .ref xb, .ref xv, .int (nI bd), .int (nI rd)]))] s.heap.size = A at hD hE ⊢
  have hA : ∀ q : Nat, s.heap.size ≤ q → A q := fun q h => by rw [← hAe]; exact Or.inr h
  clear hAe
  have hS : va_S A s.heap s.heap [] := va_S.rf
  have hl := lv_entry ([.ref qm, .int x, .int y]) (n := 3) (Nat.le_of_ble_eq_true rfl)
  have hent := lg_entry_eq m ([.ref qm, .int x, .int y]) 3
  rw [← hav] at hent
  rw [hent]
  clear hent hav
  generalize (lg_sl ([.ref qm, .int x, .int y]) ++ List.replicate (3 - (lg_sl ([.ref qm, .int x, .int y])).length) Slot.unset).toArray = ls at hl ⊢
  have hl : lv_has ls 3 [(0, .ref qm), (1, .int x), (2, .int y)] := hl
  generalize hQ : MQ below _ args s 0 0 _ = Q
  have hP : va_P (gD G) vC [(qm, .inr (6, [.int (nI th), .int (nI ul), .ref xt, .int (nI pt), .ref xh, .ref xi, .ref xl, .ref xo, .ref xg, .ref xd, .int (zB ld), .ref xs, .int (nI stt), .int (nI sts), .int (nI drw), .ref xn, .ref xb, .ref xv, .int (nI bd), .int (nI rd)]))] s.heap := hP
  obtain ⟨H, hH⟩ : ∃ H : Heap, H = s.heap := ⟨_, rfl⟩
  obtain ⟨locs, hlc⟩ : ∃ L : List Loc, L = [] := ⟨_, rfl⟩
  have hS : va_S A s.heap H locs := by rw [hH, hlc]; exact hS
  have hP : va_P (gD G) vC [(qm, .inr (6, [.int (nI th), .int (nI ul), .ref xt, .int (nI pt), .ref xh, .ref xi, .ref xl, .ref xo, .ref xg, .ref xd, .int (zB ld), .ref xs, .int (nI stt), .int (nI sts), .int (nI drw), .ref xn, .ref xb, .ref xv, .int (nI bd), .int (nI rd)]))] H := by rw [hH]; exact hP
  have hgo : W p l e R s m args below meth c H locs 0 0 Q (F0 m 0 ls []) := by
    clear hH hlc
    refine lv_iload_n hx hb dM_isPlace_0 rfl (lv_at hl 1 rfl) ?_
    refine lv_if_lt (tgt := 28) hx hb dM_isPlace_1 rfl (fun h1 => ?_) (fun h1 => ?_)
    · skip
      refine lv_iconst (v := nI 0) hx hb dM_isPlace_28 (by decide) ?_
      -- end 0
      rw [← hQ]
      exact k_iret hx hb hr hlocks (by decide) (u := ()) (Or.inr ⟨fun j i hj hi e9 => (by rw [e9] at h1; exact (nI_pos (by omega) h1).elim), rfl, rfl⟩) hP hD hK hS dM_isPlace_29
    · skip
      refine lv_iload_n hx hb dM_isPlace_4 rfl (lv_at hl 1 rfl) ?_
      refine lv_aload_n hx hb dM_isPlace_5 rfl (lv_at hl 0 rfl) ?_
      refine va_get (D := gD G) (ci := 6) (v := .int (nI sts)) (C := "CircuitProverModel") (T := TM) (N := 20) hx hb htb inM hown hK hP 0 rfl rfl 13 (by decide) (htb _ b684) (fun _ h9 => h9) rfl dM_isPlace_6 ?_
      refine lv_icmp_ge (tgt := 28) hx hb dM_isPlace_9 rfl (fun h9 => ?_) (fun h9 => ?_)
      · skip
        refine lv_iconst (v := nI 0) hx hb dM_isPlace_28 (by decide) ?_
        -- end 1
        rw [← hQ]
        exact k_iret hx hb hr hlocks (by decide) (u := ()) (Or.inr ⟨fun j i hj hi e9 => (by rw [e9] at h9; exact (nI_ge hj (by omega) h9).elim), rfl, rfl⟩) hP hD hK hS dM_isPlace_29
      · skip
        obtain ⟨j, hjs, rfl⟩ : ∃ j, j < sts ∧ x = nI j := by rcases pk_ix x (n := sts) (by omega) with h | h | h; (exact absurd h h1); (exact absurd h h9); exact h
        refine lv_iload_n hx hb dM_isPlace_12 rfl (lv_at hl 2 rfl) ?_
        refine lv_if_lt (tgt := 28) hx hb dM_isPlace_13 rfl (fun h13 => ?_) (fun h13 => ?_)
        · skip
          refine lv_iconst (v := nI 0) hx hb dM_isPlace_28 (by decide) ?_
          -- end 2
          rw [← hQ]
          exact k_iret hx hb hr hlocks (by decide) (u := ()) (Or.inr ⟨fun j i hj hi _ e9 => (by rw [e9] at h13; exact (nI_pos (by omega) h13).elim), rfl, rfl⟩) hP hD hK hS dM_isPlace_29
        · skip
          refine lv_iload_n hx hb dM_isPlace_16 rfl (lv_at hl 2 rfl) ?_
          refine lv_aload_n hx hb dM_isPlace_17 rfl (lv_at hl 0 rfl) ?_
          refine va_get (D := gD G) (ci := 6) (v := .int (nI drw)) (C := "CircuitProverModel") (T := TM) (N := 20) hx hb htb inM hown hK hP 0 rfl rfl 14 (by decide) (htb _ b685) (fun _ h9 => h9) rfl dM_isPlace_18 ?_
          refine lv_icmp_ge (tgt := 28) hx hb dM_isPlace_21 rfl (fun h21 => ?_) (fun h21 => ?_)
          · skip
            refine lv_iconst (v := nI 0) hx hb dM_isPlace_28 (by decide) ?_
            -- end 3
            rw [← hQ]
            exact k_iret hx hb hr hlocks (by decide) (u := ()) (Or.inr ⟨fun j i hj hi _ e9 => (by rw [e9] at h21; exact (nI_ge hi (by omega) h21).elim), rfl, rfl⟩) hP hD hK hS dM_isPlace_29
          · skip
            obtain ⟨i, hid, rfl⟩ : ∃ i, i < drw ∧ y = nI i := by rcases pk_ix y (n := drw) (by omega) with h | h | h; (exact absurd h h13); (exact absurd h h21); exact h
            refine lv_iconst (v := nI 1) hx hb dM_isPlace_24 (by decide) ?_
            refine lv_goto (tgt := 29) hx hb dM_isPlace_25 rfl ?_
            -- end 4
            rw [← hQ]
            exact k_iret hx hb hr hlocks (by decide) (u := ()) (Or.inl ⟨j, i, ⟨hjs, hid, rfl, rfl⟩, rfl, rfl⟩) hP hD hK hS dM_isPlace_29
  rw [hH, hlc] at hgo
  exact hgo
