def mIn (T fi : Nat → Nat) (n : Nat) : Prop := ∀ j, j < n → fi j = xin T j
def mOu (T fo : Nat → Nat) (n : Nat) : Prop := ∀ j, j < n → fo j = xou T j
def mLa (T fl : Nat → Nat) (n : Nat) : Prop := ∀ j, j < n → ∀ c, c < 3 → fl (3 * j + c) = xla T j c
def mGa (T fg : Nat → Nat) (n : Nat) : Prop := ∀ j, j < n → ∀ c, c < 3 → fg (3 * j + c) = xga T j c
theorem m1_s {f g : Nat → Nat} {n v : Nat} (h : ∀ j, j < n → f j = g j) (hv : v = g n) : ∀ j, j < n + 1 → va_up f n v j = g j := by
  intro j hj
  by_cases e : j = n
  · subst e; rw [va_up_self]; exact hv
  · rw [va_up_ne _ _ e]; exact h j (by omega)
theorem m3_s {f f1 : Nat → Nat} {g : Nat → Nat → Nat} {n : Nat} (h : ∀ j, j < n → ∀ c, c < 3 → f (3 * j + c) = g j c) (hv : ∀ c, c < 3 → f1 (3 * n + c) = g n c) (hw : ∀ i, i < 3 * n → f1 i = f i) : ∀ j, j < n + 1 → ∀ c, c < 3 → f1 (3 * j + c) = g j c := by
  intro j hj c hc
  by_cases e : j = n
  · subst e; exact hv c hc
  · rw [hw _ (by omega)]; exact h j (by omega) c hc
theorem hdO_no {T : Nat → Nat} (h : ¬ (T 0 = 97 ∧ T 1 = 97 ∧ T 2 = 103 ∧ T 3 = 32)) : hdO T = none := by unfold hdO; rw [if_neg h]
theorem no_hd {T : Nat → Nat} {n : Nat} (h : hdO T = none) : ¬ linesOK T n := fun q => by obtain ⟨z, e⟩ := q.1; rw [h] at e; cases e
set_option maxRecDepth 100000 in
set_option maxHeartbeats 4000000 in
theorem k_M_lines (l : Launch) (G : GG) (sz : Nat) (qm : Nat) (xt : Nat) (xh : Nat) (xi : Nat) (xl : Nat) (xo : Nat) (xg : Nat) (xd : Nat) (xs : Nat) (xn : Nat) (xb : Nat) (xv : Nat) (th : Nat) (ul : Nat) (pt : Nat) (ld : Bool) (stt : Nat) (sts : Nat) (drw : Nat) (bd : Nat) (rd : Nat) (tx : Nat → Nat) (hh : Nat → Nat) (fi : Nat → Nat) (fl : Nat → Nat) (fo : Nat → Nat) (fg : Nat → Nat) (hul : ul ≤ 400) (htx : ∀ j, tx j < 128) : Ki l yM_lines cM_lines 4 .boolean 3 69 G [.ref qm] [(qm, .inr (6, [.int (nI th), .int (nI ul), .ref xt, .int (nI pt), .ref xh, .ref xi, .ref xl, .ref xo, .ref xg, .ref xd, .int (zB ld), .ref xs, .int (nI stt), .int (nI sts), .int (nI drw), .ref xn, .ref xb, .ref xv, .int (nI bd), .int (nI rd)])), (xt, aI G 400 tx), (xh, aI G 5 hh), (xi, aI G 100 fi), (xl, aI G 300 fl), (xo, aI G 100 fo), (xg, aI G 300 fg)] sz (fun (r : Int32) (u : Nat × (Nat → Nat) × (Nat → Nat) × (Nat → Nat) × (Nat → Nat) × (Nat → Nat)) => (∃ (pt9 : Nat), ∃ (hh9 : Nat → Nat), ∃ (fi9 : Nat → Nat), ∃ (fl9 : Nat → Nat), ∃ (fo9 : Nat → Nat), ∃ (fg9 : Nat → Nat), linesOK (lk tx ul) ul ∧ (∀ c, c < 5 → hh9 c = hd (lk tx ul) c) ∧ mIn (lk tx ul) fi9 (hd (lk tx ul) 1) ∧ mLa (lk tx ul) fl9 (hd (lk tx ul) 2) ∧ mOu (lk tx ul) fo9 (hd (lk tx ul) 3) ∧ mGa (lk tx ul) fg9 (hd (lk tx ul) 4) ∧ nI 1 = r ∧ (pt9, hh9, fi9, fl9, fo9, fg9) = u) ∨ (∃ (pt9 : Nat), ∃ (hh9 : Nat → Nat), ∃ (fi9 : Nat → Nat), ∃ (fl9 : Nat → Nat), ∃ (fo9 : Nat → Nat), ∃ (fg9 : Nat → Nat), ¬ linesOK (lk tx ul) ul ∧ nI 0 = r ∧ (pt9, hh9, fi9, fl9, fo9, fg9) = u)) (fun (u : Nat × (Nat → Nat) × (Nat → Nat) × (Nat → Nat) × (Nat → Nat) × (Nat → Nat)) => [(qm, .inr (6, [.int (nI th), .int (nI ul), .ref xt, .int (nI u.1), .ref xh, .ref xi, .ref xl, .ref xo, .ref xg, .ref xd, .int (zB ld), .ref xs, .int (nI stt), .int (nI sts), .int (nI drw), .ref xn, .ref xb, .ref xv, .int (nI bd), .int (nI rd)])), (xt, aI G 400 tx), (xh, aI G 5 u.2.1), (xi, aI G 100 u.2.2.1), (xl, aI G 300 u.2.2.2.1), (xo, aI G 100 u.2.2.2.2.1), (xg, aI G 300 u.2.2.2.2.2)]) := by
  refine Met.ofW (cc := cM_lines) (maxL := 4) (ret := (some .boolean)) (by decide) rfl ?_
  intro p e s m args below meth c s₁ B hml hv
  obtain ⟨hav, hsz, hP, hK, hD0, hE⟩ := hv
  have hx := B.exec
  have hb := B.bytes
  have hr := B.returns
  have htb : ∀ w ∈ TB, w.before args s = true := fun w h => atoms_spec (ws := Cond.code yM_lines cM_lines 4 (some .boolean) :: TB) B.pre w (List.mem_cons_of_mem _ h)
  have hown : s.vm.findClass "CircuitProverModel" = some m.cls := findClass_of_methodNamed B.named
  have hlocks := B.notSynchronized
  subst hsz
  have hD := hD0.self (sz := s.heap.size)
  clear hD0
  generalize hRm : (headSpec (Cond.code yM_lines cM_lines 4 (some .boolean) :: TB) { frames := 3, cells := 0, slots := 0, locals := 69 }).room = R
  have hRf : R.frames = 3 := by rw [← hRm]; rfl
  have hRl : R.locals = 69 := by rw [← hRm]; rfl
  have hRc : R.cells = 0 := by rw [← hRm]; rfl
  have hRs : R.slots = 0 := by rw [← hRm]; rfl
  clear hRm
  generalize hAe : va_A [(qm, .inr (6, [.int (nI th), .int (nI ul), .ref xt, .int (nI pt), .ref xh, .ref xi, .ref xl, .ref xo, .ref xg, .ref xd, .int (zB ld), .ref xs, .int (nI stt), .int (nI sts), .int (nI drw), .ref xn, .ref xb, .ref xv, .int (nI bd), .int (nI rd)])), (xt, aI G 400 tx), (xh, aI G 5 hh), (xi, aI G 100 fi), (xl, aI G 300 fl), (xo, aI G 100 fo), (xg, aI G 300 fg)] s.heap.size = A at hD hE ⊢
  have hA : ∀ q : Nat, s.heap.size ≤ q → A q := fun q h => by rw [← hAe]; exact Or.inr h
  clear hAe
  have hS : va_S A s.heap s.heap [] := va_S.rf
  have hl := lv_entry ([.ref qm]) (n := 4) (Nat.le_of_ble_eq_true rfl)
  have hent := lg_entry_eq m ([.ref qm]) 4
  rw [← hav] at hent
  rw [hent]
  clear hent hav
  generalize (lg_sl ([.ref qm]) ++ List.replicate (4 - (lg_sl ([.ref qm])).length) Slot.unset).toArray = ls at hl ⊢
  have hl : lv_has ls 4 [(0, .ref qm)] := hl
  generalize hQ : MQ below _ args s 0 0 _ = Q
  have hP : va_P (gD G) vC [(qm, .inr (6, [.int (nI th), .int (nI ul), .ref xt, .int (nI pt), .ref xh, .ref xi, .ref xl, .ref xo, .ref xg, .ref xd, .int (zB ld), .ref xs, .int (nI stt), .int (nI sts), .int (nI drw), .ref xn, .ref xb, .ref xv, .int (nI bd), .int (nI rd)])), (xt, aI G 400 tx), (xh, aI G 5 hh), (xi, aI G 100 fi), (xl, aI G 300 fl), (xo, aI G 100 fo), (xg, aI G 300 fg)] s.heap := hP
  obtain ⟨H, hH⟩ : ∃ H : Heap, H = s.heap := ⟨_, rfl⟩
  obtain ⟨locs, hlc⟩ : ∃ L : List Loc, L = [] := ⟨_, rfl⟩
  have hS : va_S A s.heap H locs := by rw [hH, hlc]; exact hS
  have hP : va_P (gD G) vC [(qm, .inr (6, [.int (nI th), .int (nI ul), .ref xt, .int (nI pt), .ref xh, .ref xi, .ref xl, .ref xo, .ref xg, .ref xd, .int (zB ld), .ref xs, .int (nI stt), .int (nI sts), .int (nI drw), .ref xn, .ref xb, .ref xv, .int (nI bd), .int (nI rd)])), (xt, aI G 400 tx), (xh, aI G 5 hh), (xi, aI G 100 fi), (xl, aI G 300 fl), (xo, aI G 100 fo), (xg, aI G 300 fg)] H := by rw [hH]; exact hP
  have hgo : W p l e R s m args below meth c H locs 0 0 Q (F0 m 0 ls []) := by
    clear hH hlc
    refine lv_aload_n hx hb dM_lines_0 rfl (lv_at hl 0 rfl) ?_
    refine lv_iconst (v := nI 0) hx hb dM_lines_1 (by decide) ?_
    refine va_put (D := gD G) (ci := 6) (v := .int (nI 0)) (ty := tyM 3) (C := "CircuitProverModel") (T := TM) (N := 20) hx hb htb inM tyM tyM_ok nmM hown hK hP hD hS 0 rfl rfl 3 (by decide) (htb _ b674) (fun _ h9 => h9) rfl (tyM_ok 3 (by decide)) rfl rfl (Nat.le_of_ble_eq_true rfl) dM_lines_2 (fun H locs hP hD hS => ?_)
    have hP : va_P (gD G) vC [(qm, .inr (6, [.int (nI th), .int (nI ul), .ref xt, .int (nI 0), .ref xh, .ref xi, .ref xl, .ref xo, .ref xg, .ref xd, .int (zB ld), .ref xs, .int (nI stt), .int (nI sts), .int (nI drw), .ref xn, .ref xb, .ref xv, .int (nI bd), .int (nI rd)])), (xt, aI G 400 tx), (xh, aI G 5 hh), (xi, aI G 100 fi), (xl, aI G 300 fl), (xo, aI G 100 fo), (xg, aI G 300 fg)] H := hP
    have hD : va_D A [(qm, .inr (6, [.int (nI th), .int (nI ul), .ref xt, .int (nI 0), .ref xh, .ref xi, .ref xl, .ref xo, .ref xg, .ref xd, .int (zB ld), .ref xs, .int (nI stt), .int (nI sts), .int (nI drw), .ref xn, .ref xb, .ref xv, .int (nI bd), .int (nI rd)])), (xt, aI G 400 tx), (xh, aI G 5 hh), (xi, aI G 100 fi), (xl, aI G 300 fl), (xo, aI G 100 fo), (xg, aI G 300 fg)] := hD
    refine lv_aload_n hx hb dM_lines_5 rfl (lv_at hl 0 rfl) ?_
    refine lv_bipush (v := nI 97) hx hb dM_lines_6 (by decide) ?_
    refine k_i (ws2 := fun u => [(qm, .inr (6, [.int (nI th), .int (nI ul), .ref xt, .int (nI (u)), .ref xh, .ref xi, .ref xl, .ref xo, .ref xg, .ref xd, .int (zB ld), .ref xs, .int (nI stt), .int (nI sts), .int (nI drw), .ref xn, .ref xb, .ref xv, .int (nI bd), .int (nI rd)])), (xt, aI G 400 tx), (xh, aI G 5 hh), (xi, aI G 100 fi), (xl, aI G 300 fl), (xo, aI G 100 fo), (xg, aI G 300 fg)]) (wr := [(xh, aI G 5 hh), (xi, aI G 100 fi), (xl, aI G 300 fl), (xo, aI G 100 fo), (xg, aI G 300 fg)]) (k_runV (n := 1) (As := [.int (nI 97)]) (rest := []) hx hb hml hown htb hP hD hK hS hA hE (k_M_eat l G H.size qm xt xh xi xl xo xg xd xs xn xb xv th ul 0 ld stt sts drw bd rd tx 97 (show ul ≤ 400 from by omega) (show 0 ≤ ul from by omega) (show ∀ j, tx j < 128 from by omega) (show 0 < 97 ∧ 97 < 128 from by omega)) b760 b762 s31 b7 b763 (by decide +kernel) rfl rfl ⟨by rw [hRf]; exact Nat.le_of_ble_eq_true rfl, by rw [hRl]; exact Nat.le_of_ble_eq_true rfl⟩ [0, 1] rfl (by decide) 0 rfl rfl rfl rfl hl.1 rfl (Nat.le_of_ble_eq_true rfl) dM_lines_8 ⟨Nat.zero_le _, Nat.zero_le _⟩) hP hD hS hA [0, 1] [2, 3, 4, 5, 6] [5, 6, 0, 1, 2, 3, 4] rfl rfl (by decide) (by decide) (fun u => rfl) (by decide) (fun r u H locs hw hP hD hS => ?_)
    rcases hw with ⟨hc8_e, hc8_b, rfl, rfl⟩ | ⟨hc8_e, rfl, rfl⟩
    · skip
      have hP : va_P (gD G) vC [(qm, .inr (6, [.int (nI th), .int (nI ul), .ref xt, .int (nI (0 + 1)), .ref xh, .ref xi, .ref xl, .ref xo, .ref xg, .ref xd, .int (zB ld), .ref xs, .int (nI stt), .int (nI sts), .int (nI drw), .ref xn, .ref xb, .ref xv, .int (nI bd), .int (nI rd)])), (xt, aI G 400 tx), (xh, aI G 5 hh), (xi, aI G 100 fi), (xl, aI G 300 fl), (xo, aI G 100 fo), (xg, aI G 300 fg)] H := hP
      have hD : va_D A [(qm, .inr (6, [.int (nI th), .int (nI ul), .ref xt, .int (nI (0 + 1)), .ref xh, .ref xi, .ref xl, .ref xo, .ref xg, .ref xd, .int (zB ld), .ref xs, .int (nI stt), .int (nI sts), .int (nI drw), .ref xn, .ref xb, .ref xv, .int (nI bd), .int (nI rd)])), (xt, aI G 400 tx), (xh, aI G 5 hh), (xi, aI G 100 fi), (xl, aI G 300 fl), (xo, aI G 100 fo), (xg, aI G 300 fg)] := hD
      refine lv_if_eq (tgt := 51) hx hb dM_lines_11 rfl (fun h11 => (by revert h11; first | decide | exact fun z => absurd z (by decide) | exact fun z => z.elim (by decide))) (fun _ => ?_)
      refine lv_aload_n hx hb dM_lines_14 rfl (lv_at hl 0 rfl) ?_
      refine lv_bipush (v := nI 97) hx hb dM_lines_15 (by decide) ?_
      refine k_i (ws2 := fun u => [(qm, .inr (6, [.int (nI th), .int (nI ul), .ref xt, .int (nI (u)), .ref xh, .ref xi, .ref xl, .ref xo, .ref xg, .ref xd, .int (zB ld), .ref xs, .int (nI stt), .int (nI sts), .int (nI drw), .ref xn, .ref xb, .ref xv, .int (nI bd), .int (nI rd)])), (xt, aI G 400 tx), (xh, aI G 5 hh), (xi, aI G 100 fi), (xl, aI G 300 fl), (xo, aI G 100 fo), (xg, aI G 300 fg)]) (wr := [(xh, aI G 5 hh), (xi, aI G 100 fi), (xl, aI G 300 fl), (xo, aI G 100 fo), (xg, aI G 300 fg)]) (k_runV (n := 1) (As := [.int (nI 97)]) (rest := []) hx hb hml hown htb hP hD hK hS hA hE (k_M_eat l G H.size qm xt xh xi xl xo xg xd xs xn xb xv th ul (0 + 1) ld stt sts drw bd rd tx 97 (show ul ≤ 400 from by omega) (show (0 + 1) ≤ ul from by omega) (show ∀ j, tx j < 128 from by omega) (show 0 < 97 ∧ 97 < 128 from by omega)) b760 b762 s31 b7 b763 (by decide +kernel) rfl rfl ⟨by rw [hRf]; exact Nat.le_of_ble_eq_true rfl, by rw [hRl]; exact Nat.le_of_ble_eq_true rfl⟩ [0, 1] rfl (by decide) 0 rfl rfl rfl rfl hl.1 rfl (Nat.le_of_ble_eq_true rfl) dM_lines_17 ⟨Nat.zero_le _, Nat.zero_le _⟩) hP hD hS hA [0, 1] [2, 3, 4, 5, 6] [5, 6, 0, 1, 2, 3, 4] rfl rfl (by decide) (by decide) (fun u => rfl) (by decide) (fun r u H locs hw hP hD hS => ?_)
      rcases hw with ⟨hc17_e, hc17_b, rfl, rfl⟩ | ⟨hc17_e, rfl, rfl⟩
      · skip
        have hP : va_P (gD G) vC [(qm, .inr (6, [.int (nI th), .int (nI ul), .ref xt, .int (nI ((0 + 1) + 1)), .ref xh, .ref xi, .ref xl, .ref xo, .ref xg, .ref xd, .int (zB ld), .ref xs, .int (nI stt), .int (nI sts), .int (nI drw), .ref xn, .ref xb, .ref xv, .int (nI bd), .int (nI rd)])), (xt, aI G 400 tx), (xh, aI G 5 hh), (xi, aI G 100 fi), (xl, aI G 300 fl), (xo, aI G 100 fo), (xg, aI G 300 fg)] H := hP
        have hD : va_D A [(qm, .inr (6, [.int (nI th), .int (nI ul), .ref xt, .int (nI ((0 + 1) + 1)), .ref xh, .ref xi, .ref xl, .ref xo, .ref xg, .ref xd, .int (zB ld), .ref xs, .int (nI stt), .int (nI sts), .int (nI drw), .ref xn, .ref xb, .ref xv, .int (nI bd), .int (nI rd)])), (xt, aI G 400 tx), (xh, aI G 5 hh), (xi, aI G 100 fi), (xl, aI G 300 fl), (xo, aI G 100 fo), (xg, aI G 300 fg)] := hD
        refine lv_if_eq (tgt := 51) hx hb dM_lines_20 rfl (fun h20 => (by revert h20; first | decide | exact fun z => absurd z (by decide) | exact fun z => z.elim (by decide))) (fun _ => ?_)
        refine lv_aload_n hx hb dM_lines_23 rfl (lv_at hl 0 rfl) ?_
        refine lv_bipush (v := nI 103) hx hb dM_lines_24 (by decide) ?_
        refine k_i (ws2 := fun u => [(qm, .inr (6, [.int (nI th), .int (nI ul), .ref xt, .int (nI (u)), .ref xh, .ref xi, .ref xl, .ref xo, .ref xg, .ref xd, .int (zB ld), .ref xs, .int (nI stt), .int (nI sts), .int (nI drw), .ref xn, .ref xb, .ref xv, .int (nI bd), .int (nI rd)])), (xt, aI G 400 tx), (xh, aI G 5 hh), (xi, aI G 100 fi), (xl, aI G 300 fl), (xo, aI G 100 fo), (xg, aI G 300 fg)]) (wr := [(xh, aI G 5 hh), (xi, aI G 100 fi), (xl, aI G 300 fl), (xo, aI G 100 fo), (xg, aI G 300 fg)]) (k_runV (n := 1) (As := [.int (nI 103)]) (rest := []) hx hb hml hown htb hP hD hK hS hA hE (k_M_eat l G H.size qm xt xh xi xl xo xg xd xs xn xb xv th ul ((0 + 1) + 1) ld stt sts drw bd rd tx 103 (show ul ≤ 400 from by omega) (show ((0 + 1) + 1) ≤ ul from by omega) (show ∀ j, tx j < 128 from by omega) (show 0 < 103 ∧ 103 < 128 from by omega)) b760 b762 s31 b7 b763 (by decide +kernel) rfl rfl ⟨by rw [hRf]; exact Nat.le_of_ble_eq_true rfl, by rw [hRl]; exact Nat.le_of_ble_eq_true rfl⟩ [0, 1] rfl (by decide) 0 rfl rfl rfl rfl hl.1 rfl (Nat.le_of_ble_eq_true rfl) dM_lines_26 ⟨Nat.zero_le _, Nat.zero_le _⟩) hP hD hS hA [0, 1] [2, 3, 4, 5, 6] [5, 6, 0, 1, 2, 3, 4] rfl rfl (by decide) (by decide) (fun u => rfl) (by decide) (fun r u H locs hw hP hD hS => ?_)
        rcases hw with ⟨hc26_e, hc26_b, rfl, rfl⟩ | ⟨hc26_e, rfl, rfl⟩
        · skip
          have hP : va_P (gD G) vC [(qm, .inr (6, [.int (nI th), .int (nI ul), .ref xt, .int (nI (((0 + 1) + 1) + 1)), .ref xh, .ref xi, .ref xl, .ref xo, .ref xg, .ref xd, .int (zB ld), .ref xs, .int (nI stt), .int (nI sts), .int (nI drw), .ref xn, .ref xb, .ref xv, .int (nI bd), .int (nI rd)])), (xt, aI G 400 tx), (xh, aI G 5 hh), (xi, aI G 100 fi), (xl, aI G 300 fl), (xo, aI G 100 fo), (xg, aI G 300 fg)] H := hP
          have hD : va_D A [(qm, .inr (6, [.int (nI th), .int (nI ul), .ref xt, .int (nI (((0 + 1) + 1) + 1)), .ref xh, .ref xi, .ref xl, .ref xo, .ref xg, .ref xd, .int (zB ld), .ref xs, .int (nI stt), .int (nI sts), .int (nI drw), .ref xn, .ref xb, .ref xv, .int (nI bd), .int (nI rd)])), (xt, aI G 400 tx), (xh, aI G 5 hh), (xi, aI G 100 fi), (xl, aI G 300 fl), (xo, aI G 100 fo), (xg, aI G 300 fg)] := hD
          refine lv_if_eq (tgt := 51) hx hb dM_lines_29 rfl (fun h29 => (by revert h29; first | decide | exact fun z => absurd z (by decide) | exact fun z => z.elim (by decide))) (fun _ => ?_)
          refine lv_aload_n hx hb dM_lines_32 rfl (lv_at hl 0 rfl) ?_
          refine lv_bipush (v := nI 32) hx hb dM_lines_33 (by decide) ?_
          refine k_i (ws2 := fun u => [(qm, .inr (6, [.int (nI th), .int (nI ul), .ref xt, .int (nI (u)), .ref xh, .ref xi, .ref xl, .ref xo, .ref xg, .ref xd, .int (zB ld), .ref xs, .int (nI stt), .int (nI sts), .int (nI drw), .ref xn, .ref xb, .ref xv, .int (nI bd), .int (nI rd)])), (xt, aI G 400 tx), (xh, aI G 5 hh), (xi, aI G 100 fi), (xl, aI G 300 fl), (xo, aI G 100 fo), (xg, aI G 300 fg)]) (wr := [(xh, aI G 5 hh), (xi, aI G 100 fi), (xl, aI G 300 fl), (xo, aI G 100 fo), (xg, aI G 300 fg)]) (k_runV (n := 1) (As := [.int (nI 32)]) (rest := []) hx hb hml hown htb hP hD hK hS hA hE (k_M_eat l G H.size qm xt xh xi xl xo xg xd xs xn xb xv th ul (((0 + 1) + 1) + 1) ld stt sts drw bd rd tx 32 (show ul ≤ 400 from by omega) (show (((0 + 1) + 1) + 1) ≤ ul from by omega) (show ∀ j, tx j < 128 from by omega) (show 0 < 32 ∧ 32 < 128 from by omega)) b760 b762 s31 b7 b763 (by decide +kernel) rfl rfl ⟨by rw [hRf]; exact Nat.le_of_ble_eq_true rfl, by rw [hRl]; exact Nat.le_of_ble_eq_true rfl⟩ [0, 1] rfl (by decide) 0 rfl rfl rfl rfl hl.1 rfl (Nat.le_of_ble_eq_true rfl) dM_lines_35 ⟨Nat.zero_le _, Nat.zero_le _⟩) hP hD hS hA [0, 1] [2, 3, 4, 5, 6] [5, 6, 0, 1, 2, 3, 4] rfl rfl (by decide) (by decide) (fun u => rfl) (by decide) (fun r u H locs hw hP hD hS => ?_)
          rcases hw with ⟨hc35_e, hc35_b, rfl, rfl⟩ | ⟨hc35_e, rfl, rfl⟩
          · skip
            have hP : va_P (gD G) vC [(qm, .inr (6, [.int (nI th), .int (nI ul), .ref xt, .int (nI ((((0 + 1) + 1) + 1) + 1)), .ref xh, .ref xi, .ref xl, .ref xo, .ref xg, .ref xd, .int (zB ld), .ref xs, .int (nI stt), .int (nI sts), .int (nI drw), .ref xn, .ref xb, .ref xv, .int (nI bd), .int (nI rd)])), (xt, aI G 400 tx), (xh, aI G 5 hh), (xi, aI G 100 fi), (xl, aI G 300 fl), (xo, aI G 100 fo), (xg, aI G 300 fg)] H := hP
            have hD : va_D A [(qm, .inr (6, [.int (nI th), .int (nI ul), .ref xt, .int (nI ((((0 + 1) + 1) + 1) + 1)), .ref xh, .ref xi, .ref xl, .ref xo, .ref xg, .ref xd, .int (zB ld), .ref xs, .int (nI stt), .int (nI sts), .int (nI drw), .ref xn, .ref xb, .ref xv, .int (nI bd), .int (nI rd)])), (xt, aI G 400 tx), (xh, aI G 5 hh), (xi, aI G 100 fi), (xl, aI G 300 fl), (xo, aI G 100 fo), (xg, aI G 300 fg)] := hD
            refine lv_if_eq (tgt := 51) hx hb dM_lines_38 rfl (fun h38 => (by revert h38; first | decide | exact fun z => absurd z (by decide) | exact fun z => z.elim (by decide))) (fun _ => ?_)
            refine lv_aload_n hx hb dM_lines_41 rfl (lv_at hl 0 rfl) ?_
            refine lv_iconst (v := nI 0) hx hb dM_lines_42 (by decide) ?_
            refine lv_iconst (v := nI 0) hx hb dM_lines_43 (by decide) ?_
            refine lv_iconst (v := nI 5) hx hb dM_lines_44 (by decide) ?_
            refine k_i (ws2 := fun u => [(qm, .inr (6, [.int (nI th), .int (nI ul), .ref xt, .int (nI (u.1)), .ref xh, .ref xi, .ref xl, .ref xo, .ref xg, .ref xd, .int (zB ld), .ref xs, .int (nI stt), .int (nI sts), .int (nI drw), .ref xn, .ref xb, .ref xv, .int (nI bd), .int (nI rd)])), (xt, aI G 400 tx), (xh, aI G 5 (u.2)), (xi, aI G 100 fi), (xl, aI G 300 fl), (xo, aI G 100 fo), (xg, aI G 300 fg)]) (wr := [(xi, aI G 100 fi), (xl, aI G 300 fl), (xo, aI G 100 fo), (xg, aI G 300 fg)]) (k_runV (n := 3) (As := [.int (nI 0), .int (nI 0), .int (nI 5)]) (rest := []) hx hb hml hown htb hP hD hK hS hA hE (k_M_line_r0 l G H.size qm xt xh xi xl xo xg xd xs xn xb xv th ul ((((0 + 1) + 1) + 1) + 1) ld stt sts drw bd rd tx hh (show ul ≤ 400 from by omega) (show ((((0 + 1) + 1) + 1) + 1) ≤ ul from by omega) (show ∀ j, tx j < 128 from by omega)) b768 b770 s33 b7 b771 (by decide +kernel) rfl rfl ⟨by rw [hRf]; exact Nat.le_of_ble_eq_true rfl, by rw [hRl]; exact Nat.le_of_ble_eq_true rfl⟩ [0, 1, 2] rfl (by decide) 0 rfl rfl rfl rfl hl.1 rfl (Nat.le_of_ble_eq_true rfl) dM_lines_45 ⟨Nat.zero_le _, Nat.zero_le _⟩) hP hD hS hA [0, 1, 2] [3, 4, 5, 6] [4, 5, 6, 0, 1, 2, 3] rfl rfl (by decide) (by decide) (fun u => rfl) (by decide) (fun r u H locs hw hP hD hS => ?_)
            rcases hw with ⟨li45, z45, hh145, hc45_e, hc45_v, hc45_b, rfl, rfl⟩ | ⟨z45, hh145, hc45_e, hc45_b, rfl, rfl⟩
            · skip
              have hP : va_P (gD G) vC [(qm, .inr (6, [.int (nI th), .int (nI ul), .ref xt, .int (nI z45), .ref xh, .ref xi, .ref xl, .ref xo, .ref xg, .ref xd, .int (zB ld), .ref xs, .int (nI stt), .int (nI sts), .int (nI drw), .ref xn, .ref xb, .ref xv, .int (nI bd), .int (nI rd)])), (xt, aI G 400 tx), (xh, aI G 5 hh145), (xi, aI G 100 fi), (xl, aI G 300 fl), (xo, aI G 100 fo), (xg, aI G 300 fg)] H := hP
              have hD : va_D A [(qm, .inr (6, [.int (nI th), .int (nI ul), .ref xt, .int (nI z45), .ref xh, .ref xi, .ref xl, .ref xo, .ref xg, .ref xd, .int (zB ld), .ref xs, .int (nI stt), .int (nI sts), .int (nI drw), .ref xn, .ref xb, .ref xv, .int (nI bd), .int (nI rd)])), (xt, aI G 400 tx), (xh, aI G 5 hh145), (xi, aI G 100 fi), (xl, aI G 300 fl), (xo, aI G 100 fo), (xg, aI G 300 fg)] := hD
              have hH : hdO (lk tx ul) = some (li45, z45) := by unfold hdO; rw [if_pos ⟨hc8_e, hc17_e, hc26_e, hc35_e⟩]; exact hc45_e
              have hH5 : ∀ c, c < 5 → hh145 c = hd (lk tx ul) c := fun c hc => by rw [hc45_v c hc, hd_s hH]
              have hb0 := hd_lt (lk tx ul) 0
              have hb1 := hd_lt (lk tx ul) 1
              have hb2 := hd_lt (lk tx ul) 2
              have hb3 := hd_lt (lk tx ul) 3
              have hb4 := hd_lt (lk tx ul) 4
              have hc0 := hH5 0 (by decide)
              have hc1 := hH5 1 (by decide)
              have hc2 := hH5 2 (by decide)
              have hc3 := hH5 3 (by decide)
              have hc4 := hH5 4 (by decide)
              refine lv_if_ne (tgt := 53) hx hb dM_lines_48 rfl (fun _ => ?_) (fun h48 => (by revert h48; first | decide | exact fun z => absurd z (by decide) | exact fun z => z.elim (by decide)))
              refine lv_iconst (v := nI 1) hx hb dM_lines_53 (by decide) ?_
              refine lv_istore_n (lv' := [(1, .int (nI 1)), (0, .ref qm)]) hx hb dM_lines_54 rfl hl (by decide) rfl (fun ls hl => ?_)
              refine lv_iload_n hx hb dM_lines_55 rfl (lv_at hl 0 rfl) ?_
              refine lv_iconst (v := nI 5) hx hb dM_lines_56 (by decide) ?_
              refine lv_icmp_ge (tgt := 112) hx hb dM_lines_57 rfl (fun h57 => (by revert h57; first | decide | exact fun z => absurd z (by decide) | exact fun z => z.elim (by decide))) (fun _ => ?_)
              refine lv_aload_n hx hb dM_lines_60 rfl (lv_at hl 1 rfl) ?_
              refine va_get (D := gD G) (ci := 6) (v := .ref xh) (C := "CircuitProverModel") (T := TM) (N := 20) hx hb htb inM hown hK hP 0 rfl rfl 4 (by decide) (htb _ b675) (fun _ h9 => h9) rfl dM_lines_61 ?_
              refine lv_iload_n hx hb dM_lines_64 rfl (lv_at hl 0 rfl) ?_
              refine k_iald hx hb hK hP 2 rfl (k := 1) (by omega) (by decide) dM_lines_65 ?_
              refine lv_istore_n (lv' := [(2, .int (nI (hh145 1))), (1, .int (nI 1)), (0, .ref qm)]) hx hb dM_lines_66 rfl hl (by decide) rfl (fun ls hl => ?_)
              refine lv_iconst (v := nI 0) hx hb dM_lines_67 (by decide) ?_
              refine lv_istore_n (lv' := [(3, .int (nI 0)), (2, .int (nI (hh145 1))), (1, .int (nI 1)), (0, .ref qm)]) hx hb dM_lines_68 rfl hl (by decide) rfl (fun ls hl => ?_)
              have loop69 : ∀ (n : Nat) (kA : Nat) (pA : Nat) (fA : Nat → Nat) (H : Heap) (locs : List Loc) (ls : Array Slot), hh145 1 - kA < n → (kA ≤ hh145 1) → (okl (exF (lk tx ul) 1) (e0 (lk tx ul)) kA) → (pA = pos (exF (lk tx ul) 1) (e0 (lk tx ul)) kA) → (pA ≤ ul) → (mIn (lk tx ul) fA kA) → va_P (gD G) vC [(qm, .inr (6, [.int (nI th), .int (nI ul), .ref xt, .int (nI pA), .ref xh, .ref xi, .ref xl, .ref xo, .ref xg, .ref xd, .int (zB ld), .ref xs, .int (nI stt), .int (nI sts), .int (nI drw), .ref xn, .ref xb, .ref xv, .int (nI bd), .int (nI rd)])), (xt, aI G 400 tx), (xh, aI G 5 hh145), (xi, aI G 100 fA), (xl, aI G 300 fl), (xo, aI G 100 fo), (xg, aI G 300 fg)] H → va_D A [(qm, .inr (6, [.int (nI th), .int (nI ul), .ref xt, .int (nI pA), .ref xh, .ref xi, .ref xl, .ref xo, .ref xg, .ref xd, .int (zB ld), .ref xs, .int (nI stt), .int (nI sts), .int (nI drw), .ref xn, .ref xb, .ref xv, .int (nI bd), .int (nI rd)])), (xt, aI G 400 tx), (xh, aI G 5 hh145), (xi, aI G 100 fA), (xl, aI G 300 fl), (xo, aI G 100 fo), (xg, aI G 300 fg)] → va_S A s.heap H locs → lv_has ls 4 [(0, .ref qm), (1, .int (nI 1)), (2, .int (nI (hh145 1))), (3, .int (nI kA))] → W p l e R s m args below meth c H locs 0 0 Q (F0 m 69 ls []) := by
                intro n
                induction n with
                | zero => intro kA pA fA H locs ls hmu; omega
                | succ n ih =>
                  intro kA pA fA H locs ls hmu hkA hoA hpA huA hvA hP hD hS hl
                  have ih69 := ih
                  clear ih
                  refine lv_iload_n hx hb dM_lines_69 rfl (lv_at hl 3 rfl) ?_
                  refine lv_iload_n hx hb dM_lines_70 rfl (lv_at hl 2 rfl) ?_
                  refine lv_icmp_ge (tgt := 106) hx hb dM_lines_71 rfl (fun h71 => ?_) (fun h71 => ?_)
                  · have h71 : hh145 1 ≤ kA := (nI_leI (a := hh145 1) (b := kA) (by omega) (by omega)).mp h71
                    refine lv_iinc (v := nI 2) (lv' := [(1, .int (nI 2)), (0, .ref qm), (2, .int (nI (hh145 1))), (3, .int (nI kA))]) hx hb dM_lines_106 hl (k := 1) rfl (nI_add _ 1) (by decide) rfl (fun ls hl => ?_)
                    refine lv_goto (tgt := 55) hx hb dM_lines_109 rfl ?_
                    refine lv_iload_n hx hb dM_lines_55 rfl (lv_at hl 0 rfl) ?_
                    refine lv_iconst (v := nI 5) hx hb dM_lines_56 (by decide) ?_
                    refine lv_icmp_ge (tgt := 112) hx hb dM_lines_57 rfl (fun h57 => (by revert h57; first | decide | exact fun z => absurd z (by decide) | exact fun z => z.elim (by decide))) (fun _ => ?_)
                    refine lv_aload_n hx hb dM_lines_60 rfl (lv_at hl 1 rfl) ?_
                    refine va_get (D := gD G) (ci := 6) (v := .ref xh) (C := "CircuitProverModel") (T := TM) (N := 20) hx hb htb inM hown hK hP 0 rfl rfl 4 (by decide) (htb _ b675) (fun _ h9 => h9) rfl dM_lines_61 ?_
                    refine lv_iload_n hx hb dM_lines_64 rfl (lv_at hl 0 rfl) ?_
                    refine k_iald hx hb hK hP 2 rfl (k := 2) (by omega) (by decide) dM_lines_65 ?_
                    refine lv_istore_n (lv' := [(2, .int (nI (hh145 2))), (1, .int (nI 2)), (0, .ref qm), (3, .int (nI kA))]) hx hb dM_lines_66 rfl hl (by decide) rfl (fun ls hl => ?_)
                    refine lv_iconst (v := nI 0) hx hb dM_lines_67 (by decide) ?_
                    refine lv_istore_n (lv' := [(3, .int (nI 0)), (2, .int (nI (hh145 2))), (1, .int (nI 2)), (0, .ref qm)]) hx hb dM_lines_68 rfl hl (by decide) rfl (fun ls hl => ?_)
                    have loop69 : ∀ (n : Nat) (kB : Nat) (pB : Nat) (fB : Nat → Nat) (H : Heap) (locs : List Loc) (ls : Array Slot), hh145 2 - kB < n → (kB ≤ hh145 2) → (okl (laF (lk tx ul)) (e1 (lk tx ul)) kB) → (pB = pos (laF (lk tx ul)) (e1 (lk tx ul)) kB) → (pB ≤ ul) → (mLa (lk tx ul) fB kB) → va_P (gD G) vC [(qm, .inr (6, [.int (nI th), .int (nI ul), .ref xt, .int (nI pB), .ref xh, .ref xi, .ref xl, .ref xo, .ref xg, .ref xd, .int (zB ld), .ref xs, .int (nI stt), .int (nI sts), .int (nI drw), .ref xn, .ref xb, .ref xv, .int (nI bd), .int (nI rd)])), (xt, aI G 400 tx), (xh, aI G 5 hh145), (xi, aI G 100 fA), (xl, aI G 300 fB), (xo, aI G 100 fo), (xg, aI G 300 fg)] H → va_D A [(qm, .inr (6, [.int (nI th), .int (nI ul), .ref xt, .int (nI pB), .ref xh, .ref xi, .ref xl, .ref xo, .ref xg, .ref xd, .int (zB ld), .ref xs, .int (nI stt), .int (nI sts), .int (nI drw), .ref xn, .ref xb, .ref xv, .int (nI bd), .int (nI rd)])), (xt, aI G 400 tx), (xh, aI G 5 hh145), (xi, aI G 100 fA), (xl, aI G 300 fB), (xo, aI G 100 fo), (xg, aI G 300 fg)] → va_S A s.heap H locs → lv_has ls 4 [(0, .ref qm), (1, .int (nI 2)), (2, .int (nI (hh145 2))), (3, .int (nI kB))] → W p l e R s m args below meth c H locs 0 0 Q (F0 m 69 ls []) := by
                      intro n
                      induction n with
                      | zero => intro kB pB fB H locs ls hmu; omega
                      | succ n ih =>
                        intro kB pB fB H locs ls hmu hkB hoB hpB huB hvB hP hD hS hl
                        have ih69 := ih
                        clear ih
                        refine lv_iload_n hx hb dM_lines_69 rfl (lv_at hl 3 rfl) ?_
                        refine lv_iload_n hx hb dM_lines_70 rfl (lv_at hl 2 rfl) ?_
                        refine lv_icmp_ge (tgt := 106) hx hb dM_lines_71 rfl (fun h71 => ?_) (fun h71 => ?_)
                        · have h71 : hh145 2 ≤ kB := (nI_leI (a := hh145 2) (b := kB) (by omega) (by omega)).mp h71
                          refine lv_iinc (v := nI 3) (lv' := [(1, .int (nI 3)), (0, .ref qm), (2, .int (nI (hh145 2))), (3, .int (nI kB))]) hx hb dM_lines_106 hl (k := 1) rfl (nI_add _ 1) (by decide) rfl (fun ls hl => ?_)
                          refine lv_goto (tgt := 55) hx hb dM_lines_109 rfl ?_
                          refine lv_iload_n hx hb dM_lines_55 rfl (lv_at hl 0 rfl) ?_
                          refine lv_iconst (v := nI 5) hx hb dM_lines_56 (by decide) ?_
                          refine lv_icmp_ge (tgt := 112) hx hb dM_lines_57 rfl (fun h57 => (by revert h57; first | decide | exact fun z => absurd z (by decide) | exact fun z => z.elim (by decide))) (fun _ => ?_)
                          refine lv_aload_n hx hb dM_lines_60 rfl (lv_at hl 1 rfl) ?_
                          refine va_get (D := gD G) (ci := 6) (v := .ref xh) (C := "CircuitProverModel") (T := TM) (N := 20) hx hb htb inM hown hK hP 0 rfl rfl 4 (by decide) (htb _ b675) (fun _ h9 => h9) rfl dM_lines_61 ?_
                          refine lv_iload_n hx hb dM_lines_64 rfl (lv_at hl 0 rfl) ?_
                          refine k_iald hx hb hK hP 2 rfl (k := 3) (by omega) (by decide) dM_lines_65 ?_
                          refine lv_istore_n (lv' := [(2, .int (nI (hh145 3))), (1, .int (nI 3)), (0, .ref qm), (3, .int (nI kB))]) hx hb dM_lines_66 rfl hl (by decide) rfl (fun ls hl => ?_)
                          refine lv_iconst (v := nI 0) hx hb dM_lines_67 (by decide) ?_
                          refine lv_istore_n (lv' := [(3, .int (nI 0)), (2, .int (nI (hh145 3))), (1, .int (nI 3)), (0, .ref qm)]) hx hb dM_lines_68 rfl hl (by decide) rfl (fun ls hl => ?_)
                          have loop69 : ∀ (n : Nat) (kC : Nat) (pC : Nat) (fC : Nat → Nat) (H : Heap) (locs : List Loc) (ls : Array Slot), hh145 3 - kC < n → (kC ≤ hh145 3) → (okl (exF (lk tx ul) 1) (e2 (lk tx ul)) kC) → (pC = pos (exF (lk tx ul) 1) (e2 (lk tx ul)) kC) → (pC ≤ ul) → (mOu (lk tx ul) fC kC) → va_P (gD G) vC [(qm, .inr (6, [.int (nI th), .int (nI ul), .ref xt, .int (nI pC), .ref xh, .ref xi, .ref xl, .ref xo, .ref xg, .ref xd, .int (zB ld), .ref xs, .int (nI stt), .int (nI sts), .int (nI drw), .ref xn, .ref xb, .ref xv, .int (nI bd), .int (nI rd)])), (xt, aI G 400 tx), (xh, aI G 5 hh145), (xi, aI G 100 fA), (xl, aI G 300 fB), (xo, aI G 100 fC), (xg, aI G 300 fg)] H → va_D A [(qm, .inr (6, [.int (nI th), .int (nI ul), .ref xt, .int (nI pC), .ref xh, .ref xi, .ref xl, .ref xo, .ref xg, .ref xd, .int (zB ld), .ref xs, .int (nI stt), .int (nI sts), .int (nI drw), .ref xn, .ref xb, .ref xv, .int (nI bd), .int (nI rd)])), (xt, aI G 400 tx), (xh, aI G 5 hh145), (xi, aI G 100 fA), (xl, aI G 300 fB), (xo, aI G 100 fC), (xg, aI G 300 fg)] → va_S A s.heap H locs → lv_has ls 4 [(0, .ref qm), (1, .int (nI 3)), (2, .int (nI (hh145 3))), (3, .int (nI kC))] → W p l e R s m args below meth c H locs 0 0 Q (F0 m 69 ls []) := by
                            intro n
                            induction n with
                            | zero => intro kC pC fC H locs ls hmu; omega
                            | succ n ih =>
                              intro kC pC fC H locs ls hmu hkC hoC hpC huC hvC hP hD hS hl
                              have ih69 := ih
                              clear ih
                              refine lv_iload_n hx hb dM_lines_69 rfl (lv_at hl 3 rfl) ?_
                              refine lv_iload_n hx hb dM_lines_70 rfl (lv_at hl 2 rfl) ?_
                              refine lv_icmp_ge (tgt := 106) hx hb dM_lines_71 rfl (fun h71 => ?_) (fun h71 => ?_)
                              · have h71 : hh145 3 ≤ kC := (nI_leI (a := hh145 3) (b := kC) (by omega) (by omega)).mp h71
                                refine lv_iinc (v := nI 4) (lv' := [(1, .int (nI 4)), (0, .ref qm), (2, .int (nI (hh145 3))), (3, .int (nI kC))]) hx hb dM_lines_106 hl (k := 1) rfl (nI_add _ 1) (by decide) rfl (fun ls hl => ?_)
                                refine lv_goto (tgt := 55) hx hb dM_lines_109 rfl ?_
                                refine lv_iload_n hx hb dM_lines_55 rfl (lv_at hl 0 rfl) ?_
                                refine lv_iconst (v := nI 5) hx hb dM_lines_56 (by decide) ?_
                                refine lv_icmp_ge (tgt := 112) hx hb dM_lines_57 rfl (fun h57 => (by revert h57; first | decide | exact fun z => absurd z (by decide) | exact fun z => z.elim (by decide))) (fun _ => ?_)
                                refine lv_aload_n hx hb dM_lines_60 rfl (lv_at hl 1 rfl) ?_
                                refine va_get (D := gD G) (ci := 6) (v := .ref xh) (C := "CircuitProverModel") (T := TM) (N := 20) hx hb htb inM hown hK hP 0 rfl rfl 4 (by decide) (htb _ b675) (fun _ h9 => h9) rfl dM_lines_61 ?_
                                refine lv_iload_n hx hb dM_lines_64 rfl (lv_at hl 0 rfl) ?_
                                refine k_iald hx hb hK hP 2 rfl (k := 4) (by omega) (by decide) dM_lines_65 ?_
                                refine lv_istore_n (lv' := [(2, .int (nI (hh145 4))), (1, .int (nI 4)), (0, .ref qm), (3, .int (nI kC))]) hx hb dM_lines_66 rfl hl (by decide) rfl (fun ls hl => ?_)
                                refine lv_iconst (v := nI 0) hx hb dM_lines_67 (by decide) ?_
                                refine lv_istore_n (lv' := [(3, .int (nI 0)), (2, .int (nI (hh145 4))), (1, .int (nI 4)), (0, .ref qm)]) hx hb dM_lines_68 rfl hl (by decide) rfl (fun ls hl => ?_)
                                have loop69 : ∀ (n : Nat) (kD : Nat) (pD : Nat) (fD : Nat → Nat) (H : Heap) (locs : List Loc) (ls : Array Slot), hh145 4 - kD < n → (kD ≤ hh145 4) → (okl (exF (lk tx ul) 3) (e3 (lk tx ul)) kD) → (pD = pos (exF (lk tx ul) 3) (e3 (lk tx ul)) kD) → (pD ≤ ul) → (mGa (lk tx ul) fD kD) → va_P (gD G) vC [(qm, .inr (6, [.int (nI th), .int (nI ul), .ref xt, .int (nI pD), .ref xh, .ref xi, .ref xl, .ref xo, .ref xg, .ref xd, .int (zB ld), .ref xs, .int (nI stt), .int (nI sts), .int (nI drw), .ref xn, .ref xb, .ref xv, .int (nI bd), .int (nI rd)])), (xt, aI G 400 tx), (xh, aI G 5 hh145), (xi, aI G 100 fA), (xl, aI G 300 fB), (xo, aI G 100 fC), (xg, aI G 300 fD)] H → va_D A [(qm, .inr (6, [.int (nI th), .int (nI ul), .ref xt, .int (nI pD), .ref xh, .ref xi, .ref xl, .ref xo, .ref xg, .ref xd, .int (zB ld), .ref xs, .int (nI stt), .int (nI sts), .int (nI drw), .ref xn, .ref xb, .ref xv, .int (nI bd), .int (nI rd)])), (xt, aI G 400 tx), (xh, aI G 5 hh145), (xi, aI G 100 fA), (xl, aI G 300 fB), (xo, aI G 100 fC), (xg, aI G 300 fD)] → va_S A s.heap H locs → lv_has ls 4 [(0, .ref qm), (1, .int (nI 4)), (2, .int (nI (hh145 4))), (3, .int (nI kD))] → W p l e R s m args below meth c H locs 0 0 Q (F0 m 69 ls []) := by
                                  intro n
                                  induction n with
                                  | zero => intro kD pD fD H locs ls hmu; omega
                                  | succ n ih =>
                                    intro kD pD fD H locs ls hmu hkD hoD hpD huD hvD hP hD hS hl
                                    have ih69 := ih
                                    clear ih
                                    refine lv_iload_n hx hb dM_lines_69 rfl (lv_at hl 3 rfl) ?_
                                    refine lv_iload_n hx hb dM_lines_70 rfl (lv_at hl 2 rfl) ?_
                                    refine lv_icmp_ge (tgt := 106) hx hb dM_lines_71 rfl (fun h71 => ?_) (fun h71 => ?_)
                                    · have h71 : hh145 4 ≤ kD := (nI_leI (a := hh145 4) (b := kD) (by omega) (by omega)).mp h71
                                      refine lv_iinc (v := nI 5) (lv' := [(1, .int (nI 5)), (0, .ref qm), (2, .int (nI (hh145 4))), (3, .int (nI kD))]) hx hb dM_lines_106 hl (k := 1) rfl (nI_add _ 1) (by decide) rfl (fun ls hl => ?_)
                                      refine lv_goto (tgt := 55) hx hb dM_lines_109 rfl ?_
                                      refine lv_iload_n hx hb dM_lines_55 rfl (lv_at hl 0 rfl) ?_
                                      refine lv_iconst (v := nI 5) hx hb dM_lines_56 (by decide) ?_
                                      refine lv_icmp_ge (tgt := 112) hx hb dM_lines_57 rfl (fun _ => ?_) (fun h57 => (by revert h57; first | decide | exact fun z => absurd z (by decide) | exact fun z => z.elim (by decide)))
                                      refine lv_aload_n hx hb dM_lines_112 rfl (lv_at hl 1 rfl) ?_
                                      refine va_get (D := gD G) (ci := 6) (v := .int (nI pD)) (C := "CircuitProverModel") (T := TM) (N := 20) hx hb htb inM hown hK hP 0 rfl rfl 3 (by decide) (htb _ b674) (fun _ h9 => h9) rfl dM_lines_113 ?_
                                      refine lv_aload_n hx hb dM_lines_116 rfl (lv_at hl 1 rfl) ?_
                                      refine va_get (D := gD G) (ci := 6) (v := .int (nI ul)) (C := "CircuitProverModel") (T := TM) (N := 20) hx hb htb inM hown hK hP 0 rfl rfl 1 (by decide) (htb _ b672) (fun _ h9 => h9) rfl dM_lines_117 ?_
                                      refine lv_icmp_ne (tgt := 127) hx hb dM_lines_120 rfl (fun h120 => ?_) (fun h120 => ?_)
                                      · have h120 : ¬ pD = ul := fun z => h120 ((nI_eq (a := pD) (b := ul) (by omega) (by omega)).mpr z)
                                        refine lv_iconst (v := nI 0) hx hb dM_lines_127 (by decide) ?_
                                        -- end 0
                                        rw [← hQ]
                                        exact k_iret hx hb hr hlocks (by decide) (u := (pD, hh145, fA, fB, fC, fD)) (Or.inr ⟨_, _, _, _, _, _, fun q => h120 (by have h9 := q.2.2.2.2.2; unfold e4 at h9; rw [show hd (lk tx ul) 4 = kD by omega, ← hpD] at h9; exact h9), rfl, rfl⟩) hP hD hK hS dM_lines_128
                                      · have h120 : pD = ul := (nI_eq (a := pD) (b := ul) (by omega) (by omega)).mp h120
                                        refine lv_iconst (v := nI 1) hx hb dM_lines_123 (by decide) ?_
                                        refine lv_goto (tgt := 128) hx hb dM_lines_124 rfl ?_
                                        -- end 1
                                        rw [← hQ]
                                        exact k_iret hx hb hr hlocks (by decide) (u := (pD, hh145, fA, fB, fC, fD)) (Or.inl ⟨_, _, _, _, _, _, ⟨⟨_, hH⟩, by rw [show hd (lk tx ul) 1 = kA by omega]; exact hoA, by rw [show hd (lk tx ul) 2 = kB by omega]; exact hoB, by rw [show hd (lk tx ul) 3 = kC by omega]; exact hoC, by rw [show hd (lk tx ul) 4 = kD by omega]; exact hoD, by unfold e4; rw [show hd (lk tx ul) 4 = kD by omega, ← hpD]; exact h120⟩, hH5, by rw [show hd (lk tx ul) 1 = kA by omega]; exact hvA, by rw [show hd (lk tx ul) 2 = kB by omega]; exact hvB, by rw [show hd (lk tx ul) 3 = kC by omega]; exact hvC, by rw [show hd (lk tx ul) 4 = kD by omega]; exact hvD, rfl, rfl⟩) hP hD hK hS dM_lines_128
                                    · have h71 : kD < hh145 4 := Nat.lt_of_not_le (fun z => h71 ((nI_leI (a := hh145 4) (b := kD) (by omega) (by omega)).mpr z))
                                      refine lv_aload_n hx hb dM_lines_74 rfl (lv_at hl 0 rfl) ?_
                                      refine lv_iload_n hx hb dM_lines_75 rfl (lv_at hl 1 rfl) ?_
                                      refine lv_iload_n hx hb dM_lines_76 rfl (lv_at hl 3 rfl) ?_
                                      refine lv_iload_n hx hb dM_lines_77 rfl (lv_at hl 1 rfl) ?_
                                      refine lv_iconst (v := nI 2) hx hb dM_lines_78 (by decide) ?_
                                      refine lv_icmp_eq (tgt := 87) hx hb dM_lines_79 rfl (fun h79 => (by revert h79; first | decide | exact fun z => absurd z (by decide) | exact fun z => z.elim (by decide))) (fun _ => ?_)
                                      refine lv_iload_n hx hb dM_lines_82 rfl (lv_at hl 1 rfl) ?_
                                      refine lv_iconst (v := nI 4) hx hb dM_lines_83 (by decide) ?_
                                      refine lv_icmp_ne (tgt := 91) hx hb dM_lines_84 rfl (fun h84 => (by revert h84; first | decide | exact fun z => absurd z (by decide) | exact fun z => z.elim (by decide))) (fun _ => ?_)
                                      refine lv_iconst (v := nI 3) hx hb dM_lines_87 (by decide) ?_
                                      refine lv_goto (tgt := 92) hx hb dM_lines_88 rfl ?_
                                      refine k_i (ws2 := fun u => [(qm, .inr (6, [.int (nI th), .int (nI ul), .ref xt, .int (nI (u.1)), .ref xh, .ref xi, .ref xl, .ref xo, .ref xg, .ref xd, .int (zB ld), .ref xs, .int (nI stt), .int (nI sts), .int (nI drw), .ref xn, .ref xb, .ref xv, .int (nI bd), .int (nI rd)])), (xt, aI G 400 tx), (xh, aI G 5 hh145), (xi, aI G 100 fA), (xl, aI G 300 fB), (xo, aI G 100 fC), (xg, aI G 300 (u.2))]) (wr := [(xh, aI G 5 hh145), (xi, aI G 100 fA), (xl, aI G 300 fB), (xo, aI G 100 fC)]) (k_runV (n := 3) (As := [.int (nI 4), .int (nI kD), .int (nI 3)]) (rest := []) hx hb hml hown htb hP hD hK hS hA hE (k_M_line_r4 l G H.size qm xt xh xi xl xo xg xd xs xn xb xv th ul pD ld stt sts drw bd rd tx fD kD (show ul ≤ 400 from by omega) (show pD ≤ ul from by omega) (show ∀ j, tx j < 128 from by omega) (show kD < 100 from by omega)) b768 b770 s33 b7 b771 (by decide +kernel) rfl rfl ⟨by rw [hRf]; exact Nat.le_of_ble_eq_true rfl, by rw [hRl]; exact Nat.le_of_ble_eq_true rfl⟩ [0, 1, 6] rfl (by decide) 0 rfl rfl rfl rfl hl.1 rfl (Nat.le_of_ble_eq_true rfl) dM_lines_92 ⟨Nat.zero_le _, Nat.zero_le _⟩) hP hD hS hA [0, 1, 6] [2, 3, 4, 5] [4, 5, 0, 1, 2, 3, 6] rfl rfl (by decide) (by decide) (fun u => rfl) (by decide) (fun r u H locs hw hP hD hS => ?_)
                                      rcases hw with ⟨li92, z92, fg192, hc92_e, hc92_v, hc92_w, hc92_b, rfl, rfl⟩ | ⟨z92, fg192, hc92_e, hc92_b, rfl, rfl⟩
                                      · skip
                                        have hP : va_P (gD G) vC [(qm, .inr (6, [.int (nI th), .int (nI ul), .ref xt, .int (nI z92), .ref xh, .ref xi, .ref xl, .ref xo, .ref xg, .ref xd, .int (zB ld), .ref xs, .int (nI stt), .int (nI sts), .int (nI drw), .ref xn, .ref xb, .ref xv, .int (nI bd), .int (nI rd)])), (xt, aI G 400 tx), (xh, aI G 5 hh145), (xi, aI G 100 fA), (xl, aI G 300 fB), (xo, aI G 100 fC), (xg, aI G 300 fg192)] H := hP
                                        have hD : va_D A [(qm, .inr (6, [.int (nI th), .int (nI ul), .ref xt, .int (nI z92), .ref xh, .ref xi, .ref xl, .ref xo, .ref xg, .ref xd, .int (zB ld), .ref xs, .int (nI stt), .int (nI sts), .int (nI drw), .ref xn, .ref xb, .ref xv, .int (nI bd), .int (nI rd)])), (xt, aI G 400 tx), (xh, aI G 5 hh145), (xi, aI G 100 fA), (xl, aI G 300 fB), (xo, aI G 100 fC), (xg, aI G 300 fg192)] := hD
                                        refine lv_if_ne (tgt := 100) hx hb dM_lines_95 rfl (fun _ => ?_) (fun h95 => (by revert h95; first | decide | exact fun z => absurd z (by decide) | exact fun z => z.elim (by decide)))
                                        refine lv_iinc (v := nI (kD + 1)) (lv' := [(3, .int (nI (kD + 1))), (0, .ref qm), (1, .int (nI 4)), (2, .int (nI (hh145 4)))]) hx hb dM_lines_100 hl (k := 3) rfl (nI_add _ 1) (by decide) rfl (fun ls hl => ?_)
                                        refine lv_goto (tgt := 69) hx hb dM_lines_103 rfl ?_
                                        have hl : lv_has ls 4 [(0, .ref qm), (1, .int (nI 4)), (2, .int (nI (hh145 4))), (3, .int (nI (kD + 1)))] := lv_sub hl [1, 2, 3, 0] rfl
                                        have hLn : exF (lk tx ul) 3 (pos (exF (lk tx ul) 3) (e3 (lk tx ul)) kD) = some (li92, z92) := by rw [← hpD]; exact hc92_e
                                        exact ih69 (kD + 1) z92 fg192 _ _ _ (by omega) (by omega) (okl_s hoD hLn) ((pos_s hLn).symm) (by omega) (m3_s hvD (fun c hc => by rw [hc92_v c hc]; unfold xga; rw [vl_s hLn]) hc92_w) hP hD hS hl
                                      · skip
                                        have hP : va_P (gD G) vC [(qm, .inr (6, [.int (nI th), .int (nI ul), .ref xt, .int (nI z92), .ref xh, .ref xi, .ref xl, .ref xo, .ref xg, .ref xd, .int (zB ld), .ref xs, .int (nI stt), .int (nI sts), .int (nI drw), .ref xn, .ref xb, .ref xv, .int (nI bd), .int (nI rd)])), (xt, aI G 400 tx), (xh, aI G 5 hh145), (xi, aI G 100 fA), (xl, aI G 300 fB), (xo, aI G 100 fC), (xg, aI G 300 fg192)] H := hP
                                        have hD : va_D A [(qm, .inr (6, [.int (nI th), .int (nI ul), .ref xt, .int (nI z92), .ref xh, .ref xi, .ref xl, .ref xo, .ref xg, .ref xd, .int (zB ld), .ref xs, .int (nI stt), .int (nI sts), .int (nI drw), .ref xn, .ref xb, .ref xv, .int (nI bd), .int (nI rd)])), (xt, aI G 400 tx), (xh, aI G 5 hh145), (xi, aI G 100 fA), (xl, aI G 300 fB), (xo, aI G 100 fC), (xg, aI G 300 fg192)] := hD
                                        refine lv_if_ne (tgt := 100) hx hb dM_lines_95 rfl (fun h95 => (by revert h95; first | decide | exact fun z => absurd z (by decide) | exact fun z => z.elim (by decide))) (fun _ => ?_)
                                        refine lv_iconst (v := nI 0) hx hb dM_lines_98 (by decide) ?_
                                        -- end 2
                                        rw [← hQ]
                                        exact k_iret hx hb hr hlocks (by decide) (u := (z92, hh145, fA, fB, fC, fg192)) (Or.inr ⟨_, _, _, _, _, _, fun q => okl_not (k := kD) (by omega) (by rw [← hpD]; exact hc92_e) q.2.2.2.2.1, rfl, rfl⟩) hP hD hK hS dM_lines_99
                                have hl : lv_has ls 4 [(0, .ref qm), (1, .int (nI 4)), (2, .int (nI (hh145 4))), (3, .int (nI 0))] := lv_sub hl [3, 2, 1, 0] rfl
                                exact loop69 (hh145 4 - 0 + 1) 0 pC fg _ _ _ (by omega) (by omega) (fun k h => absurd h (Nat.not_lt_zero k)) (by unfold e3; rw [show hd (lk tx ul) 3 = kC by omega]; exact hpC) (by omega) (fun j h => absurd h (Nat.not_lt_zero j)) hP hD hS hl
                              · have h71 : kC < hh145 3 := Nat.lt_of_not_le (fun z => h71 ((nI_leI (a := hh145 3) (b := kC) (by omega) (by omega)).mpr z))
                                refine lv_aload_n hx hb dM_lines_74 rfl (lv_at hl 0 rfl) ?_
                                refine lv_iload_n hx hb dM_lines_75 rfl (lv_at hl 1 rfl) ?_
                                refine lv_iload_n hx hb dM_lines_76 rfl (lv_at hl 3 rfl) ?_
                                refine lv_iload_n hx hb dM_lines_77 rfl (lv_at hl 1 rfl) ?_
                                refine lv_iconst (v := nI 2) hx hb dM_lines_78 (by decide) ?_
                                refine lv_icmp_eq (tgt := 87) hx hb dM_lines_79 rfl (fun h79 => (by revert h79; first | decide | exact fun z => absurd z (by decide) | exact fun z => z.elim (by decide))) (fun _ => ?_)
                                refine lv_iload_n hx hb dM_lines_82 rfl (lv_at hl 1 rfl) ?_
                                refine lv_iconst (v := nI 4) hx hb dM_lines_83 (by decide) ?_
                                refine lv_icmp_ne (tgt := 91) hx hb dM_lines_84 rfl (fun _ => ?_) (fun h84 => (by revert h84; first | decide | exact fun z => absurd z (by decide) | exact fun z => z.elim (by decide)))
                                refine lv_iconst (v := nI 1) hx hb dM_lines_91 (by decide) ?_
                                refine k_i (ws2 := fun u => [(qm, .inr (6, [.int (nI th), .int (nI ul), .ref xt, .int (nI (u.1)), .ref xh, .ref xi, .ref xl, .ref xo, .ref xg, .ref xd, .int (zB ld), .ref xs, .int (nI stt), .int (nI sts), .int (nI drw), .ref xn, .ref xb, .ref xv, .int (nI bd), .int (nI rd)])), (xt, aI G 400 tx), (xh, aI G 5 hh145), (xi, aI G 100 fA), (xl, aI G 300 fB), (xo, aI G 100 (u.2)), (xg, aI G 300 fg)]) (wr := [(xh, aI G 5 hh145), (xi, aI G 100 fA), (xl, aI G 300 fB), (xg, aI G 300 fg)]) (k_runV (n := 3) (As := [.int (nI 3), .int (nI kC), .int (nI 1)]) (rest := []) hx hb hml hown htb hP hD hK hS hA hE (k_M_line_r3 l G H.size qm xt xh xi xl xo xg xd xs xn xb xv th ul pC ld stt sts drw bd rd tx fC kC (show ul ≤ 400 from by omega) (show pC ≤ ul from by omega) (show ∀ j, tx j < 128 from by omega) (show kC < 100 from by omega)) b768 b770 s33 b7 b771 (by decide +kernel) rfl rfl ⟨by rw [hRf]; exact Nat.le_of_ble_eq_true rfl, by rw [hRl]; exact Nat.le_of_ble_eq_true rfl⟩ [0, 1, 5] rfl (by decide) 0 rfl rfl rfl rfl hl.1 rfl (Nat.le_of_ble_eq_true rfl) dM_lines_92 ⟨Nat.zero_le _, Nat.zero_le _⟩) hP hD hS hA [0, 1, 5] [2, 3, 4, 6] [4, 5, 0, 1, 2, 6, 3] rfl rfl (by decide) (by decide) (fun u => rfl) (by decide) (fun r u H locs hw hP hD hS => ?_)
                                rcases hw with ⟨li92, z92, hc92_e, hc92_b, rfl, rfl⟩ | ⟨z92, fo192, hc92_e, hc92_b, rfl, rfl⟩
                                · skip
                                  have hP : va_P (gD G) vC [(qm, .inr (6, [.int (nI th), .int (nI ul), .ref xt, .int (nI z92), .ref xh, .ref xi, .ref xl, .ref xo, .ref xg, .ref xd, .int (zB ld), .ref xs, .int (nI stt), .int (nI sts), .int (nI drw), .ref xn, .ref xb, .ref xv, .int (nI bd), .int (nI rd)])), (xt, aI G 400 tx), (xh, aI G 5 hh145), (xi, aI G 100 fA), (xl, aI G 300 fB), (xo, aI G 100 (va_up fC kC (li92.getD 0 0))), (xg, aI G 300 fg)] H := hP
                                  have hD : va_D A [(qm, .inr (6, [.int (nI th), .int (nI ul), .ref xt, .int (nI z92), .ref xh, .ref xi, .ref xl, .ref xo, .ref xg, .ref xd, .int (zB ld), .ref xs, .int (nI stt), .int (nI sts), .int (nI drw), .ref xn, .ref xb, .ref xv, .int (nI bd), .int (nI rd)])), (xt, aI G 400 tx), (xh, aI G 5 hh145), (xi, aI G 100 fA), (xl, aI G 300 fB), (xo, aI G 100 (va_up fC kC (li92.getD 0 0))), (xg, aI G 300 fg)] := hD
                                  refine lv_if_ne (tgt := 100) hx hb dM_lines_95 rfl (fun _ => ?_) (fun h95 => (by revert h95; first | decide | exact fun z => absurd z (by decide) | exact fun z => z.elim (by decide)))
                                  refine lv_iinc (v := nI (kC + 1)) (lv' := [(3, .int (nI (kC + 1))), (0, .ref qm), (1, .int (nI 3)), (2, .int (nI (hh145 3)))]) hx hb dM_lines_100 hl (k := 3) rfl (nI_add _ 1) (by decide) rfl (fun ls hl => ?_)
                                  refine lv_goto (tgt := 69) hx hb dM_lines_103 rfl ?_
                                  have hl : lv_has ls 4 [(0, .ref qm), (1, .int (nI 3)), (2, .int (nI (hh145 3))), (3, .int (nI (kC + 1)))] := lv_sub hl [1, 2, 3, 0] rfl
                                  have hLn : exF (lk tx ul) 1 (pos (exF (lk tx ul) 1) (e2 (lk tx ul)) kC) = some (li92, z92) := by rw [← hpC]; exact hc92_e
                                  exact ih69 (kC + 1) z92 (va_up fC kC (li92.getD 0 0)) _ _ _ (by omega) (by omega) (okl_s hoC hLn) ((pos_s hLn).symm) (by omega) (m1_s hvC (by unfold xou; rw [vl_s hLn])) hP hD hS hl
                                · skip
                                  have hP : va_P (gD G) vC [(qm, .inr (6, [.int (nI th), .int (nI ul), .ref xt, .int (nI z92), .ref xh, .ref xi, .ref xl, .ref xo, .ref xg, .ref xd, .int (zB ld), .ref xs, .int (nI stt), .int (nI sts), .int (nI drw), .ref xn, .ref xb, .ref xv, .int (nI bd), .int (nI rd)])), (xt, aI G 400 tx), (xh, aI G 5 hh145), (xi, aI G 100 fA), (xl, aI G 300 fB), (xo, aI G 100 fo192), (xg, aI G 300 fg)] H := hP
                                  have hD : va_D A [(qm, .inr (6, [.int (nI th), .int (nI ul), .ref xt, .int (nI z92), .ref xh, .ref xi, .ref xl, .ref xo, .ref xg, .ref xd, .int (zB ld), .ref xs, .int (nI stt), .int (nI sts), .int (nI drw), .ref xn, .ref xb, .ref xv, .int (nI bd), .int (nI rd)])), (xt, aI G 400 tx), (xh, aI G 5 hh145), (xi, aI G 100 fA), (xl, aI G 300 fB), (xo, aI G 100 fo192), (xg, aI G 300 fg)] := hD
                                  refine lv_if_ne (tgt := 100) hx hb dM_lines_95 rfl (fun h95 => (by revert h95; first | decide | exact fun z => absurd z (by decide) | exact fun z => z.elim (by decide))) (fun _ => ?_)
                                  refine lv_iconst (v := nI 0) hx hb dM_lines_98 (by decide) ?_
                                  -- end 3
                                  rw [← hQ]
                                  exact k_iret hx hb hr hlocks (by decide) (u := (z92, hh145, fA, fB, fo192, fg)) (Or.inr ⟨_, _, _, _, _, _, fun q => okl_not (k := kC) (by omega) (by rw [← hpC]; exact hc92_e) q.2.2.2.1, rfl, rfl⟩) hP hD hK hS dM_lines_99
                          have hl : lv_has ls 4 [(0, .ref qm), (1, .int (nI 3)), (2, .int (nI (hh145 3))), (3, .int (nI 0))] := lv_sub hl [3, 2, 1, 0] rfl
                          exact loop69 (hh145 3 - 0 + 1) 0 pB fo _ _ _ (by omega) (by omega) (fun k h => absurd h (Nat.not_lt_zero k)) (by unfold e2; rw [show hd (lk tx ul) 2 = kB by omega]; exact hpB) (by omega) (fun j h => absurd h (Nat.not_lt_zero j)) hP hD hS hl
                        · have h71 : kB < hh145 2 := Nat.lt_of_not_le (fun z => h71 ((nI_leI (a := hh145 2) (b := kB) (by omega) (by omega)).mpr z))
                          refine lv_aload_n hx hb dM_lines_74 rfl (lv_at hl 0 rfl) ?_
                          refine lv_iload_n hx hb dM_lines_75 rfl (lv_at hl 1 rfl) ?_
                          refine lv_iload_n hx hb dM_lines_76 rfl (lv_at hl 3 rfl) ?_
                          refine lv_iload_n hx hb dM_lines_77 rfl (lv_at hl 1 rfl) ?_
                          refine lv_iconst (v := nI 2) hx hb dM_lines_78 (by decide) ?_
                          refine lv_icmp_eq (tgt := 87) hx hb dM_lines_79 rfl (fun _ => ?_) (fun h79 => (by revert h79; first | decide | exact fun z => absurd z (by decide) | exact fun z => z.elim (by decide)))
                          refine lv_iconst (v := nI 3) hx hb dM_lines_87 (by decide) ?_
                          refine lv_goto (tgt := 92) hx hb dM_lines_88 rfl ?_
                          refine k_i (ws2 := fun u => [(qm, .inr (6, [.int (nI th), .int (nI ul), .ref xt, .int (nI (u.1)), .ref xh, .ref xi, .ref xl, .ref xo, .ref xg, .ref xd, .int (zB ld), .ref xs, .int (nI stt), .int (nI sts), .int (nI drw), .ref xn, .ref xb, .ref xv, .int (nI bd), .int (nI rd)])), (xt, aI G 400 tx), (xh, aI G 5 hh145), (xi, aI G 100 fA), (xl, aI G 300 (u.2)), (xo, aI G 100 fo), (xg, aI G 300 fg)]) (wr := [(xh, aI G 5 hh145), (xi, aI G 100 fA), (xo, aI G 100 fo), (xg, aI G 300 fg)]) (k_runV (n := 3) (As := [.int (nI 2), .int (nI kB), .int (nI 3)]) (rest := []) hx hb hml hown htb hP hD hK hS hA hE (k_M_line_r2 l G H.size qm xt xh xi xl xo xg xd xs xn xb xv th ul pB ld stt sts drw bd rd tx fB kB (show ul ≤ 400 from by omega) (show pB ≤ ul from by omega) (show ∀ j, tx j < 128 from by omega) (show kB < 100 from by omega)) b768 b770 s33 b7 b771 (by decide +kernel) rfl rfl ⟨by rw [hRf]; exact Nat.le_of_ble_eq_true rfl, by rw [hRl]; exact Nat.le_of_ble_eq_true rfl⟩ [0, 1, 4] rfl (by decide) 0 rfl rfl rfl rfl hl.1 rfl (Nat.le_of_ble_eq_true rfl) dM_lines_92 ⟨Nat.zero_le _, Nat.zero_le _⟩) hP hD hS hA [0, 1, 4] [2, 3, 5, 6] [4, 5, 0, 1, 6, 2, 3] rfl rfl (by decide) (by decide) (fun u => rfl) (by decide) (fun r u H locs hw hP hD hS => ?_)
                          rcases hw with ⟨li92, z92, fl192, hc92_e, hc92_v, hc92_w, hc92_b, rfl, rfl⟩ | ⟨z92, fl192, hc92_e, hc92_b, rfl, rfl⟩
                          · skip
                            have hP : va_P (gD G) vC [(qm, .inr (6, [.int (nI th), .int (nI ul), .ref xt, .int (nI z92), .ref xh, .ref xi, .ref xl, .ref xo, .ref xg, .ref xd, .int (zB ld), .ref xs, .int (nI stt), .int (nI sts), .int (nI drw), .ref xn, .ref xb, .ref xv, .int (nI bd), .int (nI rd)])), (xt, aI G 400 tx), (xh, aI G 5 hh145), (xi, aI G 100 fA), (xl, aI G 300 fl192), (xo, aI G 100 fo), (xg, aI G 300 fg)] H := hP
                            have hD : va_D A [(qm, .inr (6, [.int (nI th), .int (nI ul), .ref xt, .int (nI z92), .ref xh, .ref xi, .ref xl, .ref xo, .ref xg, .ref xd, .int (zB ld), .ref xs, .int (nI stt), .int (nI sts), .int (nI drw), .ref xn, .ref xb, .ref xv, .int (nI bd), .int (nI rd)])), (xt, aI G 400 tx), (xh, aI G 5 hh145), (xi, aI G 100 fA), (xl, aI G 300 fl192), (xo, aI G 100 fo), (xg, aI G 300 fg)] := hD
                            refine lv_if_ne (tgt := 100) hx hb dM_lines_95 rfl (fun _ => ?_) (fun h95 => (by revert h95; first | decide | exact fun z => absurd z (by decide) | exact fun z => z.elim (by decide)))
                            refine lv_iinc (v := nI (kB + 1)) (lv' := [(3, .int (nI (kB + 1))), (0, .ref qm), (1, .int (nI 2)), (2, .int (nI (hh145 2)))]) hx hb dM_lines_100 hl (k := 3) rfl (nI_add _ 1) (by decide) rfl (fun ls hl => ?_)
                            refine lv_goto (tgt := 69) hx hb dM_lines_103 rfl ?_
                            have hl : lv_has ls 4 [(0, .ref qm), (1, .int (nI 2)), (2, .int (nI (hh145 2))), (3, .int (nI (kB + 1)))] := lv_sub hl [1, 2, 3, 0] rfl
                            have hLn : laF (lk tx ul) (pos (laF (lk tx ul)) (e1 (lk tx ul)) kB) = some (li92, z92) := by rw [← hpB]; exact hc92_e
                            exact ih69 (kB + 1) z92 fl192 _ _ _ (by omega) (by omega) (okl_s hoB hLn) ((pos_s hLn).symm) (by omega) (m3_s hvB (fun c hc => by rw [hc92_v c hc]; unfold xla; rw [vl_s hLn]) hc92_w) hP hD hS hl
                          · skip
                            have hP : va_P (gD G) vC [(qm, .inr (6, [.int (nI th), .int (nI ul), .ref xt, .int (nI z92), .ref xh, .ref xi, .ref xl, .ref xo, .ref xg, .ref xd, .int (zB ld), .ref xs, .int (nI stt), .int (nI sts), .int (nI drw), .ref xn, .ref xb, .ref xv, .int (nI bd), .int (nI rd)])), (xt, aI G 400 tx), (xh, aI G 5 hh145), (xi, aI G 100 fA), (xl, aI G 300 fl192), (xo, aI G 100 fo), (xg, aI G 300 fg)] H := hP
                            have hD : va_D A [(qm, .inr (6, [.int (nI th), .int (nI ul), .ref xt, .int (nI z92), .ref xh, .ref xi, .ref xl, .ref xo, .ref xg, .ref xd, .int (zB ld), .ref xs, .int (nI stt), .int (nI sts), .int (nI drw), .ref xn, .ref xb, .ref xv, .int (nI bd), .int (nI rd)])), (xt, aI G 400 tx), (xh, aI G 5 hh145), (xi, aI G 100 fA), (xl, aI G 300 fl192), (xo, aI G 100 fo), (xg, aI G 300 fg)] := hD
                            refine lv_if_ne (tgt := 100) hx hb dM_lines_95 rfl (fun h95 => (by revert h95; first | decide | exact fun z => absurd z (by decide) | exact fun z => z.elim (by decide))) (fun _ => ?_)
                            refine lv_iconst (v := nI 0) hx hb dM_lines_98 (by decide) ?_
                            -- end 4
                            rw [← hQ]
                            exact k_iret hx hb hr hlocks (by decide) (u := (z92, hh145, fA, fl192, fo, fg)) (Or.inr ⟨_, _, _, _, _, _, fun q => okl_not (k := kB) (by omega) (by rw [← hpB]; exact hc92_e) q.2.2.1, rfl, rfl⟩) hP hD hK hS dM_lines_99
                    have hl : lv_has ls 4 [(0, .ref qm), (1, .int (nI 2)), (2, .int (nI (hh145 2))), (3, .int (nI 0))] := lv_sub hl [3, 2, 1, 0] rfl
                    exact loop69 (hh145 2 - 0 + 1) 0 pA fl _ _ _ (by omega) (by omega) (fun k h => absurd h (Nat.not_lt_zero k)) (by unfold e1; rw [show hd (lk tx ul) 1 = kA by omega]; exact hpA) (by omega) (fun j h => absurd h (Nat.not_lt_zero j)) hP hD hS hl
                  · have h71 : kA < hh145 1 := Nat.lt_of_not_le (fun z => h71 ((nI_leI (a := hh145 1) (b := kA) (by omega) (by omega)).mpr z))
                    refine lv_aload_n hx hb dM_lines_74 rfl (lv_at hl 0 rfl) ?_
                    refine lv_iload_n hx hb dM_lines_75 rfl (lv_at hl 1 rfl) ?_
                    refine lv_iload_n hx hb dM_lines_76 rfl (lv_at hl 3 rfl) ?_
                    refine lv_iload_n hx hb dM_lines_77 rfl (lv_at hl 1 rfl) ?_
                    refine lv_iconst (v := nI 2) hx hb dM_lines_78 (by decide) ?_
                    refine lv_icmp_eq (tgt := 87) hx hb dM_lines_79 rfl (fun h79 => (by revert h79; first | decide | exact fun z => absurd z (by decide) | exact fun z => z.elim (by decide))) (fun _ => ?_)
                    refine lv_iload_n hx hb dM_lines_82 rfl (lv_at hl 1 rfl) ?_
                    refine lv_iconst (v := nI 4) hx hb dM_lines_83 (by decide) ?_
                    refine lv_icmp_ne (tgt := 91) hx hb dM_lines_84 rfl (fun _ => ?_) (fun h84 => (by revert h84; first | decide | exact fun z => absurd z (by decide) | exact fun z => z.elim (by decide)))
                    refine lv_iconst (v := nI 1) hx hb dM_lines_91 (by decide) ?_
                    refine k_i (ws2 := fun u => [(qm, .inr (6, [.int (nI th), .int (nI ul), .ref xt, .int (nI (u.1)), .ref xh, .ref xi, .ref xl, .ref xo, .ref xg, .ref xd, .int (zB ld), .ref xs, .int (nI stt), .int (nI sts), .int (nI drw), .ref xn, .ref xb, .ref xv, .int (nI bd), .int (nI rd)])), (xt, aI G 400 tx), (xh, aI G 5 hh145), (xi, aI G 100 (u.2)), (xl, aI G 300 fl), (xo, aI G 100 fo), (xg, aI G 300 fg)]) (wr := [(xh, aI G 5 hh145), (xl, aI G 300 fl), (xo, aI G 100 fo), (xg, aI G 300 fg)]) (k_runV (n := 3) (As := [.int (nI 1), .int (nI kA), .int (nI 1)]) (rest := []) hx hb hml hown htb hP hD hK hS hA hE (k_M_line_r1 l G H.size qm xt xh xi xl xo xg xd xs xn xb xv th ul pA ld stt sts drw bd rd tx fA kA (show ul ≤ 400 from by omega) (show pA ≤ ul from by omega) (show ∀ j, tx j < 128 from by omega) (show kA < 100 from by omega)) b768 b770 s33 b7 b771 (by decide +kernel) rfl rfl ⟨by rw [hRf]; exact Nat.le_of_ble_eq_true rfl, by rw [hRl]; exact Nat.le_of_ble_eq_true rfl⟩ [0, 1, 3] rfl (by decide) 0 rfl rfl rfl rfl hl.1 rfl (Nat.le_of_ble_eq_true rfl) dM_lines_92 ⟨Nat.zero_le _, Nat.zero_le _⟩) hP hD hS hA [0, 1, 3] [2, 4, 5, 6] [4, 5, 0, 6, 1, 2, 3] rfl rfl (by decide) (by decide) (fun u => rfl) (by decide) (fun r u H locs hw hP hD hS => ?_)
                    rcases hw with ⟨li92, z92, hc92_e, hc92_b, rfl, rfl⟩ | ⟨z92, fi192, hc92_e, hc92_b, rfl, rfl⟩
                    · skip
                      have hP : va_P (gD G) vC [(qm, .inr (6, [.int (nI th), .int (nI ul), .ref xt, .int (nI z92), .ref xh, .ref xi, .ref xl, .ref xo, .ref xg, .ref xd, .int (zB ld), .ref xs, .int (nI stt), .int (nI sts), .int (nI drw), .ref xn, .ref xb, .ref xv, .int (nI bd), .int (nI rd)])), (xt, aI G 400 tx), (xh, aI G 5 hh145), (xi, aI G 100 (va_up fA kA (li92.getD 0 0))), (xl, aI G 300 fl), (xo, aI G 100 fo), (xg, aI G 300 fg)] H := hP
                      have hD : va_D A [(qm, .inr (6, [.int (nI th), .int (nI ul), .ref xt, .int (nI z92), .ref xh, .ref xi, .ref xl, .ref xo, .ref xg, .ref xd, .int (zB ld), .ref xs, .int (nI stt), .int (nI sts), .int (nI drw), .ref xn, .ref xb, .ref xv, .int (nI bd), .int (nI rd)])), (xt, aI G 400 tx), (xh, aI G 5 hh145), (xi, aI G 100 (va_up fA kA (li92.getD 0 0))), (xl, aI G 300 fl), (xo, aI G 100 fo), (xg, aI G 300 fg)] := hD
                      refine lv_if_ne (tgt := 100) hx hb dM_lines_95 rfl (fun _ => ?_) (fun h95 => (by revert h95; first | decide | exact fun z => absurd z (by decide) | exact fun z => z.elim (by decide)))
                      refine lv_iinc (v := nI (kA + 1)) (lv' := [(3, .int (nI (kA + 1))), (0, .ref qm), (1, .int (nI 1)), (2, .int (nI (hh145 1)))]) hx hb dM_lines_100 hl (k := 3) rfl (nI_add _ 1) (by decide) rfl (fun ls hl => ?_)
                      refine lv_goto (tgt := 69) hx hb dM_lines_103 rfl ?_
                      have hl : lv_has ls 4 [(0, .ref qm), (1, .int (nI 1)), (2, .int (nI (hh145 1))), (3, .int (nI (kA + 1)))] := lv_sub hl [1, 2, 3, 0] rfl
                      have hLn : exF (lk tx ul) 1 (pos (exF (lk tx ul) 1) (e0 (lk tx ul)) kA) = some (li92, z92) := by rw [← hpA]; exact hc92_e
                      exact ih69 (kA + 1) z92 (va_up fA kA (li92.getD 0 0)) _ _ _ (by omega) (by omega) (okl_s hoA hLn) ((pos_s hLn).symm) (by omega) (m1_s hvA (by unfold xin; rw [vl_s hLn])) hP hD hS hl
                    · skip
                      have hP : va_P (gD G) vC [(qm, .inr (6, [.int (nI th), .int (nI ul), .ref xt, .int (nI z92), .ref xh, .ref xi, .ref xl, .ref xo, .ref xg, .ref xd, .int (zB ld), .ref xs, .int (nI stt), .int (nI sts), .int (nI drw), .ref xn, .ref xb, .ref xv, .int (nI bd), .int (nI rd)])), (xt, aI G 400 tx), (xh, aI G 5 hh145), (xi, aI G 100 fi192), (xl, aI G 300 fl), (xo, aI G 100 fo), (xg, aI G 300 fg)] H := hP
                      have hD : va_D A [(qm, .inr (6, [.int (nI th), .int (nI ul), .ref xt, .int (nI z92), .ref xh, .ref xi, .ref xl, .ref xo, .ref xg, .ref xd, .int (zB ld), .ref xs, .int (nI stt), .int (nI sts), .int (nI drw), .ref xn, .ref xb, .ref xv, .int (nI bd), .int (nI rd)])), (xt, aI G 400 tx), (xh, aI G 5 hh145), (xi, aI G 100 fi192), (xl, aI G 300 fl), (xo, aI G 100 fo), (xg, aI G 300 fg)] := hD
                      refine lv_if_ne (tgt := 100) hx hb dM_lines_95 rfl (fun h95 => (by revert h95; first | decide | exact fun z => absurd z (by decide) | exact fun z => z.elim (by decide))) (fun _ => ?_)
                      refine lv_iconst (v := nI 0) hx hb dM_lines_98 (by decide) ?_
                      -- end 5
                      rw [← hQ]
                      exact k_iret hx hb hr hlocks (by decide) (u := (z92, hh145, fi192, fl, fo, fg)) (Or.inr ⟨_, _, _, _, _, _, fun q => okl_not (k := kA) (by omega) (by rw [← hpA]; exact hc92_e) q.2.1, rfl, rfl⟩) hP hD hK hS dM_lines_99
              have hl : lv_has ls 4 [(0, .ref qm), (1, .int (nI 1)), (2, .int (nI (hh145 1))), (3, .int (nI 0))] := lv_sub hl [3, 2, 1, 0] rfl
              exact loop69 (hh145 1 - 0 + 1) 0 z45 fi _ _ _ (by omega) (by omega) (fun k h => absurd h (Nat.not_lt_zero k)) ((e0_s hH).symm) (by omega) (fun j h => absurd h (Nat.not_lt_zero j)) hP hD hS hl
            · skip
              have hP : va_P (gD G) vC [(qm, .inr (6, [.int (nI th), .int (nI ul), .ref xt, .int (nI z45), .ref xh, .ref xi, .ref xl, .ref xo, .ref xg, .ref xd, .int (zB ld), .ref xs, .int (nI stt), .int (nI sts), .int (nI drw), .ref xn, .ref xb, .ref xv, .int (nI bd), .int (nI rd)])), (xt, aI G 400 tx), (xh, aI G 5 hh145), (xi, aI G 100 fi), (xl, aI G 300 fl), (xo, aI G 100 fo), (xg, aI G 300 fg)] H := hP
              have hD : va_D A [(qm, .inr (6, [.int (nI th), .int (nI ul), .ref xt, .int (nI z45), .ref xh, .ref xi, .ref xl, .ref xo, .ref xg, .ref xd, .int (zB ld), .ref xs, .int (nI stt), .int (nI sts), .int (nI drw), .ref xn, .ref xb, .ref xv, .int (nI bd), .int (nI rd)])), (xt, aI G 400 tx), (xh, aI G 5 hh145), (xi, aI G 100 fi), (xl, aI G 300 fl), (xo, aI G 100 fo), (xg, aI G 300 fg)] := hD
              refine lv_if_ne (tgt := 53) hx hb dM_lines_48 rfl (fun h48 => (by revert h48; first | decide | exact fun z => absurd z (by decide) | exact fun z => z.elim (by decide))) (fun _ => ?_)
              refine lv_iconst (v := nI 0) hx hb dM_lines_51 (by decide) ?_
              -- end 6
              rw [← hQ]
              exact k_iret hx hb hr hlocks (by decide) (u := (z45, hh145, fi, fl, fo, fg)) (Or.inr ⟨_, _, _, _, _, _, no_hd (by unfold hdO; rw [if_pos ⟨hc8_e, hc17_e, hc26_e, hc35_e⟩]; exact hc45_e), rfl, rfl⟩) hP hD hK hS dM_lines_52
          · skip
            have hP : va_P (gD G) vC [(qm, .inr (6, [.int (nI th), .int (nI ul), .ref xt, .int (nI (((0 + 1) + 1) + 1)), .ref xh, .ref xi, .ref xl, .ref xo, .ref xg, .ref xd, .int (zB ld), .ref xs, .int (nI stt), .int (nI sts), .int (nI drw), .ref xn, .ref xb, .ref xv, .int (nI bd), .int (nI rd)])), (xt, aI G 400 tx), (xh, aI G 5 hh), (xi, aI G 100 fi), (xl, aI G 300 fl), (xo, aI G 100 fo), (xg, aI G 300 fg)] H := hP
            have hD : va_D A [(qm, .inr (6, [.int (nI th), .int (nI ul), .ref xt, .int (nI (((0 + 1) + 1) + 1)), .ref xh, .ref xi, .ref xl, .ref xo, .ref xg, .ref xd, .int (zB ld), .ref xs, .int (nI stt), .int (nI sts), .int (nI drw), .ref xn, .ref xb, .ref xv, .int (nI bd), .int (nI rd)])), (xt, aI G 400 tx), (xh, aI G 5 hh), (xi, aI G 100 fi), (xl, aI G 300 fl), (xo, aI G 100 fo), (xg, aI G 300 fg)] := hD
            refine lv_if_eq (tgt := 51) hx hb dM_lines_38 rfl (fun _ => ?_) (fun h38 => (by revert h38; first | decide | exact fun z => absurd z (by decide) | exact fun z => z.elim (by decide)))
            refine lv_iconst (v := nI 0) hx hb dM_lines_51 (by decide) ?_
            -- end 7
            rw [← hQ]
            exact k_iret hx hb hr hlocks (by decide) (u := ((((0 + 1) + 1) + 1), hh, fi, fl, fo, fg)) (Or.inr ⟨_, _, _, _, _, _, no_hd (hdO_no (fun q => hc35_e q.2.2.2)), rfl, rfl⟩) hP hD hK hS dM_lines_52
        · skip
          have hP : va_P (gD G) vC [(qm, .inr (6, [.int (nI th), .int (nI ul), .ref xt, .int (nI ((0 + 1) + 1)), .ref xh, .ref xi, .ref xl, .ref xo, .ref xg, .ref xd, .int (zB ld), .ref xs, .int (nI stt), .int (nI sts), .int (nI drw), .ref xn, .ref xb, .ref xv, .int (nI bd), .int (nI rd)])), (xt, aI G 400 tx), (xh, aI G 5 hh), (xi, aI G 100 fi), (xl, aI G 300 fl), (xo, aI G 100 fo), (xg, aI G 300 fg)] H := hP
          have hD : va_D A [(qm, .inr (6, [.int (nI th), .int (nI ul), .ref xt, .int (nI ((0 + 1) + 1)), .ref xh, .ref xi, .ref xl, .ref xo, .ref xg, .ref xd, .int (zB ld), .ref xs, .int (nI stt), .int (nI sts), .int (nI drw), .ref xn, .ref xb, .ref xv, .int (nI bd), .int (nI rd)])), (xt, aI G 400 tx), (xh, aI G 5 hh), (xi, aI G 100 fi), (xl, aI G 300 fl), (xo, aI G 100 fo), (xg, aI G 300 fg)] := hD
          refine lv_if_eq (tgt := 51) hx hb dM_lines_29 rfl (fun _ => ?_) (fun h29 => (by revert h29; first | decide | exact fun z => absurd z (by decide) | exact fun z => z.elim (by decide)))
          refine lv_iconst (v := nI 0) hx hb dM_lines_51 (by decide) ?_
          -- end 8
          rw [← hQ]
          exact k_iret hx hb hr hlocks (by decide) (u := (((0 + 1) + 1), hh, fi, fl, fo, fg)) (Or.inr ⟨_, _, _, _, _, _, no_hd (hdO_no (fun q => hc26_e q.2.2.1)), rfl, rfl⟩) hP hD hK hS dM_lines_52
      · skip
        have hP : va_P (gD G) vC [(qm, .inr (6, [.int (nI th), .int (nI ul), .ref xt, .int (nI (0 + 1)), .ref xh, .ref xi, .ref xl, .ref xo, .ref xg, .ref xd, .int (zB ld), .ref xs, .int (nI stt), .int (nI sts), .int (nI drw), .ref xn, .ref xb, .ref xv, .int (nI bd), .int (nI rd)])), (xt, aI G 400 tx), (xh, aI G 5 hh), (xi, aI G 100 fi), (xl, aI G 300 fl), (xo, aI G 100 fo), (xg, aI G 300 fg)] H := hP
        have hD : va_D A [(qm, .inr (6, [.int (nI th), .int (nI ul), .ref xt, .int (nI (0 + 1)), .ref xh, .ref xi, .ref xl, .ref xo, .ref xg, .ref xd, .int (zB ld), .ref xs, .int (nI stt), .int (nI sts), .int (nI drw), .ref xn, .ref xb, .ref xv, .int (nI bd), .int (nI rd)])), (xt, aI G 400 tx), (xh, aI G 5 hh), (xi, aI G 100 fi), (xl, aI G 300 fl), (xo, aI G 100 fo), (xg, aI G 300 fg)] := hD
        refine lv_if_eq (tgt := 51) hx hb dM_lines_20 rfl (fun _ => ?_) (fun h20 => (by revert h20; first | decide | exact fun z => absurd z (by decide) | exact fun z => z.elim (by decide)))
        refine lv_iconst (v := nI 0) hx hb dM_lines_51 (by decide) ?_
        -- end 9
        rw [← hQ]
        exact k_iret hx hb hr hlocks (by decide) (u := ((0 + 1), hh, fi, fl, fo, fg)) (Or.inr ⟨_, _, _, _, _, _, no_hd (hdO_no (fun q => hc17_e q.2.1)), rfl, rfl⟩) hP hD hK hS dM_lines_52
    · skip
      have hP : va_P (gD G) vC [(qm, .inr (6, [.int (nI th), .int (nI ul), .ref xt, .int (nI 0), .ref xh, .ref xi, .ref xl, .ref xo, .ref xg, .ref xd, .int (zB ld), .ref xs, .int (nI stt), .int (nI sts), .int (nI drw), .ref xn, .ref xb, .ref xv, .int (nI bd), .int (nI rd)])), (xt, aI G 400 tx), (xh, aI G 5 hh), (xi, aI G 100 fi), (xl, aI G 300 fl), (xo, aI G 100 fo), (xg, aI G 300 fg)] H := hP
      have hD : va_D A [(qm, .inr (6, [.int (nI th), .int (nI ul), .ref xt, .int (nI 0), .ref xh, .ref xi, .ref xl, .ref xo, .ref xg, .ref xd, .int (zB ld), .ref xs, .int (nI stt), .int (nI sts), .int (nI drw), .ref xn, .ref xb, .ref xv, .int (nI bd), .int (nI rd)])), (xt, aI G 400 tx), (xh, aI G 5 hh), (xi, aI G 100 fi), (xl, aI G 300 fl), (xo, aI G 100 fo), (xg, aI G 300 fg)] := hD
      refine lv_if_eq (tgt := 51) hx hb dM_lines_11 rfl (fun _ => ?_) (fun h11 => (by revert h11; first | decide | exact fun z => absurd z (by decide) | exact fun z => z.elim (by decide)))
      refine lv_iconst (v := nI 0) hx hb dM_lines_51 (by decide) ?_
      -- end 10
      rw [← hQ]
      exact k_iret hx hb hr hlocks (by decide) (u := (0, hh, fi, fl, fo, fg)) (Or.inr ⟨_, _, _, _, _, _, no_hd (hdO_no (fun q => hc8_e q.1)), rfl, rfl⟩) hP hD hK hS dM_lines_52
  rw [hH, hlc] at hgo
  exact hgo
