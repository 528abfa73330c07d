theorem mn_0 {T : Nat → Nat} {p : Nat} (h : T p < 48 ∨ 57 < T p) : mnum T p = none := by
  unfold mnum; rw [if_neg (by rw [dg_no.mpr h]; decide)]
theorem mn_1 {T : Nat → Nat} {p v : Nat} (h : 48 ≤ T p ∧ T p ≤ 57) (h2 : T (p + 1) < 48 ∨ 57 < T (p + 1)) (hv : v = T p - 48) : mnum T p = some (v, p + 1) := by
  unfold mnum; rw [if_pos (dg_iff.mpr h), if_neg (by rw [dg_no.mpr h2]; decide), hv]
theorem mn_2 {T : Nat → Nat} {p v : Nat} (h : 48 ≤ T p ∧ T p ≤ 57) (h2 : 48 ≤ T (p + 1) ∧ T (p + 1) ≤ 57) (h3 : T (p + 1 + 1) < 48 ∨ 57 < T (p + 1 + 1)) (h4 : ¬ T p = 48) (hv : v = 10 * (T p - 48) + (T (p + 1) - 48)) : mnum T p = some (v, p + 1 + 1) := by
  unfold mnum; rw [if_pos (dg_iff.mpr h), if_pos (dg_iff.mpr h2), if_neg (by rw [show T (p + 2) = T (p + 1 + 1) from rfl, dg_no.mpr h3]; decide), if_neg h4, hv]
theorem mn_2z {T : Nat → Nat} {p : Nat} (h2 : 48 ≤ T (p + 1) ∧ T (p + 1) ≤ 57) (h4 : T p = 48) : mnum T p = none := by
  unfold mnum; rw [if_pos (dg_iff.mpr (by omega)), if_pos (dg_iff.mpr h2)]
  split <;> first | rfl | rw [if_pos h4]
theorem mn_3 {T : Nat → Nat} {p : Nat} (h2 : 48 ≤ T (p + 1) ∧ T (p + 1) ≤ 57) (h3 : 48 ≤ T (p + 1 + 1) ∧ T (p + 1 + 1) ≤ 57) : mnum T p = none := by
  unfold mnum
  split
  · rw [if_pos (dg_iff.mpr h2), if_pos (dg_iff.mpr h3)]
  · rfl
theorem lk_or (tx : Nat → Nat) (us p : Nat) : lk tx us p = 0 ∨ p < us := by
  rcases Nat.eq_zero_or_pos (lk tx us p) with h | h
  · exact Or.inl h
  · exact Or.inr (lk_in h)
theorem mr_0 {T : Nat → Nat} {two : Bool} {m q v r : Nat} (h : mnum T q = some (v, r)) : mR T two (m + 1) 0 q = pre [v] (mR T two m 1 r) := by
  rw [mR, if_neg (fun h => by have := h.2.1; omega), if_pos rfl, h]
theorem mr_0n {T : Nat → Nat} {two : Bool} {m q : Nat} (h : mnum T q = none) : mR T two (m + 1) 0 q = none := by
  rw [mR, if_neg (fun h => by have := h.2.1; omega), if_pos rfl, h]
theorem mr_k {T : Nat → Nat} {two : Bool} {m k q v r : Nat} (hx : T q = 32) (h : mnum T (q + 1) = some (v, r)) : mR T two (m + 1) (k + 1) q = pre [v] (mR T two m (k + 1 + 1) r) := by
  rw [mR, if_neg (fun h => by have := h.2.2; omega), if_neg (by omega), if_pos hx, h]
theorem mr_kn {T : Nat → Nat} {two : Bool} {m k q : Nat} (hx : T q = 32) (h : mnum T (q + 1) = none) : mR T two (m + 1) (k + 1) q = none := by
  rw [mR, if_neg (fun h => by have := h.2.2; omega), if_neg (by omega), if_pos hx, h]
theorem mr_ks {T : Nat → Nat} {two : Bool} {m k q : Nat} (hx : ¬ T q = 32) (h : two = true → k + 1 = 2 → ¬ T q = 10) : mR T two (m + 1) (k + 1) q = none := by
  rw [mR, if_neg (fun h9 => h h9.1 h9.2.1 h9.2.2), if_neg (by omega), if_neg hx]
theorem mr_t {T : Nat → Nat} {m q : Nat} (hx : T q = 10) : mR T true (m + 1) 2 q = pre [0] (mR T true m 3 q) := by
  rw [mR, if_pos ⟨rfl, rfl, hx⟩]
theorem mr_z {T : Nat → Nat} {two : Bool} {k q : Nat} (hx : T q = 10) : mR T two 0 k q = some ([], q + 1) := by rw [mR, if_pos hx]
theorem mr_zn {T : Nat → Nat} {two : Bool} {k q : Nat} (hx : ¬ T q = 10) : mR T two 0 k q = none := by rw [mR, if_neg hx]
theorem up3 {f : Nat → Nat} {k a b c : Nat} : (∀ j, j < 3 → va_up (va_up (va_up f (3 * k + 0) a) (3 * k + 1) b) (3 * k + 2) c (3 * k + j) = [a, b, c].getD j 0) ∧ ∀ i, i < 3 * k → va_up (va_up (va_up f (3 * k + 0) a) (3 * k + 1) b) (3 * k + 2) c i = f i := by
  constructor
  · intro j hj
    rcases (show j = 0 ∨ j = 1 ∨ j = 2 by omega) with rfl | rfl | rfl
    · rw [va_up_ne _ _ (by omega), va_up_ne _ _ (by omega), va_up_self]; rfl
    · rw [va_up_ne _ _ (by omega), va_up_self]; rfl
    · rw [va_up_self]; rfl
  · intro i hi
    rw [va_up_ne _ _ (by omega), va_up_ne _ _ (by omega), va_up_ne _ _ (by omega)]
theorem up5 {f : Nat → Nat} {a b c d e : Nat} : ∀ j, j < 5 → va_up (va_up (va_up (va_up (va_up f 0 a) 1 b) 2 c) 3 d) 4 e j = [a, b, c, d, e].getD j 0 := by
  intro j hj
  rcases (show j = 0 ∨ j = 1 ∨ j = 2 ∨ j = 3 ∨ j = 4 by omega) with rfl | rfl | rfl | rfl | rfl
  · rw [va_up_ne _ _ (by omega), va_up_ne _ _ (by omega), va_up_ne _ _ (by omega), va_up_ne _ _ (by omega), va_up_self]; rfl
  · rw [va_up_ne _ _ (by omega), va_up_ne _ _ (by omega), va_up_ne _ _ (by omega), va_up_self]; rfl
  · rw [va_up_ne _ _ (by omega), va_up_ne _ _ (by omega), va_up_self]; rfl
  · rw [va_up_ne _ _ (by omega), va_up_self]; rfl
  · rw [va_up_self]; rfl
set_option maxRecDepth 100000 in
set_option maxHeartbeats 4000000 in
theorem k_M_look (l : Launch) (G : GG) (sz : Nat) (qm : Nat) (xt : Nat) (xh : Nat) (xi : Nat) (xl : Nat) (xo : Nat) (xg : Nat) (xd : Nat) (xs : Nat) (xn : Nat) (xb : Nat) (xv : Nat) (th : Nat) (ul : Nat) (pt : Nat) (ld : Bool) (stt : Nat) (sts : Nat) (drw : Nat) (bd : Nat) (rd : Nat) (tx : Nat → Nat) (hul : ul ≤ 400) (hpt : pt ≤ ul) (htx : ∀ j, tx j < 128) : Ki l yM_look cM_look 1 .int 0 0 G [.ref qm] [(qm, .inr (6, [.int (nI th), .int (nI ul), .ref xt, .int (nI pt), .ref xh, .ref xi, .ref xl, .ref xo, .ref xg, .ref xd, .int (zB ld), .ref xs, .int (nI stt), .int (nI sts), .int (nI drw), .ref xn, .ref xb, .ref xv, .int (nI bd), .int (nI rd)])), (xt, aI G 400 tx)] sz (fun (r : Int32) (u : Unit) => (nI (lk tx ul pt) = r ∧ () = u)) (fun (u : Unit) => [(qm, .inr (6, [.int (nI th), .int (nI ul), .ref xt, .int (nI pt), .ref xh, .ref xi, .ref xl, .ref xo, .ref xg, .ref xd, .int (zB ld), .ref xs, .int (nI stt), .int (nI sts), .int (nI drw), .ref xn, .ref xb, .ref xv, .int (nI bd), .int (nI rd)])), (xt, aI G 400 tx)]) := by
  refine Met.ofW (cc := cM_look) (maxL := 1) (ret := (some .int)) (by decide) rfl ?_
  intro p e s m args below meth c s₁ B hml hv
  obtain ⟨hav, hsz, hP, hK, hD0, hE⟩ := hv
  have hx := B.exec
  have hb := B.bytes
  have hr := B.returns
  have htb : ∀ w ∈ TB, w.before args s = true := fun w h => atoms_spec (ws := Cond.code yM_look cM_look 1 (some .int) :: TB) B.pre w (List.mem_cons_of_mem _ h)
  have hown : s.vm.findClass "CircuitProverModel" = some m.cls := findClass_of_methodNamed B.named
  have hlocks := B.notSynchronized
  subst hsz
  have hD := hD0.self (sz := s.heap.size)
  clear hD0
  generalize hRm : (headSpec (Cond.code yM_look cM_look 1 (some .int) :: TB) { frames := 0, cells := 0, slots := 0, locals := 0 }).room = R
  have hRf : R.frames = 0 := by rw [← hRm]; rfl
  have hRl : R.locals = 0 := by rw [← hRm]; rfl
  have hRc : R.cells = 0 := by rw [← hRm]; rfl
  have hRs : R.slots = 0 := by rw [← hRm]; rfl
  clear hRm
  generalize hAe : va_A [(qm, .inr (6, [.int (nI th), .int (nI ul), .ref xt, .int (nI pt), .ref xh, .ref xi, .ref xl, .ref xo, .ref xg, .ref xd, .int (zB ld), .ref xs, .int (nI stt), .int (nI sts), .int (nI drw), .ref xn, .ref xb, .ref xv, .int (nI bd), .int (nI rd)])), (xt, aI G 400 tx)] s.heap.size = A at hD hE ⊢
  have hA : ∀ q : Nat, s.heap.size ≤ q → A q := fun q h => by rw [← hAe]; exact Or.inr h
  clear hAe
  have hS : va_S A s.heap s.heap [] := va_S.rf
  have hl := lv_entry ([.ref qm]) (n := 1) (Nat.le_of_ble_eq_true rfl)
  have hent := lg_entry_eq m ([.ref qm]) 1
  rw [← hav] at hent
  rw [hent]
  clear hent hav
  generalize (lg_sl ([.ref qm]) ++ List.replicate (1 - (lg_sl ([.ref qm])).length) Slot.unset).toArray = ls at hl ⊢
  have hl : lv_has ls 1 [(0, .ref qm)] := hl
  generalize hQ : MQ below _ args s 0 0 _ = Q
  have hP : va_P (gD G) vC [(qm, .inr (6, [.int (nI th), .int (nI ul), .ref xt, .int (nI pt), .ref xh, .ref xi, .ref xl, .ref xo, .ref xg, .ref xd, .int (zB ld), .ref xs, .int (nI stt), .int (nI sts), .int (nI drw), .ref xn, .ref xb, .ref xv, .int (nI bd), .int (nI rd)])), (xt, aI G 400 tx)] s.heap := hP
  obtain ⟨H, hH⟩ : ∃ H : Heap, H = s.heap := ⟨_, rfl⟩
  obtain ⟨locs, hlc⟩ : ∃ L : List Loc, L = [] := ⟨_, rfl⟩
  have hS : va_S A s.heap H locs := by rw [hH, hlc]; exact hS
  have hP : va_P (gD G) vC [(qm, .inr (6, [.int (nI th), .int (nI ul), .ref xt, .int (nI pt), .ref xh, .ref xi, .ref xl, .ref xo, .ref xg, .ref xd, .int (zB ld), .ref xs, .int (nI stt), .int (nI sts), .int (nI drw), .ref xn, .ref xb, .ref xv, .int (nI bd), .int (nI rd)])), (xt, aI G 400 tx)] H := by rw [hH]; exact hP
  have hgo : W p l e R s m args below meth c H locs 0 0 Q (F0 m 0 ls []) := by
    clear hH hlc
    refine lv_aload_n hx hb dM_look_0 rfl (lv_at hl 0 rfl) ?_
    refine va_get (D := gD G) (ci := 6) (v := .int (nI pt)) (C := "CircuitProverModel") (T := TM) (N := 20) hx hb htb inM hown hK hP 0 rfl rfl 3 (by decide) (htb _ b674) (fun _ h9 => h9) rfl dM_look_1 ?_
    refine lv_aload_n hx hb dM_look_4 rfl (lv_at hl 0 rfl) ?_
    refine va_get (D := gD G) (ci := 6) (v := .int (nI ul)) (C := "CircuitProverModel") (T := TM) (N := 20) hx hb htb inM hown hK hP 0 rfl rfl 1 (by decide) (htb _ b672) (fun _ h9 => h9) rfl dM_look_5 ?_
    refine lv_icmp_ge (tgt := 23) hx hb dM_look_8 rfl (fun h8 => ?_) (fun h8 => ?_)
    · have h8 : ul ≤ pt := (nI_leI (a := ul) (b := pt) (by omega) (by omega)).mp h8
      refine lv_iconst (v := nI 0) hx hb dM_look_23 (by decide) ?_
      -- end 0
      rw [← hQ]
      exact k_iret hx hb hr hlocks rfl (u := ()) (⟨by unfold lk; rw [if_neg (by omega)], rfl⟩) hP hD hK hS dM_look_24
    · have h8 : pt < ul := Nat.lt_of_not_le (fun z => h8 ((nI_leI (a := ul) (b := pt) (by omega) (by omega)).mpr z))
      refine lv_aload_n hx hb dM_look_11 rfl (lv_at hl 0 rfl) ?_
      refine va_get (D := gD G) (ci := 6) (v := .ref xt) (C := "CircuitProverModel") (T := TM) (N := 20) hx hb htb inM hown hK hP 0 rfl rfl 2 (by decide) (htb _ b673) (fun _ h9 => h9) rfl dM_look_12 ?_
      refine lv_aload_n hx hb dM_look_15 rfl (lv_at hl 0 rfl) ?_
      refine va_get (D := gD G) (ci := 6) (v := .int (nI pt)) (C := "CircuitProverModel") (T := TM) (N := 20) hx hb htb inM hown hK hP 0 rfl rfl 3 (by decide) (htb _ b674) (fun _ h9 => h9) rfl dM_look_16 ?_
      refine k_iald hx hb hK hP 1 rfl (k := pt) (by omega) (by decide) dM_look_19 ?_
      refine lv_goto (tgt := 24) hx hb dM_look_20 rfl ?_
      -- end 1
      rw [← hQ]
      exact k_iret hx hb hr hlocks rfl (u := ()) (⟨by unfold lk; rw [if_pos (by omega)], rfl⟩) hP hD hK hS dM_look_24
  rw [hH, hlc] at hgo
  exact hgo
set_option maxRecDepth 100000 in
set_option maxHeartbeats 4000000 in
theorem k_M_eat (l : Launch) (G : GG) (sz : Nat) (qm : Nat) (xt : Nat) (xh : Nat) (xi : Nat) (xl : Nat) (xo : Nat) (xg : Nat) (xd : Nat) (xs : Nat) (xn : Nat) (xb : Nat) (xv : Nat) (th : Nat) (ul : Nat) (pt : Nat) (ld : Bool) (stt : Nat) (sts : Nat) (drw : Nat) (bd : Nat) (rd : Nat) (tx : Nat → Nat) (ch : Nat) (hul : ul ≤ 400) (hpt : pt ≤ ul) (htx : ∀ j, tx j < 128) (hch : 0 < ch ∧ ch < 128) : Ki l yM_eat cM_eat 2 .boolean 1 20 G [.ref qm, .int (nI ch)] [(qm, .inr (6, [.int (nI th), .int (nI ul), .ref xt, .int (nI pt), .ref xh, .ref xi, .ref xl, .ref xo, .ref xg, .ref xd, .int (zB ld), .ref xs, .int (nI stt), .int (nI sts), .int (nI drw), .ref xn, .ref xb, .ref xv, .int (nI bd), .int (nI rd)])), (xt, aI G 400 tx)] sz (fun (r : Int32) (u : Nat) => (lk tx ul pt = ch ∧ pt < ul ∧ nI 1 = r ∧ pt + 1 = u) ∨ (¬ lk tx ul pt = ch ∧ nI 0 = r ∧ pt = u)) (fun (u : Nat) => [(qm, .inr (6, [.int (nI th), .int (nI ul), .ref xt, .int (nI u), .ref xh, .ref xi, .ref xl, .ref xo, .ref xg, .ref xd, .int (zB ld), .ref xs, .int (nI stt), .int (nI sts), .int (nI drw), .ref xn, .ref xb, .ref xv, .int (nI bd), .int (nI rd)])), (xt, aI G 400 tx)]) := by
  refine Met.ofW (cc := cM_eat) (maxL := 2) (ret := (some .boolean)) (by decide) rfl ?_
  intro p e s m args below meth c s₁ B hml hv
  obtain ⟨hav, hsz, hP, hK, hD0, hE⟩ := hv
  have hx := B.exec
  have hb := B.bytes
  have hr := B.returns
  have htb : ∀ w ∈ TB, w.before args s = true := fun w h => atoms_spec (ws := Cond.code yM_eat cM_eat 2 (some .boolean) :: TB) B.pre w (List.mem_cons_of_mem _ h)
  have hown : s.vm.findClass "CircuitProverModel" = some m.cls := findClass_of_methodNamed B.named
  have hlocks := B.notSynchronized
  subst hsz
  have hD := hD0.self (sz := s.heap.size)
  clear hD0
  generalize hRm : (headSpec (Cond.code yM_eat cM_eat 2 (some .boolean) :: TB) { frames := 1, cells := 0, slots := 0, locals := 20 }).room = R
  have hRf : R.frames = 1 := by rw [← hRm]; rfl
  have hRl : R.locals = 20 := by rw [← hRm]; rfl
  have hRc : R.cells = 0 := by rw [← hRm]; rfl
  have hRs : R.slots = 0 := by rw [← hRm]; rfl
  clear hRm
  generalize hAe : va_A [(qm, .inr (6, [.int (nI th), .int (nI ul), .ref xt, .int (nI pt), .ref xh, .ref xi, .ref xl, .ref xo, .ref xg, .ref xd, .int (zB ld), .ref xs, .int (nI stt), .int (nI sts), .int (nI drw), .ref xn, .ref xb, .ref xv, .int (nI bd), .int (nI rd)])), (xt, aI G 400 tx)] s.heap.size = A at hD hE ⊢
  have hA : ∀ q : Nat, s.heap.size ≤ q → A q := fun q h => by rw [← hAe]; exact Or.inr h
  clear hAe
  have hS : va_S A s.heap s.heap [] := va_S.rf
  have hl := lv_entry ([.ref qm, .int (nI ch)]) (n := 2) (Nat.le_of_ble_eq_true rfl)
  have hent := lg_entry_eq m ([.ref qm, .int (nI ch)]) 2
  rw [← hav] at hent
  rw [hent]
  clear hent hav
  generalize (lg_sl ([.ref qm, .int (nI ch)]) ++ List.replicate (2 - (lg_sl ([.ref qm, .int (nI ch)])).length) Slot.unset).toArray = ls at hl ⊢
  have hl : lv_has ls 2 [(0, .ref qm), (1, .int (nI ch))] := hl
  generalize hQ : MQ below _ args s 0 0 _ = Q
  have hP : va_P (gD G) vC [(qm, .inr (6, [.int (nI th), .int (nI ul), .ref xt, .int (nI pt), .ref xh, .ref xi, .ref xl, .ref xo, .ref xg, .ref xd, .int (zB ld), .ref xs, .int (nI stt), .int (nI sts), .int (nI drw), .ref xn, .ref xb, .ref xv, .int (nI bd), .int (nI rd)])), (xt, aI G 400 tx)] s.heap := hP
  obtain ⟨H, hH⟩ : ∃ H : Heap, H = s.heap := ⟨_, rfl⟩
  obtain ⟨locs, hlc⟩ : ∃ L : List Loc, L = [] := ⟨_, rfl⟩
  have hS : va_S A s.heap H locs := by rw [hH, hlc]; exact hS
  have hP : va_P (gD G) vC [(qm, .inr (6, [.int (nI th), .int (nI ul), .ref xt, .int (nI pt), .ref xh, .ref xi, .ref xl, .ref xo, .ref xg, .ref xd, .int (zB ld), .ref xs, .int (nI stt), .int (nI sts), .int (nI drw), .ref xn, .ref xb, .ref xv, .int (nI bd), .int (nI rd)])), (xt, aI G 400 tx)] H := by rw [hH]; exact hP
  have hgo : W p l e R s m args below meth c H locs 0 0 Q (F0 m 0 ls []) := by
    clear hH hlc
    refine lv_aload_n hx hb dM_eat_0 rfl (lv_at hl 0 rfl) ?_
    refine k_i (ws2 := fun u => [(qm, .inr (6, [.int (nI th), .int (nI ul), .ref xt, .int (nI pt), .ref xh, .ref xi, .ref xl, .ref xo, .ref xg, .ref xd, .int (zB ld), .ref xs, .int (nI stt), .int (nI sts), .int (nI drw), .ref xn, .ref xb, .ref xv, .int (nI bd), .int (nI rd)])), (xt, aI G 400 tx)]) (wr := []) (k_runV (n := 0) (As := []) (rest := []) hx hb hml hown htb hP hD hK hS hA hE (k_M_look l G H.size qm xt xh xi xl xo xg xd xs xn xb xv th ul pt ld stt sts drw bd rd tx (show ul ≤ 400 from by omega) (show pt ≤ ul from by omega) (show ∀ j, tx j < 128 from by omega)) b764 b766 s32 b7 b767 (by decide +kernel) rfl rfl ⟨by rw [hRf]; exact Nat.le_of_ble_eq_true rfl, by rw [hRl]; exact Nat.le_of_ble_eq_true rfl⟩ [0, 1] rfl (by decide) 0 rfl rfl rfl rfl hl.1 rfl (Nat.le_of_ble_eq_true rfl) dM_eat_1 ⟨Nat.zero_le _, Nat.zero_le _⟩) hP hD hS hA [0, 1] [] [0, 1] rfl rfl (by decide) (by decide) (fun u => rfl) (by decide) (fun r u H locs hw hP hD hS => ?_)
    obtain ⟨rfl, rfl⟩ := hw
    have hP : va_P (gD G) vC [(qm, .inr (6, [.int (nI th), .int (nI ul), .ref xt, .int (nI pt), .ref xh, .ref xi, .ref xl, .ref xo, .ref xg, .ref xd, .int (zB ld), .ref xs, .int (nI stt), .int (nI sts), .int (nI drw), .ref xn, .ref xb, .ref xv, .int (nI bd), .int (nI rd)])), (xt, aI G 400 tx)] H := hP
    have hD : va_D A [(qm, .inr (6, [.int (nI th), .int (nI ul), .ref xt, .int (nI pt), .ref xh, .ref xi, .ref xl, .ref xo, .ref xg, .ref xd, .int (zB ld), .ref xs, .int (nI stt), .int (nI sts), .int (nI drw), .ref xn, .ref xb, .ref xv, .int (nI bd), .int (nI rd)])), (xt, aI G 400 tx)] := hD
    have hk0 := lk_lt htx ul pt
    refine lv_iload_n hx hb dM_eat_4 rfl (lv_at hl 1 rfl) ?_
    refine lv_icmp_eq (tgt := 10) hx hb dM_eat_5 rfl (fun h5 => ?_) (fun h5 => ?_)
    · have h5 : lk tx ul pt = ch := (nI_eq (a := lk tx ul pt) (b := ch) (by omega) (by omega)).mp h5
      refine lv_aload_n hx hb dM_eat_10 rfl (lv_at hl 0 rfl) ?_
      refine lv_dup hx hb dM_eat_11 rfl ?_
      refine va_get (D := gD G) (ci := 6) (v := .int (nI pt)) (C := "CircuitProverModel") (T := TM) (N := 20) hx hb htb inM hown hK hP 0 rfl rfl 3 (by decide) (htb _ b674) (fun _ h9 => h9) rfl dM_eat_12 ?_
      refine lv_iconst (v := nI 1) hx hb dM_eat_15 (by decide) ?_
      refine lv_iadd hx hb dM_eat_16 ?_
      refine k_toi (y := nI (pt + 1)) (nI_add _ _) ?_
      refine va_put (D := gD G) (ci := 6) (v := .int (nI (pt + 1))) (ty := tyM 3) (C := "CircuitProverModel") (T := TM) (N := 20) hx hb htb inM tyM tyM_ok nmM hown hK hP hD hS 0 rfl rfl 3 (by decide) (htb _ b674) (fun _ h9 => h9) rfl (tyM_ok 3 (by decide)) rfl rfl (Nat.le_of_ble_eq_true rfl) dM_eat_17 (fun H locs hP hD hS => ?_)
      have hP : va_P (gD G) vC [(qm, .inr (6, [.int (nI th), .int (nI ul), .ref xt, .int (nI (pt + 1)), .ref xh, .ref xi, .ref xl, .ref xo, .ref xg, .ref xd, .int (zB ld), .ref xs, .int (nI stt), .int (nI sts), .int (nI drw), .ref xn, .ref xb, .ref xv, .int (nI bd), .int (nI rd)])), (xt, aI G 400 tx)] H := hP
      have hD : va_D A [(qm, .inr (6, [.int (nI th), .int (nI ul), .ref xt, .int (nI (pt + 1)), .ref xh, .ref xi, .ref xl, .ref xo, .ref xg, .ref xd, .int (zB ld), .ref xs, .int (nI stt), .int (nI sts), .int (nI drw), .ref xn, .ref xb, .ref xv, .int (nI bd), .int (nI rd)])), (xt, aI G 400 tx)] := hD
      refine lv_iconst (v := nI 1) hx hb dM_eat_20 (by decide) ?_
      -- end 0
      rw [← hQ]
      exact k_iret hx hb hr hlocks (by decide) (u := (pt + 1)) (Or.inl ⟨h5, lk_in (tx := tx) (by omega), rfl, rfl⟩) hP hD hK hS dM_eat_21
    · have h5 : ¬ lk tx ul pt = ch := fun z => h5 ((nI_eq (a := lk tx ul pt) (b := ch) (by omega) (by omega)).mpr z)
      refine lv_iconst (v := nI 0) hx hb dM_eat_8 (by decide) ?_
      -- end 1
      rw [← hQ]
      exact k_iret hx hb hr hlocks (by decide) (u := pt) (Or.inr ⟨h5, rfl, rfl⟩) hP hD hK hS dM_eat_9
  rw [hH, hlc] at hgo
  exact hgo
set_option maxRecDepth 100000 in
set_option maxHeartbeats 4000000 in
theorem k_M_number (l : Launch) (G : GG) (sz : Nat) (qm : Nat) (xt : Nat) (xh : Nat) (xi : Nat) (xl : Nat) (xo : Nat) (xg : Nat) (xd : Nat) (xs : Nat) (xn : Nat) (xb : Nat) (xv : Nat) (th : Nat) (ul : Nat) (pt : Nat) (ld : Bool) (stt : Nat) (sts : Nat) (drw : Nat) (bd : Nat) (rd : Nat) (tx : Nat → Nat) (hul : ul ≤ 400) (hpt : pt ≤ ul) (htx : ∀ j, tx j < 128) : Ki l yM_number cM_number 4 .int 1 20 G [.ref qm] [(qm, .inr (6, [.int (nI th), .int (nI ul), .ref xt, .int (nI pt), .ref xh, .ref xi, .ref xl, .ref xo, .ref xg, .ref xd, .int (zB ld), .ref xs, .int (nI stt), .int (nI sts), .int (nI drw), .ref xn, .ref xb, .ref xv, .int (nI bd), .int (nI rd)])), (xt, aI G 400 tx)] sz (fun (r : Int32) (u : Nat) => (∃ (v : Nat), ∃ (z : Nat), mnum (lk tx ul) pt = some (v, z) ∧ (v < 100 ∧ z ≤ ul) ∧ nI v = r ∧ z = u) ∨ (∃ (z : Nat), mnum (lk tx ul) pt = none ∧ z ≤ ul ∧ (-1) = r ∧ z = u)) (fun (u : Nat) => [(qm, .inr (6, [.int (nI th), .int (nI ul), .ref xt, .int (nI u), .ref xh, .ref xi, .ref xl, .ref xo, .ref xg, .ref xd, .int (zB ld), .ref xs, .int (nI stt), .int (nI sts), .int (nI drw), .ref xn, .ref xb, .ref xv, .int (nI bd), .int (nI rd)])), (xt, aI G 400 tx)]) := by
  refine Met.ofW (cc := cM_number) (maxL := 4) (ret := (some .int)) (by decide) rfl ?_
  intro p e s m args below meth c s₁ B hml hv
  obtain ⟨hav, hsz, hP, hK, hD0, hE⟩ := hv
  have hx := B.exec
  have hb := B.bytes
  have hr := B.returns
  have htb : ∀ w ∈ TB, w.before args s = true := fun w h => atoms_spec (ws := Cond.code yM_number cM_number 4 (some .int) :: TB) B.pre w (List.mem_cons_of_mem _ h)
  have hown : s.vm.findClass "CircuitProverModel" = some m.cls := findClass_of_methodNamed B.named
  have hlocks := B.notSynchronized
  subst hsz
  have hD := hD0.self (sz := s.heap.size)
  clear hD0
  generalize hRm : (headSpec (Cond.code yM_number cM_number 4 (some .int) :: TB) { frames := 1, cells := 0, slots := 0, locals := 20 }).room = R
  have hRf : R.frames = 1 := by rw [← hRm]; rfl
  have hRl : R.locals = 20 := by rw [← hRm]; rfl
  have hRc : R.cells = 0 := by rw [← hRm]; rfl
  have hRs : R.slots = 0 := by rw [← hRm]; rfl
  clear hRm
  generalize hAe : va_A [(qm, .inr (6, [.int (nI th), .int (nI ul), .ref xt, .int (nI pt), .ref xh, .ref xi, .ref xl, .ref xo, .ref xg, .ref xd, .int (zB ld), .ref xs, .int (nI stt), .int (nI sts), .int (nI drw), .ref xn, .ref xb, .ref xv, .int (nI bd), .int (nI rd)])), (xt, aI G 400 tx)] s.heap.size = A at hD hE ⊢
  have hA : ∀ q : Nat, s.heap.size ≤ q → A q := fun q h => by rw [← hAe]; exact Or.inr h
  clear hAe
  have hS : va_S A s.heap s.heap [] := va_S.rf
  have hl := lv_entry ([.ref qm]) (n := 4) (Nat.le_of_ble_eq_true rfl)
  have hent := lg_entry_eq m ([.ref qm]) 4
  rw [← hav] at hent
  rw [hent]
  clear hent hav
  generalize (lg_sl ([.ref qm]) ++ List.replicate (4 - (lg_sl ([.ref qm])).length) Slot.unset).toArray = ls at hl ⊢
  have hl : lv_has ls 4 [(0, .ref qm)] := hl
  generalize hQ : MQ below _ args s 0 0 _ = Q
  have hP : va_P (gD G) vC [(qm, .inr (6, [.int (nI th), .int (nI ul), .ref xt, .int (nI pt), .ref xh, .ref xi, .ref xl, .ref xo, .ref xg, .ref xd, .int (zB ld), .ref xs, .int (nI stt), .int (nI sts), .int (nI drw), .ref xn, .ref xb, .ref xv, .int (nI bd), .int (nI rd)])), (xt, aI G 400 tx)] s.heap := hP
  obtain ⟨H, hH⟩ : ∃ H : Heap, H = s.heap := ⟨_, rfl⟩
  obtain ⟨locs, hlc⟩ : ∃ L : List Loc, L = [] := ⟨_, rfl⟩
  have hS : va_S A s.heap H locs := by rw [hH, hlc]; exact hS
  have hP : va_P (gD G) vC [(qm, .inr (6, [.int (nI th), .int (nI ul), .ref xt, .int (nI pt), .ref xh, .ref xi, .ref xl, .ref xo, .ref xg, .ref xd, .int (zB ld), .ref xs, .int (nI stt), .int (nI sts), .int (nI drw), .ref xn, .ref xb, .ref xv, .int (nI bd), .int (nI rd)])), (xt, aI G 400 tx)] H := by rw [hH]; exact hP
  have hgo : W p l e R s m args below meth c H locs 0 0 Q (F0 m 0 ls []) := by
    clear hH hlc
    have hk0 := lk_lt htx ul (pt)
    have ho0 := lk_or tx ul (pt)
    have hk1 := lk_lt htx ul (pt + 1)
    have ho1 := lk_or tx ul (pt + 1)
    have hk2 := lk_lt htx ul (pt + 1 + 1)
    have ho2 := lk_or tx ul (pt + 1 + 1)
    have hk3 := lk_lt htx ul (pt + 1 + 1 + 1)
    have ho3 := lk_or tx ul (pt + 1 + 1 + 1)
    refine lv_aload_n hx hb dM_number_0 rfl (lv_at hl 0 rfl) ?_
    refine k_i (ws2 := fun u => [(qm, .inr (6, [.int (nI th), .int (nI ul), .ref xt, .int (nI pt), .ref xh, .ref xi, .ref xl, .ref xo, .ref xg, .ref xd, .int (zB ld), .ref xs, .int (nI stt), .int (nI sts), .int (nI drw), .ref xn, .ref xb, .ref xv, .int (nI bd), .int (nI rd)])), (xt, aI G 400 tx)]) (wr := []) (k_runV (n := 0) (As := []) (rest := []) hx hb hml hown htb hP hD hK hS hA hE (k_M_look l G H.size qm xt xh xi xl xo xg xd xs xn xb xv th ul pt ld stt sts drw bd rd tx (show ul ≤ 400 from by omega) (show pt ≤ ul from by omega) (show ∀ j, tx j < 128 from by omega)) b764 b766 s32 b7 b767 (by decide +kernel) rfl rfl ⟨by rw [hRf]; exact Nat.le_of_ble_eq_true rfl, by rw [hRl]; exact Nat.le_of_ble_eq_true rfl⟩ [0, 1] rfl (by decide) 0 rfl rfl rfl rfl hl.1 rfl (Nat.le_of_ble_eq_true rfl) dM_number_1 ⟨Nat.zero_le _, Nat.zero_le _⟩) hP hD hS hA [0, 1] [] [0, 1] rfl rfl (by decide) (by decide) (fun u => rfl) (by decide) (fun r u H locs hw hP hD hS => ?_)
    obtain ⟨rfl, rfl⟩ := hw
    have hP : va_P (gD G) vC [(qm, .inr (6, [.int (nI th), .int (nI ul), .ref xt, .int (nI pt), .ref xh, .ref xi, .ref xl, .ref xo, .ref xg, .ref xd, .int (zB ld), .ref xs, .int (nI stt), .int (nI sts), .int (nI drw), .ref xn, .ref xb, .ref xv, .int (nI bd), .int (nI rd)])), (xt, aI G 400 tx)] H := hP
    have hD : va_D A [(qm, .inr (6, [.int (nI th), .int (nI ul), .ref xt, .int (nI pt), .ref xh, .ref xi, .ref xl, .ref xo, .ref xg, .ref xd, .int (zB ld), .ref xs, .int (nI stt), .int (nI sts), .int (nI drw), .ref xn, .ref xb, .ref xv, .int (nI bd), .int (nI rd)])), (xt, aI G 400 tx)] := hD
    refine lv_istore_n (lv' := [(1, .int (nI (lk tx ul pt))), (0, .ref qm)]) hx hb dM_number_4 rfl hl (by decide) rfl (fun ls hl => ?_)
    refine lv_iconst (v := nI 0) hx hb dM_number_5 (by decide) ?_
    refine lv_istore_n (lv' := [(2, .int (nI 0)), (1, .int (nI (lk tx ul pt))), (0, .ref qm)]) hx hb dM_number_6 rfl hl (by decide) rfl (fun ls hl => ?_)
    refine lv_iconst (v := nI 0) hx hb dM_number_7 (by decide) ?_
    refine lv_istore_n (lv' := [(3, .int (nI 0)), (2, .int (nI 0)), (1, .int (nI (lk tx ul pt))), (0, .ref qm)]) hx hb dM_number_8 rfl hl (by decide) rfl (fun ls hl => ?_)
    refine lv_aload_n hx hb dM_number_9 rfl (lv_at hl 3 rfl) ?_
    refine k_i (ws2 := fun u => [(qm, .inr (6, [.int (nI th), .int (nI ul), .ref xt, .int (nI pt), .ref xh, .ref xi, .ref xl, .ref xo, .ref xg, .ref xd, .int (zB ld), .ref xs, .int (nI stt), .int (nI sts), .int (nI drw), .ref xn, .ref xb, .ref xv, .int (nI bd), .int (nI rd)])), (xt, aI G 400 tx)]) (wr := []) (k_runV (n := 0) (As := []) (rest := []) hx hb hml hown htb hP hD hK hS hA hE (k_M_look l G H.size qm xt xh xi xl xo xg xd xs xn xb xv th ul pt ld stt sts drw bd rd tx (show ul ≤ 400 from by omega) (show pt ≤ ul from by omega) (show ∀ j, tx j < 128 from by omega)) b764 b766 s32 b7 b767 (by decide +kernel) rfl rfl ⟨by rw [hRf]; exact Nat.le_of_ble_eq_true rfl, by rw [hRl]; exact Nat.le_of_ble_eq_true rfl⟩ [0, 1] rfl (by decide) 0 rfl rfl rfl rfl hl.1 rfl (Nat.le_of_ble_eq_true rfl) dM_number_10 ⟨Nat.zero_le _, Nat.zero_le _⟩) hP hD hS hA [0, 1] [] [0, 1] rfl rfl (by decide) (by decide) (fun u => rfl) (by decide) (fun r u H locs hw hP hD hS => ?_)
    obtain ⟨rfl, rfl⟩ := hw
    have hP : va_P (gD G) vC [(qm, .inr (6, [.int (nI th), .int (nI ul), .ref xt, .int (nI pt), .ref xh, .ref xi, .ref xl, .ref xo, .ref xg, .ref xd, .int (zB ld), .ref xs, .int (nI stt), .int (nI sts), .int (nI drw), .ref xn, .ref xb, .ref xv, .int (nI bd), .int (nI rd)])), (xt, aI G 400 tx)] H := hP
    have hD : va_D A [(qm, .inr (6, [.int (nI th), .int (nI ul), .ref xt, .int (nI pt), .ref xh, .ref xi, .ref xl, .ref xo, .ref xg, .ref xd, .int (zB ld), .ref xs, .int (nI stt), .int (nI sts), .int (nI drw), .ref xn, .ref xb, .ref xv, .int (nI bd), .int (nI rd)])), (xt, aI G 400 tx)] := hD
    refine lv_bipush (v := nI 48) hx hb dM_number_13 (by decide) ?_
    refine lv_icmp_lt (tgt := 61) hx hb dM_number_15 rfl (fun h15 => ?_) (fun h15 => ?_)
    · have h15 : lk tx ul pt < 48 := (nI_ltI (a := lk tx ul pt) (b := 48) (by omega) (by omega)).mp h15
      refine lv_iload_n hx hb dM_number_61 rfl (lv_at hl 0 rfl) ?_
      refine lv_if_eq (tgt := 81) hx hb dM_number_62 rfl (fun _ => ?_) (fun h62 => (by revert h62; first | decide | exact fun z => absurd z (by decide) | exact fun z => z.elim (by decide)))
      refine lv_iconst (v := (-1)) hx hb dM_number_81 (by decide) ?_
      refine lv_goto (tgt := 86) hx hb dM_number_82 rfl ?_
      -- end 0
      rw [← hQ]
      exact k_iret hx hb hr hlocks rfl (u := pt) (Or.inr ⟨_, mn_0 (by omega), by omega, rfl, rfl⟩) hP hD hK hS dM_number_86
    · have h15 : 48 ≤ lk tx ul pt := Nat.le_of_not_lt (fun z => h15 ((nI_ltI (a := lk tx ul pt) (b := 48) (by omega) (by omega)).mpr z))
      refine lv_aload_n hx hb dM_number_18 rfl (lv_at hl 3 rfl) ?_
      refine k_i (ws2 := fun u => [(qm, .inr (6, [.int (nI th), .int (nI ul), .ref xt, .int (nI pt), .ref xh, .ref xi, .ref xl, .ref xo, .ref xg, .ref xd, .int (zB ld), .ref xs, .int (nI stt), .int (nI sts), .int (nI drw), .ref xn, .ref xb, .ref xv, .int (nI bd), .int (nI rd)])), (xt, aI G 400 tx)]) (wr := []) (k_runV (n := 0) (As := []) (rest := []) hx hb hml hown htb hP hD hK hS hA hE (k_M_look l G H.size qm xt xh xi xl xo xg xd xs xn xb xv th ul pt ld stt sts drw bd rd tx (show ul ≤ 400 from by omega) (show pt ≤ ul from by omega) (show ∀ j, tx j < 128 from by omega)) b764 b766 s32 b7 b767 (by decide +kernel) rfl rfl ⟨by rw [hRf]; exact Nat.le_of_ble_eq_true rfl, by rw [hRl]; exact Nat.le_of_ble_eq_true rfl⟩ [0, 1] rfl (by decide) 0 rfl rfl rfl rfl hl.1 rfl (Nat.le_of_ble_eq_true rfl) dM_number_19 ⟨Nat.zero_le _, Nat.zero_le _⟩) hP hD hS hA [0, 1] [] [0, 1] rfl rfl (by decide) (by decide) (fun u => rfl) (by decide) (fun r u H locs hw hP hD hS => ?_)
      obtain ⟨rfl, rfl⟩ := hw
      have hP : va_P (gD G) vC [(qm, .inr (6, [.int (nI th), .int (nI ul), .ref xt, .int (nI pt), .ref xh, .ref xi, .ref xl, .ref xo, .ref xg, .ref xd, .int (zB ld), .ref xs, .int (nI stt), .int (nI sts), .int (nI drw), .ref xn, .ref xb, .ref xv, .int (nI bd), .int (nI rd)])), (xt, aI G 400 tx)] H := hP
      have hD : va_D A [(qm, .inr (6, [.int (nI th), .int (nI ul), .ref xt, .int (nI pt), .ref xh, .ref xi, .ref xl, .ref xo, .ref xg, .ref xd, .int (zB ld), .ref xs, .int (nI stt), .int (nI sts), .int (nI drw), .ref xn, .ref xb, .ref xv, .int (nI bd), .int (nI rd)])), (xt, aI G 400 tx)] := hD
      refine lv_bipush (v := nI 57) hx hb dM_number_22 (by decide) ?_
      refine lv_icmp_gt (tgt := 61) hx hb dM_number_24 rfl (fun h24 => ?_) (fun h24 => ?_)
      · have h24 : 57 < lk tx ul pt := (nI_ltI (a := 57) (b := lk tx ul pt) (by omega) (by omega)).mp h24
        refine lv_iload_n hx hb dM_number_61 rfl (lv_at hl 0 rfl) ?_
        refine lv_if_eq (tgt := 81) hx hb dM_number_62 rfl (fun _ => ?_) (fun h62 => (by revert h62; first | decide | exact fun z => absurd z (by decide) | exact fun z => z.elim (by decide)))
        refine lv_iconst (v := (-1)) hx hb dM_number_81 (by decide) ?_
        refine lv_goto (tgt := 86) hx hb dM_number_82 rfl ?_
        -- end 1
        rw [← hQ]
        exact k_iret hx hb hr hlocks rfl (u := pt) (Or.inr ⟨_, mn_0 (by omega), by omega, rfl, rfl⟩) hP hD hK hS dM_number_86
      · have h24 : lk tx ul pt ≤ 57 := Nat.le_of_not_lt (fun z => h24 ((nI_ltI (a := 57) (b := lk tx ul pt) (by omega) (by omega)).mpr z))
        refine lv_iload_n hx hb dM_number_27 rfl (lv_at hl 0 rfl) ?_
        refine lv_iconst (v := nI 3) hx hb dM_number_28 (by decide) ?_
        refine lv_icmp_ge (tgt := 61) hx hb dM_number_29 rfl (fun h29 => (by revert h29; first | decide | exact fun z => absurd z (by decide) | exact fun z => z.elim (by decide))) (fun _ => ?_)
        refine lv_bipush (v := nI 10) hx hb dM_number_32 (by decide) ?_
        refine lv_iload_n hx hb dM_number_34 rfl (lv_at hl 1 rfl) ?_
        refine lv_imul hx hb dM_number_35 ?_
        refine k_toi (y := nI 0) (pk_mul _ _) ?_
        refine lv_aload_n hx hb dM_number_36 rfl (lv_at hl 3 rfl) ?_
        refine k_i (ws2 := fun u => [(qm, .inr (6, [.int (nI th), .int (nI ul), .ref xt, .int (nI pt), .ref xh, .ref xi, .ref xl, .ref xo, .ref xg, .ref xd, .int (zB ld), .ref xs, .int (nI stt), .int (nI sts), .int (nI drw), .ref xn, .ref xb, .ref xv, .int (nI bd), .int (nI rd)])), (xt, aI G 400 tx)]) (wr := []) (k_runV (n := 0) (As := []) (rest := [.int (nI 0)]) hx hb hml hown htb hP hD hK hS hA hE (k_M_look l G H.size qm xt xh xi xl xo xg xd xs xn xb xv th ul pt ld stt sts drw bd rd tx (show ul ≤ 400 from by omega) (show pt ≤ ul from by omega) (show ∀ j, tx j < 128 from by omega)) b764 b766 s32 b7 b767 (by decide +kernel) rfl rfl ⟨by rw [hRf]; exact Nat.le_of_ble_eq_true rfl, by rw [hRl]; exact Nat.le_of_ble_eq_true rfl⟩ [0, 1] rfl (by decide) 0 rfl rfl rfl rfl hl.1 rfl (Nat.le_of_ble_eq_true rfl) dM_number_37 ⟨Nat.zero_le _, Nat.zero_le _⟩) hP hD hS hA [0, 1] [] [0, 1] rfl rfl (by decide) (by decide) (fun u => rfl) (by decide) (fun r u H locs hw hP hD hS => ?_)
        obtain ⟨rfl, rfl⟩ := hw
        have hP : va_P (gD G) vC [(qm, .inr (6, [.int (nI th), .int (nI ul), .ref xt, .int (nI pt), .ref xh, .ref xi, .ref xl, .ref xo, .ref xg, .ref xd, .int (zB ld), .ref xs, .int (nI stt), .int (nI sts), .int (nI drw), .ref xn, .ref xb, .ref xv, .int (nI bd), .int (nI rd)])), (xt, aI G 400 tx)] H := hP
        have hD : va_D A [(qm, .inr (6, [.int (nI th), .int (nI ul), .ref xt, .int (nI pt), .ref xh, .ref xi, .ref xl, .ref xo, .ref xg, .ref xd, .int (zB ld), .ref xs, .int (nI stt), .int (nI sts), .int (nI drw), .ref xn, .ref xb, .ref xv, .int (nI bd), .int (nI rd)])), (xt, aI G 400 tx)] := hD
        refine lv_iadd hx hb dM_number_40 ?_
        refine k_toi (y := nI (0 + (lk tx ul pt))) (nI_add _ _) ?_
        refine lv_bipush (v := nI 48) hx hb dM_number_41 (by decide) ?_
        refine lv_isub hx hb dM_number_43 ?_
        refine k_toi (y := nI ((0 + (lk tx ul pt)) - 48)) (pk_sub (by omega)) ?_
        refine lv_istore_n (lv' := [(2, .int (nI ((0 + (lk tx ul pt)) - 48))), (3, .int (nI 0)), (1, .int (nI (lk tx ul pt))), (0, .ref qm)]) hx hb dM_number_44 rfl hl (by decide) rfl (fun ls hl => ?_)
        refine lv_iinc (v := nI 1) (lv' := [(3, .int (nI 1)), (2, .int (nI ((0 + (lk tx ul pt)) - 48))), (1, .int (nI (lk tx ul pt))), (0, .ref qm)]) hx hb dM_number_45 hl (k := 1) rfl (nI_add _ 1) (by decide) rfl (fun ls hl => ?_)
        refine lv_aload_n hx hb dM_number_48 rfl (lv_at hl 3 rfl) ?_
        refine lv_dup hx hb dM_number_49 rfl ?_
        refine va_get (D := gD G) (ci := 6) (v := .int (nI pt)) (C := "CircuitProverModel") (T := TM) (N := 20) hx hb htb inM hown hK hP 0 rfl rfl 3 (by decide) (htb _ b674) (fun _ h9 => h9) rfl dM_number_50 ?_
        refine lv_iconst (v := nI 1) hx hb dM_number_53 (by decide) ?_
        refine lv_iadd hx hb dM_number_54 ?_
        refine k_toi (y := nI (pt + 1)) (nI_add _ _) ?_
        refine va_put (D := gD G) (ci := 6) (v := .int (nI (pt + 1))) (ty := tyM 3) (C := "CircuitProverModel") (T := TM) (N := 20) hx hb htb inM tyM tyM_ok nmM hown hK hP hD hS 0 rfl rfl 3 (by decide) (htb _ b674) (fun _ h9 => h9) rfl (tyM_ok 3 (by decide)) rfl rfl (Nat.le_of_ble_eq_true rfl) dM_number_55 (fun H locs hP hD hS => ?_)
        have hP : va_P (gD G) vC [(qm, .inr (6, [.int (nI th), .int (nI ul), .ref xt, .int (nI (pt + 1)), .ref xh, .ref xi, .ref xl, .ref xo, .ref xg, .ref xd, .int (zB ld), .ref xs, .int (nI stt), .int (nI sts), .int (nI drw), .ref xn, .ref xb, .ref xv, .int (nI bd), .int (nI rd)])), (xt, aI G 400 tx)] H := hP
        have hD : va_D A [(qm, .inr (6, [.int (nI th), .int (nI ul), .ref xt, .int (nI (pt + 1)), .ref xh, .ref xi, .ref xl, .ref xo, .ref xg, .ref xd, .int (zB ld), .ref xs, .int (nI stt), .int (nI sts), .int (nI drw), .ref xn, .ref xb, .ref xv, .int (nI bd), .int (nI rd)])), (xt, aI G 400 tx)] := hD
        refine lv_goto (tgt := 9) hx hb dM_number_58 rfl ?_
        refine lv_aload_n hx hb dM_number_9 rfl (lv_at hl 3 rfl) ?_
        refine k_i (ws2 := fun u => [(qm, .inr (6, [.int (nI th), .int (nI ul), .ref xt, .int (nI (pt + 1)), .ref xh, .ref xi, .ref xl, .ref xo, .ref xg, .ref xd, .int (zB ld), .ref xs, .int (nI stt), .int (nI sts), .int (nI drw), .ref xn, .ref xb, .ref xv, .int (nI bd), .int (nI rd)])), (xt, aI G 400 tx)]) (wr := []) (k_runV (n := 0) (As := []) (rest := []) hx hb hml hown htb hP hD hK hS hA hE (k_M_look l G H.size qm xt xh xi xl xo xg xd xs xn xb xv th ul (pt + 1) ld stt sts drw bd rd tx (show ul ≤ 400 from by omega) (show (pt + 1) ≤ ul from by omega) (show ∀ j, tx j < 128 from by omega)) b764 b766 s32 b7 b767 (by decide +kernel) rfl rfl ⟨by rw [hRf]; exact Nat.le_of_ble_eq_true rfl, by rw [hRl]; exact Nat.le_of_ble_eq_true rfl⟩ [0, 1] rfl (by decide) 0 rfl rfl rfl rfl hl.1 rfl (Nat.le_of_ble_eq_true rfl) dM_number_10 ⟨Nat.zero_le _, Nat.zero_le _⟩) hP hD hS hA [0, 1] [] [0, 1] rfl rfl (by decide) (by decide) (fun u => rfl) (by decide) (fun r u H locs hw hP hD hS => ?_)
        obtain ⟨rfl, rfl⟩ := hw
        have hP : va_P (gD G) vC [(qm, .inr (6, [.int (nI th), .int (nI ul), .ref xt, .int (nI (pt + 1)), .ref xh, .ref xi, .ref xl, .ref xo, .ref xg, .ref xd, .int (zB ld), .ref xs, .int (nI stt), .int (nI sts), .int (nI drw), .ref xn, .ref xb, .ref xv, .int (nI bd), .int (nI rd)])), (xt, aI G 400 tx)] H := hP
        have hD : va_D A [(qm, .inr (6, [.int (nI th), .int (nI ul), .ref xt, .int (nI (pt + 1)), .ref xh, .ref xi, .ref xl, .ref xo, .ref xg, .ref xd, .int (zB ld), .ref xs, .int (nI stt), .int (nI sts), .int (nI drw), .ref xn, .ref xb, .ref xv, .int (nI bd), .int (nI rd)])), (xt, aI G 400 tx)] := hD
        refine lv_bipush (v := nI 48) hx hb dM_number_13 (by decide) ?_
        refine lv_icmp_lt (tgt := 61) hx hb dM_number_15 rfl (fun h15 => ?_) (fun h15 => ?_)
        · have h15 : lk tx ul (pt + 1) < 48 := (nI_ltI (a := lk tx ul (pt + 1)) (b := 48) (by omega) (by omega)).mp h15
          refine lv_iload_n hx hb dM_number_61 rfl (lv_at hl 0 rfl) ?_
          refine lv_if_eq (tgt := 81) hx hb dM_number_62 rfl (fun h62 => (by revert h62; first | decide | exact fun z => absurd z (by decide) | exact fun z => z.elim (by decide))) (fun _ => ?_)
          refine lv_iload_n hx hb dM_number_65 rfl (lv_at hl 0 rfl) ?_
          refine lv_iconst (v := nI 2) hx hb dM_number_66 (by decide) ?_
          refine lv_icmp_gt (tgt := 81) hx hb dM_number_67 rfl (fun h67 => (by revert h67; first | decide | exact fun z => absurd z (by decide) | exact fun z => z.elim (by decide))) (fun _ => ?_)
          refine lv_iload_n hx hb dM_number_70 rfl (lv_at hl 0 rfl) ?_
          refine lv_iconst (v := nI 2) hx hb dM_number_71 (by decide) ?_
          refine lv_icmp_ne (tgt := 85) hx hb dM_number_72 rfl (fun _ => ?_) (fun h72 => (by revert h72; first | decide | exact fun z => absurd z (by decide) | exact fun z => z.elim (by decide)))
          refine lv_iload_n hx hb dM_number_85 rfl (lv_at hl 1 rfl) ?_
          -- end 2
          rw [← hQ]
          exact k_iret hx hb hr hlocks rfl (u := (pt + 1)) (Or.inl ⟨_, _, mn_1 (by omega) (by omega) (by omega), by omega, rfl, rfl⟩) hP hD hK hS dM_number_86
        · have h15 : 48 ≤ lk tx ul (pt + 1) := Nat.le_of_not_lt (fun z => h15 ((nI_ltI (a := lk tx ul (pt + 1)) (b := 48) (by omega) (by omega)).mpr z))
          refine lv_aload_n hx hb dM_number_18 rfl (lv_at hl 3 rfl) ?_
          refine k_i (ws2 := fun u => [(qm, .inr (6, [.int (nI th), .int (nI ul), .ref xt, .int (nI (pt + 1)), .ref xh, .ref xi, .ref xl, .ref xo, .ref xg, .ref xd, .int (zB ld), .ref xs, .int (nI stt), .int (nI sts), .int (nI drw), .ref xn, .ref xb, .ref xv, .int (nI bd), .int (nI rd)])), (xt, aI G 400 tx)]) (wr := []) (k_runV (n := 0) (As := []) (rest := []) hx hb hml hown htb hP hD hK hS hA hE (k_M_look l G H.size qm xt xh xi xl xo xg xd xs xn xb xv th ul (pt + 1) ld stt sts drw bd rd tx (show ul ≤ 400 from by omega) (show (pt + 1) ≤ ul from by omega) (show ∀ j, tx j < 128 from by omega)) b764 b766 s32 b7 b767 (by decide +kernel) rfl rfl ⟨by rw [hRf]; exact Nat.le_of_ble_eq_true rfl, by rw [hRl]; exact Nat.le_of_ble_eq_true rfl⟩ [0, 1] rfl (by decide) 0 rfl rfl rfl rfl hl.1 rfl (Nat.le_of_ble_eq_true rfl) dM_number_19 ⟨Nat.zero_le _, Nat.zero_le _⟩) hP hD hS hA [0, 1] [] [0, 1] rfl rfl (by decide) (by decide) (fun u => rfl) (by decide) (fun r u H locs hw hP hD hS => ?_)
          obtain ⟨rfl, rfl⟩ := hw
          have hP : va_P (gD G) vC [(qm, .inr (6, [.int (nI th), .int (nI ul), .ref xt, .int (nI (pt + 1)), .ref xh, .ref xi, .ref xl, .ref xo, .ref xg, .ref xd, .int (zB ld), .ref xs, .int (nI stt), .int (nI sts), .int (nI drw), .ref xn, .ref xb, .ref xv, .int (nI bd), .int (nI rd)])), (xt, aI G 400 tx)] H := hP
          have hD : va_D A [(qm, .inr (6, [.int (nI th), .int (nI ul), .ref xt, .int (nI (pt + 1)), .ref xh, .ref xi, .ref xl, .ref xo, .ref xg, .ref xd, .int (zB ld), .ref xs, .int (nI stt), .int (nI sts), .int (nI drw), .ref xn, .ref xb, .ref xv, .int (nI bd), .int (nI rd)])), (xt, aI G 400 tx)] := hD
          refine lv_bipush (v := nI 57) hx hb dM_number_22 (by decide) ?_
          refine lv_icmp_gt (tgt := 61) hx hb dM_number_24 rfl (fun h24 => ?_) (fun h24 => ?_)
          · have h24 : 57 < lk tx ul (pt + 1) := (nI_ltI (a := 57) (b := lk tx ul (pt + 1)) (by omega) (by omega)).mp h24
            refine lv_iload_n hx hb dM_number_61 rfl (lv_at hl 0 rfl) ?_
            refine lv_if_eq (tgt := 81) hx hb dM_number_62 rfl (fun h62 => (by revert h62; first | decide | exact fun z => absurd z (by decide) | exact fun z => z.elim (by decide))) (fun _ => ?_)
            refine lv_iload_n hx hb dM_number_65 rfl (lv_at hl 0 rfl) ?_
            refine lv_iconst (v := nI 2) hx hb dM_number_66 (by decide) ?_
            refine lv_icmp_gt (tgt := 81) hx hb dM_number_67 rfl (fun h67 => (by revert h67; first | decide | exact fun z => absurd z (by decide) | exact fun z => z.elim (by decide))) (fun _ => ?_)
            refine lv_iload_n hx hb dM_number_70 rfl (lv_at hl 0 rfl) ?_
            refine lv_iconst (v := nI 2) hx hb dM_number_71 (by decide) ?_
            refine lv_icmp_ne (tgt := 85) hx hb dM_number_72 rfl (fun _ => ?_) (fun h72 => (by revert h72; first | decide | exact fun z => absurd z (by decide) | exact fun z => z.elim (by decide)))
            refine lv_iload_n hx hb dM_number_85 rfl (lv_at hl 1 rfl) ?_
            -- end 3
            rw [← hQ]
            exact k_iret hx hb hr hlocks rfl (u := (pt + 1)) (Or.inl ⟨_, _, mn_1 (by omega) (by omega) (by omega), by omega, rfl, rfl⟩) hP hD hK hS dM_number_86
          · have h24 : lk tx ul (pt + 1) ≤ 57 := Nat.le_of_not_lt (fun z => h24 ((nI_ltI (a := 57) (b := lk tx ul (pt + 1)) (by omega) (by omega)).mpr z))
            refine lv_iload_n hx hb dM_number_27 rfl (lv_at hl 0 rfl) ?_
            refine lv_iconst (v := nI 3) hx hb dM_number_28 (by decide) ?_
            refine lv_icmp_ge (tgt := 61) hx hb dM_number_29 rfl (fun h29 => (by revert h29; first | decide | exact fun z => absurd z (by decide) | exact fun z => z.elim (by decide))) (fun _ => ?_)
            refine lv_bipush (v := nI 10) hx hb dM_number_32 (by decide) ?_
            refine lv_iload_n hx hb dM_number_34 rfl (lv_at hl 1 rfl) ?_
            refine lv_imul hx hb dM_number_35 ?_
            refine k_toi (y := nI (10 * ((0 + (lk tx ul pt)) - 48))) (pk_mul _ _) ?_
            refine lv_aload_n hx hb dM_number_36 rfl (lv_at hl 3 rfl) ?_
            refine k_i (ws2 := fun u => [(qm, .inr (6, [.int (nI th), .int (nI ul), .ref xt, .int (nI (pt + 1)), .ref xh, .ref xi, .ref xl, .ref xo, .ref xg, .ref xd, .int (zB ld), .ref xs, .int (nI stt), .int (nI sts), .int (nI drw), .ref xn, .ref xb, .ref xv, .int (nI bd), .int (nI rd)])), (xt, aI G 400 tx)]) (wr := []) (k_runV (n := 0) (As := []) (rest := [.int (nI (10 * ((0 + (lk tx ul pt)) - 48)))]) hx hb hml hown htb hP hD hK hS hA hE (k_M_look l G H.size qm xt xh xi xl xo xg xd xs xn xb xv th ul (pt + 1) ld stt sts drw bd rd tx (show ul ≤ 400 from by omega) (show (pt + 1) ≤ ul from by omega) (show ∀ j, tx j < 128 from by omega)) b764 b766 s32 b7 b767 (by decide +kernel) rfl rfl ⟨by rw [hRf]; exact Nat.le_of_ble_eq_true rfl, by rw [hRl]; exact Nat.le_of_ble_eq_true rfl⟩ [0, 1] rfl (by decide) 0 rfl rfl rfl rfl hl.1 rfl (Nat.le_of_ble_eq_true rfl) dM_number_37 ⟨Nat.zero_le _, Nat.zero_le _⟩) hP hD hS hA [0, 1] [] [0, 1] rfl rfl (by decide) (by decide) (fun u => rfl) (by decide) (fun r u H locs hw hP hD hS => ?_)
            obtain ⟨rfl, rfl⟩ := hw
            have hP : va_P (gD G) vC [(qm, .inr (6, [.int (nI th), .int (nI ul), .ref xt, .int (nI (pt + 1)), .ref xh, .ref xi, .ref xl, .ref xo, .ref xg, .ref xd, .int (zB ld), .ref xs, .int (nI stt), .int (nI sts), .int (nI drw), .ref xn, .ref xb, .ref xv, .int (nI bd), .int (nI rd)])), (xt, aI G 400 tx)] H := hP
            have hD : va_D A [(qm, .inr (6, [.int (nI th), .int (nI ul), .ref xt, .int (nI (pt + 1)), .ref xh, .ref xi, .ref xl, .ref xo, .ref xg, .ref xd, .int (zB ld), .ref xs, .int (nI stt), .int (nI sts), .int (nI drw), .ref xn, .ref xb, .ref xv, .int (nI bd), .int (nI rd)])), (xt, aI G 400 tx)] := hD
            refine lv_iadd hx hb dM_number_40 ?_
            refine k_toi (y := nI ((10 * ((0 + (lk tx ul pt)) - 48)) + (lk tx ul (pt + 1)))) (nI_add _ _) ?_
            refine lv_bipush (v := nI 48) hx hb dM_number_41 (by decide) ?_
            refine lv_isub hx hb dM_number_43 ?_
            refine k_toi (y := nI (((10 * ((0 + (lk tx ul pt)) - 48)) + (lk tx ul (pt + 1))) - 48)) (pk_sub (by omega)) ?_
            refine lv_istore_n (lv' := [(2, .int (nI (((10 * ((0 + (lk tx ul pt)) - 48)) + (lk tx ul (pt + 1))) - 48))), (3, .int (nI 1)), (1, .int (nI (lk tx ul pt))), (0, .ref qm)]) hx hb dM_number_44 rfl hl (by decide) rfl (fun ls hl => ?_)
            refine lv_iinc (v := nI 2) (lv' := [(3, .int (nI 2)), (2, .int (nI (((10 * ((0 + (lk tx ul pt)) - 48)) + (lk tx ul (pt + 1))) - 48))), (1, .int (nI (lk tx ul pt))), (0, .ref qm)]) hx hb dM_number_45 hl (k := 1) rfl (nI_add _ 1) (by decide) rfl (fun ls hl => ?_)
            refine lv_aload_n hx hb dM_number_48 rfl (lv_at hl 3 rfl) ?_
            refine lv_dup hx hb dM_number_49 rfl ?_
            refine va_get (D := gD G) (ci := 6) (v := .int (nI (pt + 1))) (C := "CircuitProverModel") (T := TM) (N := 20) hx hb htb inM hown hK hP 0 rfl rfl 3 (by decide) (htb _ b674) (fun _ h9 => h9) rfl dM_number_50 ?_
            refine lv_iconst (v := nI 1) hx hb dM_number_53 (by decide) ?_
            refine lv_iadd hx hb dM_number_54 ?_
            refine k_toi (y := nI ((pt + 1) + 1)) (nI_add _ _) ?_
            refine va_put (D := gD G) (ci := 6) (v := .int (nI ((pt + 1) + 1))) (ty := tyM 3) (C := "CircuitProverModel") (T := TM) (N := 20) hx hb htb inM tyM tyM_ok nmM hown hK hP hD hS 0 rfl rfl 3 (by decide) (htb _ b674) (fun _ h9 => h9) rfl (tyM_ok 3 (by decide)) rfl rfl (Nat.le_of_ble_eq_true rfl) dM_number_55 (fun H locs hP hD hS => ?_)
            have hP : va_P (gD G) vC [(qm, .inr (6, [.int (nI th), .int (nI ul), .ref xt, .int (nI ((pt + 1) + 1)), .ref xh, .ref xi, .ref xl, .ref xo, .ref xg, .ref xd, .int (zB ld), .ref xs, .int (nI stt), .int (nI sts), .int (nI drw), .ref xn, .ref xb, .ref xv, .int (nI bd), .int (nI rd)])), (xt, aI G 400 tx)] H := hP
            have hD : va_D A [(qm, .inr (6, [.int (nI th), .int (nI ul), .ref xt, .int (nI ((pt + 1) + 1)), .ref xh, .ref xi, .ref xl, .ref xo, .ref xg, .ref xd, .int (zB ld), .ref xs, .int (nI stt), .int (nI sts), .int (nI drw), .ref xn, .ref xb, .ref xv, .int (nI bd), .int (nI rd)])), (xt, aI G 400 tx)] := hD
            refine lv_goto (tgt := 9) hx hb dM_number_58 rfl ?_
            refine lv_aload_n hx hb dM_number_9 rfl (lv_at hl 3 rfl) ?_
            refine k_i (ws2 := fun u => [(qm, .inr (6, [.int (nI th), .int (nI ul), .ref xt, .int (nI ((pt + 1) + 1)), .ref xh, .ref xi, .ref xl, .ref xo, .ref xg, .ref xd, .int (zB ld), .ref xs, .int (nI stt), .int (nI sts), .int (nI drw), .ref xn, .ref xb, .ref xv, .int (nI bd), .int (nI rd)])), (xt, aI G 400 tx)]) (wr := []) (k_runV (n := 0) (As := []) (rest := []) hx hb hml hown htb hP hD hK hS hA hE (k_M_look l G H.size qm xt xh xi xl xo xg xd xs xn xb xv th ul ((pt + 1) + 1) ld stt sts drw bd rd tx (show ul ≤ 400 from by omega) (show ((pt + 1) + 1) ≤ ul from by omega) (show ∀ j, tx j < 128 from by omega)) b764 b766 s32 b7 b767 (by decide +kernel) rfl rfl ⟨by rw [hRf]; exact Nat.le_of_ble_eq_true rfl, by rw [hRl]; exact Nat.le_of_ble_eq_true rfl⟩ [0, 1] rfl (by decide) 0 rfl rfl rfl rfl hl.1 rfl (Nat.le_of_ble_eq_true rfl) dM_number_10 ⟨Nat.zero_le _, Nat.zero_le _⟩) hP hD hS hA [0, 1] [] [0, 1] rfl rfl (by decide) (by decide) (fun u => rfl) (by decide) (fun r u H locs hw hP hD hS => ?_)
            obtain ⟨rfl, rfl⟩ := hw
            have hP : va_P (gD G) vC [(qm, .inr (6, [.int (nI th), .int (nI ul), .ref xt, .int (nI ((pt + 1) + 1)), .ref xh, .ref xi, .ref xl, .ref xo, .ref xg, .ref xd, .int (zB ld), .ref xs, .int (nI stt), .int (nI sts), .int (nI drw), .ref xn, .ref xb, .ref xv, .int (nI bd), .int (nI rd)])), (xt, aI G 400 tx)] H := hP
            have hD : va_D A [(qm, .inr (6, [.int (nI th), .int (nI ul), .ref xt, .int (nI ((pt + 1) + 1)), .ref xh, .ref xi, .ref xl, .ref xo, .ref xg, .ref xd, .int (zB ld), .ref xs, .int (nI stt), .int (nI sts), .int (nI drw), .ref xn, .ref xb, .ref xv, .int (nI bd), .int (nI rd)])), (xt, aI G 400 tx)] := hD
            refine lv_bipush (v := nI 48) hx hb dM_number_13 (by decide) ?_
            refine lv_icmp_lt (tgt := 61) hx hb dM_number_15 rfl (fun h15 => ?_) (fun h15 => ?_)
            · have h15 : lk tx ul ((pt + 1) + 1) < 48 := (nI_ltI (a := lk tx ul ((pt + 1) + 1)) (b := 48) (by omega) (by omega)).mp h15
              refine lv_iload_n hx hb dM_number_61 rfl (lv_at hl 0 rfl) ?_
              refine lv_if_eq (tgt := 81) hx hb dM_number_62 rfl (fun h62 => (by revert h62; first | decide | exact fun z => absurd z (by decide) | exact fun z => z.elim (by decide))) (fun _ => ?_)
              refine lv_iload_n hx hb dM_number_65 rfl (lv_at hl 0 rfl) ?_
              refine lv_iconst (v := nI 2) hx hb dM_number_66 (by decide) ?_
              refine lv_icmp_gt (tgt := 81) hx hb dM_number_67 rfl (fun h67 => (by revert h67; first | decide | exact fun z => absurd z (by decide) | exact fun z => z.elim (by decide))) (fun _ => ?_)
              refine lv_iload_n hx hb dM_number_70 rfl (lv_at hl 0 rfl) ?_
              refine lv_iconst (v := nI 2) hx hb dM_number_71 (by decide) ?_
              refine lv_icmp_ne (tgt := 85) hx hb dM_number_72 rfl (fun h72 => (by revert h72; first | decide | exact fun z => absurd z (by decide) | exact fun z => z.elim (by decide))) (fun _ => ?_)
              refine lv_iload_n hx hb dM_number_75 rfl (lv_at hl 2 rfl) ?_
              refine lv_bipush (v := nI 48) hx hb dM_number_76 (by decide) ?_
              refine lv_icmp_ne (tgt := 85) hx hb dM_number_78 rfl (fun h78 => ?_) (fun h78 => ?_)
              · have h78 : ¬ lk tx ul pt = 48 := fun z => h78 ((nI_eq (a := lk tx ul pt) (b := 48) (by omega) (by omega)).mpr z)
                refine lv_iload_n hx hb dM_number_85 rfl (lv_at hl 1 rfl) ?_
                -- end 4
                rw [← hQ]
                exact k_iret hx hb hr hlocks rfl (u := ((pt + 1) + 1)) (Or.inl ⟨_, _, mn_2 (by omega) (by omega) (by omega) (by omega) (by omega), by omega, rfl, rfl⟩) hP hD hK hS dM_number_86
              · have h78 : lk tx ul pt = 48 := (nI_eq (a := lk tx ul pt) (b := 48) (by omega) (by omega)).mp h78
                refine lv_iconst (v := (-1)) hx hb dM_number_81 (by decide) ?_
                refine lv_goto (tgt := 86) hx hb dM_number_82 rfl ?_
                -- end 5
                rw [← hQ]
                exact k_iret hx hb hr hlocks rfl (u := ((pt + 1) + 1)) (Or.inr ⟨_, mn_2z (by omega) (by omega), by omega, rfl, rfl⟩) hP hD hK hS dM_number_86
            · have h15 : 48 ≤ lk tx ul ((pt + 1) + 1) := Nat.le_of_not_lt (fun z => h15 ((nI_ltI (a := lk tx ul ((pt + 1) + 1)) (b := 48) (by omega) (by omega)).mpr z))
              refine lv_aload_n hx hb dM_number_18 rfl (lv_at hl 3 rfl) ?_
              refine k_i (ws2 := fun u => [(qm, .inr (6, [.int (nI th), .int (nI ul), .ref xt, .int (nI ((pt + 1) + 1)), .ref xh, .ref xi, .ref xl, .ref xo, .ref xg, .ref xd, .int (zB ld), .ref xs, .int (nI stt), .int (nI sts), .int (nI drw), .ref xn, .ref xb, .ref xv, .int (nI bd), .int (nI rd)])), (xt, aI G 400 tx)]) (wr := []) (k_runV (n := 0) (As := []) (rest := []) hx hb hml hown htb hP hD hK hS hA hE (k_M_look l G H.size qm xt xh xi xl xo xg xd xs xn xb xv th ul ((pt + 1) + 1) ld stt sts drw bd rd tx (show ul ≤ 400 from by omega) (show ((pt + 1) + 1) ≤ ul from by omega) (show ∀ j, tx j < 128 from by omega)) b764 b766 s32 b7 b767 (by decide +kernel) rfl rfl ⟨by rw [hRf]; exact Nat.le_of_ble_eq_true rfl, by rw [hRl]; exact Nat.le_of_ble_eq_true rfl⟩ [0, 1] rfl (by decide) 0 rfl rfl rfl rfl hl.1 rfl (Nat.le_of_ble_eq_true rfl) dM_number_19 ⟨Nat.zero_le _, Nat.zero_le _⟩) hP hD hS hA [0, 1] [] [0, 1] rfl rfl (by decide) (by decide) (fun u => rfl) (by decide) (fun r u H locs hw hP hD hS => ?_)
              obtain ⟨rfl, rfl⟩ := hw
              have hP : va_P (gD G) vC [(qm, .inr (6, [.int (nI th), .int (nI ul), .ref xt, .int (nI ((pt + 1) + 1)), .ref xh, .ref xi, .ref xl, .ref xo, .ref xg, .ref xd, .int (zB ld), .ref xs, .int (nI stt), .int (nI sts), .int (nI drw), .ref xn, .ref xb, .ref xv, .int (nI bd), .int (nI rd)])), (xt, aI G 400 tx)] H := hP
              have hD : va_D A [(qm, .inr (6, [.int (nI th), .int (nI ul), .ref xt, .int (nI ((pt + 1) + 1)), .ref xh, .ref xi, .ref xl, .ref xo, .ref xg, .ref xd, .int (zB ld), .ref xs, .int (nI stt), .int (nI sts), .int (nI drw), .ref xn, .ref xb, .ref xv, .int (nI bd), .int (nI rd)])), (xt, aI G 400 tx)] := hD
              refine lv_bipush (v := nI 57) hx hb dM_number_22 (by decide) ?_
              refine lv_icmp_gt (tgt := 61) hx hb dM_number_24 rfl (fun h24 => ?_) (fun h24 => ?_)
              · have h24 : 57 < lk tx ul ((pt + 1) + 1) := (nI_ltI (a := 57) (b := lk tx ul ((pt + 1) + 1)) (by omega) (by omega)).mp h24
                refine lv_iload_n hx hb dM_number_61 rfl (lv_at hl 0 rfl) ?_
                refine lv_if_eq (tgt := 81) hx hb dM_number_62 rfl (fun h62 => (by revert h62; first | decide | exact fun z => absurd z (by decide) | exact fun z => z.elim (by decide))) (fun _ => ?_)
                refine lv_iload_n hx hb dM_number_65 rfl (lv_at hl 0 rfl) ?_
                refine lv_iconst (v := nI 2) hx hb dM_number_66 (by decide) ?_
                refine lv_icmp_gt (tgt := 81) hx hb dM_number_67 rfl (fun h67 => (by revert h67; first | decide | exact fun z => absurd z (by decide) | exact fun z => z.elim (by decide))) (fun _ => ?_)
                refine lv_iload_n hx hb dM_number_70 rfl (lv_at hl 0 rfl) ?_
                refine lv_iconst (v := nI 2) hx hb dM_number_71 (by decide) ?_
                refine lv_icmp_ne (tgt := 85) hx hb dM_number_72 rfl (fun h72 => (by revert h72; first | decide | exact fun z => absurd z (by decide) | exact fun z => z.elim (by decide))) (fun _ => ?_)
                refine lv_iload_n hx hb dM_number_75 rfl (lv_at hl 2 rfl) ?_
                refine lv_bipush (v := nI 48) hx hb dM_number_76 (by decide) ?_
                refine lv_icmp_ne (tgt := 85) hx hb dM_number_78 rfl (fun h78 => ?_) (fun h78 => ?_)
                · have h78 : ¬ lk tx ul pt = 48 := fun z => h78 ((nI_eq (a := lk tx ul pt) (b := 48) (by omega) (by omega)).mpr z)
                  refine lv_iload_n hx hb dM_number_85 rfl (lv_at hl 1 rfl) ?_
                  -- end 6
                  rw [← hQ]
                  exact k_iret hx hb hr hlocks rfl (u := ((pt + 1) + 1)) (Or.inl ⟨_, _, mn_2 (by omega) (by omega) (by omega) (by omega) (by omega), by omega, rfl, rfl⟩) hP hD hK hS dM_number_86
                · have h78 : lk tx ul pt = 48 := (nI_eq (a := lk tx ul pt) (b := 48) (by omega) (by omega)).mp h78
                  refine lv_iconst (v := (-1)) hx hb dM_number_81 (by decide) ?_
                  refine lv_goto (tgt := 86) hx hb dM_number_82 rfl ?_
                  -- end 7
                  rw [← hQ]
                  exact k_iret hx hb hr hlocks rfl (u := ((pt + 1) + 1)) (Or.inr ⟨_, mn_2z (by omega) (by omega), by omega, rfl, rfl⟩) hP hD hK hS dM_number_86
              · have h24 : lk tx ul ((pt + 1) + 1) ≤ 57 := Nat.le_of_not_lt (fun z => h24 ((nI_ltI (a := 57) (b := lk tx ul ((pt + 1) + 1)) (by omega) (by omega)).mpr z))
                refine lv_iload_n hx hb dM_number_27 rfl (lv_at hl 0 rfl) ?_
                refine lv_iconst (v := nI 3) hx hb dM_number_28 (by decide) ?_
                refine lv_icmp_ge (tgt := 61) hx hb dM_number_29 rfl (fun h29 => (by revert h29; first | decide | exact fun z => absurd z (by decide) | exact fun z => z.elim (by decide))) (fun _ => ?_)
                refine lv_bipush (v := nI 10) hx hb dM_number_32 (by decide) ?_
                refine lv_iload_n hx hb dM_number_34 rfl (lv_at hl 1 rfl) ?_
                refine lv_imul hx hb dM_number_35 ?_
                refine k_toi (y := nI (10 * (((10 * ((0 + (lk tx ul pt)) - 48)) + (lk tx ul (pt + 1))) - 48))) (pk_mul _ _) ?_
                refine lv_aload_n hx hb dM_number_36 rfl (lv_at hl 3 rfl) ?_
                refine k_i (ws2 := fun u => [(qm, .inr (6, [.int (nI th), .int (nI ul), .ref xt, .int (nI ((pt + 1) + 1)), .ref xh, .ref xi, .ref xl, .ref xo, .ref xg, .ref xd, .int (zB ld), .ref xs, .int (nI stt), .int (nI sts), .int (nI drw), .ref xn, .ref xb, .ref xv, .int (nI bd), .int (nI rd)])), (xt, aI G 400 tx)]) (wr := []) (k_runV (n := 0) (As := []) (rest := [.int (nI (10 * (((10 * ((0 + (lk tx ul pt)) - 48)) + (lk tx ul (pt + 1))) - 48)))]) hx hb hml hown htb hP hD hK hS hA hE (k_M_look l G H.size qm xt xh xi xl xo xg xd xs xn xb xv th ul ((pt + 1) + 1) ld stt sts drw bd rd tx (show ul ≤ 400 from by omega) (show ((pt + 1) + 1) ≤ ul from by omega) (show ∀ j, tx j < 128 from by omega)) b764 b766 s32 b7 b767 (by decide +kernel) rfl rfl ⟨by rw [hRf]; exact Nat.le_of_ble_eq_true rfl, by rw [hRl]; exact Nat.le_of_ble_eq_true rfl⟩ [0, 1] rfl (by decide) 0 rfl rfl rfl rfl hl.1 rfl (Nat.le_of_ble_eq_true rfl) dM_number_37 ⟨Nat.zero_le _, Nat.zero_le _⟩) hP hD hS hA [0, 1] [] [0, 1] rfl rfl (by decide) (by decide) (fun u => rfl) (by decide) (fun r u H locs hw hP hD hS => ?_)
                obtain ⟨rfl, rfl⟩ := hw
                have hP : va_P (gD G) vC [(qm, .inr (6, [.int (nI th), .int (nI ul), .ref xt, .int (nI ((pt + 1) + 1)), .ref xh, .ref xi, .ref xl, .ref xo, .ref xg, .ref xd, .int (zB ld), .ref xs, .int (nI stt), .int (nI sts), .int (nI drw), .ref xn, .ref xb, .ref xv, .int (nI bd), .int (nI rd)])), (xt, aI G 400 tx)] H := hP
                have hD : va_D A [(qm, .inr (6, [.int (nI th), .int (nI ul), .ref xt, .int (nI ((pt + 1) + 1)), .ref xh, .ref xi, .ref xl, .ref xo, .ref xg, .ref xd, .int (zB ld), .ref xs, .int (nI stt), .int (nI sts), .int (nI drw), .ref xn, .ref xb, .ref xv, .int (nI bd), .int (nI rd)])), (xt, aI G 400 tx)] := hD
                refine lv_iadd hx hb dM_number_40 ?_
                refine k_toi (y := nI ((10 * (((10 * ((0 + (lk tx ul pt)) - 48)) + (lk tx ul (pt + 1))) - 48)) + (lk tx ul ((pt + 1) + 1)))) (nI_add _ _) ?_
                refine lv_bipush (v := nI 48) hx hb dM_number_41 (by decide) ?_
                refine lv_isub hx hb dM_number_43 ?_
                refine k_toi (y := nI (((10 * (((10 * ((0 + (lk tx ul pt)) - 48)) + (lk tx ul (pt + 1))) - 48)) + (lk tx ul ((pt + 1) + 1))) - 48)) (pk_sub (by omega)) ?_
                refine lv_istore_n (lv' := [(2, .int (nI (((10 * (((10 * ((0 + (lk tx ul pt)) - 48)) + (lk tx ul (pt + 1))) - 48)) + (lk tx ul ((pt + 1) + 1))) - 48))), (3, .int (nI 2)), (1, .int (nI (lk tx ul pt))), (0, .ref qm)]) hx hb dM_number_44 rfl hl (by decide) rfl (fun ls hl => ?_)
                refine lv_iinc (v := nI 3) (lv' := [(3, .int (nI 3)), (2, .int (nI (((10 * (((10 * ((0 + (lk tx ul pt)) - 48)) + (lk tx ul (pt + 1))) - 48)) + (lk tx ul ((pt + 1) + 1))) - 48))), (1, .int (nI (lk tx ul pt))), (0, .ref qm)]) hx hb dM_number_45 hl (k := 1) rfl (nI_add _ 1) (by decide) rfl (fun ls hl => ?_)
                refine lv_aload_n hx hb dM_number_48 rfl (lv_at hl 3 rfl) ?_
                refine lv_dup hx hb dM_number_49 rfl ?_
                refine va_get (D := gD G) (ci := 6) (v := .int (nI ((pt + 1) + 1))) (C := "CircuitProverModel") (T := TM) (N := 20) hx hb htb inM hown hK hP 0 rfl rfl 3 (by decide) (htb _ b674) (fun _ h9 => h9) rfl dM_number_50 ?_
                refine lv_iconst (v := nI 1) hx hb dM_number_53 (by decide) ?_
                refine lv_iadd hx hb dM_number_54 ?_
                refine k_toi (y := nI (((pt + 1) + 1) + 1)) (nI_add _ _) ?_
                refine va_put (D := gD G) (ci := 6) (v := .int (nI (((pt + 1) + 1) + 1))) (ty := tyM 3) (C := "CircuitProverModel") (T := TM) (N := 20) hx hb htb inM tyM tyM_ok nmM hown hK hP hD hS 0 rfl rfl 3 (by decide) (htb _ b674) (fun _ h9 => h9) rfl (tyM_ok 3 (by decide)) rfl rfl (Nat.le_of_ble_eq_true rfl) dM_number_55 (fun H locs hP hD hS => ?_)
                have hP : va_P (gD G) vC [(qm, .inr (6, [.int (nI th), .int (nI ul), .ref xt, .int (nI (((pt + 1) + 1) + 1)), .ref xh, .ref xi, .ref xl, .ref xo, .ref xg, .ref xd, .int (zB ld), .ref xs, .int (nI stt), .int (nI sts), .int (nI drw), .ref xn, .ref xb, .ref xv, .int (nI bd), .int (nI rd)])), (xt, aI G 400 tx)] H := hP
                have hD : va_D A [(qm, .inr (6, [.int (nI th), .int (nI ul), .ref xt, .int (nI (((pt + 1) + 1) + 1)), .ref xh, .ref xi, .ref xl, .ref xo, .ref xg, .ref xd, .int (zB ld), .ref xs, .int (nI stt), .int (nI sts), .int (nI drw), .ref xn, .ref xb, .ref xv, .int (nI bd), .int (nI rd)])), (xt, aI G 400 tx)] := hD
                refine lv_goto (tgt := 9) hx hb dM_number_58 rfl ?_
                refine lv_aload_n hx hb dM_number_9 rfl (lv_at hl 3 rfl) ?_
                refine k_i (ws2 := fun u => [(qm, .inr (6, [.int (nI th), .int (nI ul), .ref xt, .int (nI (((pt + 1) + 1) + 1)), .ref xh, .ref xi, .ref xl, .ref xo, .ref xg, .ref xd, .int (zB ld), .ref xs, .int (nI stt), .int (nI sts), .int (nI drw), .ref xn, .ref xb, .ref xv, .int (nI bd), .int (nI rd)])), (xt, aI G 400 tx)]) (wr := []) (k_runV (n := 0) (As := []) (rest := []) hx hb hml hown htb hP hD hK hS hA hE (k_M_look l G H.size qm xt xh xi xl xo xg xd xs xn xb xv th ul (((pt + 1) + 1) + 1) ld stt sts drw bd rd tx (show ul ≤ 400 from by omega) (show (((pt + 1) + 1) + 1) ≤ ul from by omega) (show ∀ j, tx j < 128 from by omega)) b764 b766 s32 b7 b767 (by decide +kernel) rfl rfl ⟨by rw [hRf]; exact Nat.le_of_ble_eq_true rfl, by rw [hRl]; exact Nat.le_of_ble_eq_true rfl⟩ [0, 1] rfl (by decide) 0 rfl rfl rfl rfl hl.1 rfl (Nat.le_of_ble_eq_true rfl) dM_number_10 ⟨Nat.zero_le _, Nat.zero_le _⟩) hP hD hS hA [0, 1] [] [0, 1] rfl rfl (by decide) (by decide) (fun u => rfl) (by decide) (fun r u H locs hw hP hD hS => ?_)
                obtain ⟨rfl, rfl⟩ := hw
                have hP : va_P (gD G) vC [(qm, .inr (6, [.int (nI th), .int (nI ul), .ref xt, .int (nI (((pt + 1) + 1) + 1)), .ref xh, .ref xi, .ref xl, .ref xo, .ref xg, .ref xd, .int (zB ld), .ref xs, .int (nI stt), .int (nI sts), .int (nI drw), .ref xn, .ref xb, .ref xv, .int (nI bd), .int (nI rd)])), (xt, aI G 400 tx)] H := hP
                have hD : va_D A [(qm, .inr (6, [.int (nI th), .int (nI ul), .ref xt, .int (nI (((pt + 1) + 1) + 1)), .ref xh, .ref xi, .ref xl, .ref xo, .ref xg, .ref xd, .int (zB ld), .ref xs, .int (nI stt), .int (nI sts), .int (nI drw), .ref xn, .ref xb, .ref xv, .int (nI bd), .int (nI rd)])), (xt, aI G 400 tx)] := hD
                refine lv_bipush (v := nI 48) hx hb dM_number_13 (by decide) ?_
                refine lv_icmp_lt (tgt := 61) hx hb dM_number_15 rfl (fun h15 => ?_) (fun h15 => ?_)
                · have h15 : lk tx ul (((pt + 1) + 1) + 1) < 48 := (nI_ltI (a := lk tx ul (((pt + 1) + 1) + 1)) (b := 48) (by omega) (by omega)).mp h15
                  refine lv_iload_n hx hb dM_number_61 rfl (lv_at hl 0 rfl) ?_
                  refine lv_if_eq (tgt := 81) hx hb dM_number_62 rfl (fun h62 => (by revert h62; first | decide | exact fun z => absurd z (by decide) | exact fun z => z.elim (by decide))) (fun _ => ?_)
                  refine lv_iload_n hx hb dM_number_65 rfl (lv_at hl 0 rfl) ?_
                  refine lv_iconst (v := nI 2) hx hb dM_number_66 (by decide) ?_
                  refine lv_icmp_gt (tgt := 81) hx hb dM_number_67 rfl (fun _ => ?_) (fun h67 => (by revert h67; first | decide | exact fun z => absurd z (by decide) | exact fun z => z.elim (by decide)))
                  refine lv_iconst (v := (-1)) hx hb dM_number_81 (by decide) ?_
                  refine lv_goto (tgt := 86) hx hb dM_number_82 rfl ?_
                  -- end 8
                  rw [← hQ]
                  exact k_iret hx hb hr hlocks rfl (u := (((pt + 1) + 1) + 1)) (Or.inr ⟨_, mn_3 (by omega) (by omega), by omega, rfl, rfl⟩) hP hD hK hS dM_number_86
                · have h15 : 48 ≤ lk tx ul (((pt + 1) + 1) + 1) := Nat.le_of_not_lt (fun z => h15 ((nI_ltI (a := lk tx ul (((pt + 1) + 1) + 1)) (b := 48) (by omega) (by omega)).mpr z))
                  refine lv_aload_n hx hb dM_number_18 rfl (lv_at hl 3 rfl) ?_
                  refine k_i (ws2 := fun u => [(qm, .inr (6, [.int (nI th), .int (nI ul), .ref xt, .int (nI (((pt + 1) + 1) + 1)), .ref xh, .ref xi, .ref xl, .ref xo, .ref xg, .ref xd, .int (zB ld), .ref xs, .int (nI stt), .int (nI sts), .int (nI drw), .ref xn, .ref xb, .ref xv, .int (nI bd), .int (nI rd)])), (xt, aI G 400 tx)]) (wr := []) (k_runV (n := 0) (As := []) (rest := []) hx hb hml hown htb hP hD hK hS hA hE (k_M_look l G H.size qm xt xh xi xl xo xg xd xs xn xb xv th ul (((pt + 1) + 1) + 1) ld stt sts drw bd rd tx (show ul ≤ 400 from by omega) (show (((pt + 1) + 1) + 1) ≤ ul from by omega) (show ∀ j, tx j < 128 from by omega)) b764 b766 s32 b7 b767 (by decide +kernel) rfl rfl ⟨by rw [hRf]; exact Nat.le_of_ble_eq_true rfl, by rw [hRl]; exact Nat.le_of_ble_eq_true rfl⟩ [0, 1] rfl (by decide) 0 rfl rfl rfl rfl hl.1 rfl (Nat.le_of_ble_eq_true rfl) dM_number_19 ⟨Nat.zero_le _, Nat.zero_le _⟩) hP hD hS hA [0, 1] [] [0, 1] rfl rfl (by decide) (by decide) (fun u => rfl) (by decide) (fun r u H locs hw hP hD hS => ?_)
                  obtain ⟨rfl, rfl⟩ := hw
                  have hP : va_P (gD G) vC [(qm, .inr (6, [.int (nI th), .int (nI ul), .ref xt, .int (nI (((pt + 1) + 1) + 1)), .ref xh, .ref xi, .ref xl, .ref xo, .ref xg, .ref xd, .int (zB ld), .ref xs, .int (nI stt), .int (nI sts), .int (nI drw), .ref xn, .ref xb, .ref xv, .int (nI bd), .int (nI rd)])), (xt, aI G 400 tx)] H := hP
                  have hD : va_D A [(qm, .inr (6, [.int (nI th), .int (nI ul), .ref xt, .int (nI (((pt + 1) + 1) + 1)), .ref xh, .ref xi, .ref xl, .ref xo, .ref xg, .ref xd, .int (zB ld), .ref xs, .int (nI stt), .int (nI sts), .int (nI drw), .ref xn, .ref xb, .ref xv, .int (nI bd), .int (nI rd)])), (xt, aI G 400 tx)] := hD
                  refine lv_bipush (v := nI 57) hx hb dM_number_22 (by decide) ?_
                  refine lv_icmp_gt (tgt := 61) hx hb dM_number_24 rfl (fun h24 => ?_) (fun h24 => ?_)
                  · have h24 : 57 < lk tx ul (((pt + 1) + 1) + 1) := (nI_ltI (a := 57) (b := lk tx ul (((pt + 1) + 1) + 1)) (by omega) (by omega)).mp h24
                    refine lv_iload_n hx hb dM_number_61 rfl (lv_at hl 0 rfl) ?_
                    refine lv_if_eq (tgt := 81) hx hb dM_number_62 rfl (fun h62 => (by revert h62; first | decide | exact fun z => absurd z (by decide) | exact fun z => z.elim (by decide))) (fun _ => ?_)
                    refine lv_iload_n hx hb dM_number_65 rfl (lv_at hl 0 rfl) ?_
                    refine lv_iconst (v := nI 2) hx hb dM_number_66 (by decide) ?_
                    refine lv_icmp_gt (tgt := 81) hx hb dM_number_67 rfl (fun _ => ?_) (fun h67 => (by revert h67; first | decide | exact fun z => absurd z (by decide) | exact fun z => z.elim (by decide)))
                    refine lv_iconst (v := (-1)) hx hb dM_number_81 (by decide) ?_
                    refine lv_goto (tgt := 86) hx hb dM_number_82 rfl ?_
                    -- end 9
                    rw [← hQ]
                    exact k_iret hx hb hr hlocks rfl (u := (((pt + 1) + 1) + 1)) (Or.inr ⟨_, mn_3 (by omega) (by omega), by omega, rfl, rfl⟩) hP hD hK hS dM_number_86
                  · have h24 : lk tx ul (((pt + 1) + 1) + 1) ≤ 57 := Nat.le_of_not_lt (fun z => h24 ((nI_ltI (a := 57) (b := lk tx ul (((pt + 1) + 1) + 1)) (by omega) (by omega)).mpr z))
                    refine lv_iload_n hx hb dM_number_27 rfl (lv_at hl 0 rfl) ?_
                    refine lv_iconst (v := nI 3) hx hb dM_number_28 (by decide) ?_
                    refine lv_icmp_ge (tgt := 61) hx hb dM_number_29 rfl (fun _ => ?_) (fun h29 => (by revert h29; first | decide | exact fun z => absurd z (by decide) | exact fun z => z.elim (by decide)))
                    refine lv_iload_n hx hb dM_number_61 rfl (lv_at hl 0 rfl) ?_
                    refine lv_if_eq (tgt := 81) hx hb dM_number_62 rfl (fun h62 => (by revert h62; first | decide | exact fun z => absurd z (by decide) | exact fun z => z.elim (by decide))) (fun _ => ?_)
                    refine lv_iload_n hx hb dM_number_65 rfl (lv_at hl 0 rfl) ?_
                    refine lv_iconst (v := nI 2) hx hb dM_number_66 (by decide) ?_
                    refine lv_icmp_gt (tgt := 81) hx hb dM_number_67 rfl (fun _ => ?_) (fun h67 => (by revert h67; first | decide | exact fun z => absurd z (by decide) | exact fun z => z.elim (by decide)))
                    refine lv_iconst (v := (-1)) hx hb dM_number_81 (by decide) ?_
                    refine lv_goto (tgt := 86) hx hb dM_number_82 rfl ?_
                    -- end 10
                    rw [← hQ]
                    exact k_iret hx hb hr hlocks rfl (u := (((pt + 1) + 1) + 1)) (Or.inr ⟨_, mn_3 (by omega) (by omega), by omega, rfl, rfl⟩) hP hD hK hS dM_number_86
  rw [hH, hlc] at hgo
  exact hgo
set_option maxRecDepth 100000 in
set_option maxHeartbeats 4000000 in
theorem k_M_line_r0 (l : Launch) (G : GG) (sz : Nat) (qm : Nat) (xt : Nat) (xh : Nat) (xi : Nat) (xl : Nat) (xo : Nat) (xg : Nat) (xd : Nat) (xs : Nat) (xn : Nat) (xb : Nat) (xv : Nat) (th : Nat) (ul : Nat) (pt : Nat) (ld : Bool) (stt : Nat) (sts : Nat) (drw : Nat) (bd : Nat) (rd : Nat) (tx : Nat → Nat) (hh : Nat → Nat) (hul : ul ≤ 400) (hpt : pt ≤ ul) (htx : ∀ j, tx j < 128) : Ki l yM_line cM_line 7 .boolean 2 43 G [.ref qm, .int (nI 0), .int (nI 0), .int (nI 5)] [(qm, .inr (6, [.int (nI th), .int (nI ul), .ref xt, .int (nI pt), .ref xh, .ref xi, .ref xl, .ref xo, .ref xg, .ref xd, .int (zB ld), .ref xs, .int (nI stt), .int (nI sts), .int (nI drw), .ref xn, .ref xb, .ref xv, .int (nI bd), .int (nI rd)])), (xt, aI G 400 tx), (xh, aI G 5 hh)] sz (fun (r : Int32) (u : Nat × (Nat → Nat)) => (∃ (li : List Nat), ∃ (z : Nat), ∃ (hh1 : Nat → Nat), exF (lk tx ul) 5 pt = some (li, z) ∧ (∀ j, j < 5 → hh1 j = li.getD j 0) ∧ z ≤ ul ∧ nI 1 = r ∧ (z, hh1) = u) ∨ (∃ (z : Nat), ∃ (hh1 : Nat → Nat), exF (lk tx ul) 5 pt = none ∧ z ≤ ul ∧ nI 0 = r ∧ (z, hh1) = u)) (fun (u : Nat × (Nat → Nat)) => [(qm, .inr (6, [.int (nI th), .int (nI ul), .ref xt, .int (nI u.1), .ref xh, .ref xi, .ref xl, .ref xo, .ref xg, .ref xd, .int (zB ld), .ref xs, .int (nI stt), .int (nI sts), .int (nI drw), .ref xn, .ref xb, .ref xv, .int (nI bd), .int (nI rd)])), (xt, aI G 400 tx), (xh, aI G 5 u.2)]) := by
  refine Met.ofW (cc := cM_line) (maxL := 7) (ret := (some .boolean)) (by decide) rfl ?_
  intro p e s m args below meth c s₁ B hml hv
  obtain ⟨hav, hsz, hP, hK, hD0, hE⟩ := hv
  have hx := B.exec
  have hb := B.bytes
  have hr := B.returns
  have htb : ∀ w ∈ TB, w.before args s = true := fun w h => atoms_spec (ws := Cond.code yM_line cM_line 7 (some .boolean) :: TB) B.pre w (List.mem_cons_of_mem _ h)
  have hown : s.vm.findClass "CircuitProverModel" = some m.cls := findClass_of_methodNamed B.named
  have hlocks := B.notSynchronized
  subst hsz
  have hD := hD0.self (sz := s.heap.size)
  clear hD0
  generalize hRm : (headSpec (Cond.code yM_line cM_line 7 (some .boolean) :: TB) { frames := 2, cells := 0, slots := 0, locals := 43 }).room = R
  have hRf : R.frames = 2 := by rw [← hRm]; rfl
  have hRl : R.locals = 43 := by rw [← hRm]; rfl
  have hRc : R.cells = 0 := by rw [← hRm]; rfl
  have hRs : R.slots = 0 := by rw [← hRm]; rfl
  clear hRm
  generalize hAe : va_A [(qm, .inr (6, [.int (nI th), .int (nI ul), .ref xt, .int (nI pt), .ref xh, .ref xi, .ref xl, .ref xo, .ref xg, .ref xd, .int (zB ld), .ref xs, .int (nI stt), .int (nI sts), .int (nI drw), .ref xn, .ref xb, .ref xv, .int (nI bd), .int (nI rd)])), (xt, aI G 400 tx), (xh, aI G 5 hh)] s.heap.size = A at hD hE ⊢
  have hA : ∀ q : Nat, s.heap.size ≤ q → A q := fun q h => by rw [← hAe]; exact Or.inr h
  clear hAe
  have hS : va_S A s.heap s.heap [] := va_S.rf
  have hl := lv_entry ([.ref qm, .int (nI 0), .int (nI 0), .int (nI 5)]) (n := 7) (Nat.le_of_ble_eq_true rfl)
  have hent := lg_entry_eq m ([.ref qm, .int (nI 0), .int (nI 0), .int (nI 5)]) 7
  rw [← hav] at hent
  rw [hent]
  clear hent hav
  generalize (lg_sl ([.ref qm, .int (nI 0), .int (nI 0), .int (nI 5)]) ++ List.replicate (7 - (lg_sl ([.ref qm, .int (nI 0), .int (nI 0), .int (nI 5)])).length) Slot.unset).toArray = ls at hl ⊢
  have hl : lv_has ls 7 [(0, .ref qm), (1, .int (nI 0)), (2, .int (nI 0)), (3, .int (nI 5))] := hl
  generalize hQ : MQ below _ args s 0 0 _ = Q
  have hP : va_P (gD G) vC [(qm, .inr (6, [.int (nI th), .int (nI ul), .ref xt, .int (nI pt), .ref xh, .ref xi, .ref xl, .ref xo, .ref xg, .ref xd, .int (zB ld), .ref xs, .int (nI stt), .int (nI sts), .int (nI drw), .ref xn, .ref xb, .ref xv, .int (nI bd), .int (nI rd)])), (xt, aI G 400 tx), (xh, aI G 5 hh)] s.heap := hP
  obtain ⟨H, hH⟩ : ∃ H : Heap, H = s.heap := ⟨_, rfl⟩
  obtain ⟨locs, hlc⟩ : ∃ L : List Loc, L = [] := ⟨_, rfl⟩
  have hS : va_S A s.heap H locs := by rw [hH, hlc]; exact hS
  have hP : va_P (gD G) vC [(qm, .inr (6, [.int (nI th), .int (nI ul), .ref xt, .int (nI pt), .ref xh, .ref xi, .ref xl, .ref xo, .ref xg, .ref xd, .int (zB ld), .ref xs, .int (nI stt), .int (nI sts), .int (nI drw), .ref xn, .ref xb, .ref xv, .int (nI bd), .int (nI rd)])), (xt, aI G 400 tx), (xh, aI G 5 hh)] H := by rw [hH]; exact hP
  have hgo : W p l e R s m args below meth c H locs 0 0 Q (F0 m 0 ls []) := by
    clear hH hlc
    refine lv_iconst (v := nI 0) hx hb dM_line_0 (by decide) ?_
    refine lv_istore (lv' := [(4, .int (nI 0)), (0, .ref qm), (1, .int (nI 0)), (2, .int (nI 0)), (3, .int (nI 5))]) hx hb dM_line_1 hl (by decide) rfl (fun ls hl => ?_)
    refine lv_iload hx hb dM_line_3 (lv_at hl 0 rfl) ?_
    refine lv_iload_n hx hb dM_line_5 rfl (lv_at hl 4 rfl) ?_
    refine lv_icmp_ge (tgt := 167) hx hb dM_line_6 rfl (fun h6 => (by revert h6; first | decide | exact fun z => absurd z (by decide) | exact fun z => z.elim (by decide))) (fun _ => ?_)
    refine lv_iload_n hx hb dM_line_9 rfl (lv_at hl 2 rfl) ?_
    refine lv_iconst (v := nI 2) hx hb dM_line_10 (by decide) ?_
    refine lv_icmp_ne (tgt := 33) hx hb dM_line_11 rfl (fun _ => ?_) (fun h11 => (by revert h11; first | decide | exact fun z => absurd z (by decide) | exact fun z => z.elim (by decide)))
    refine lv_iconst (v := nI 0) hx hb dM_line_33 (by decide) ?_
    refine lv_istore (lv' := [(5, .int (nI 0)), (4, .int (nI 0)), (0, .ref qm), (1, .int (nI 0)), (2, .int (nI 0)), (3, .int (nI 5))]) hx hb dM_line_34 hl (by decide) rfl (fun ls hl => ?_)
    refine lv_iload hx hb dM_line_36 (lv_at hl 1 rfl) ?_
    refine lv_if_le (tgt := 57) hx hb dM_line_38 rfl (fun _ => ?_) (fun h38 => (by revert h38; first | decide | exact fun z => absurd z (by decide) | exact fun z => z.elim (by decide)))
    refine lv_iload hx hb dM_line_57 (lv_at hl 0 rfl) ?_
    refine lv_if_eq (tgt := 66) hx hb dM_line_59 rfl (fun _ => ?_) (fun h59 => (by revert h59; first | decide | exact fun z => absurd z (by decide) | exact fun z => z.elim (by decide)))
    refine lv_aload_n hx hb dM_line_66 rfl (lv_at hl 2 rfl) ?_
    refine k_i (ws2 := fun u => [(qm, .inr (6, [.int (nI th), .int (nI ul), .ref xt, .int (nI (u)), .ref xh, .ref xi, .ref xl, .ref xo, .ref xg, .ref xd, .int (zB ld), .ref xs, .int (nI stt), .int (nI sts), .int (nI drw), .ref xn, .ref xb, .ref xv, .int (nI bd), .int (nI rd)])), (xt, aI G 400 tx), (xh, aI G 5 hh)]) (wr := [(xh, aI G 5 hh)]) (k_runV (n := 0) (As := []) (rest := []) hx hb hml hown htb hP hD hK hS hA hE (k_M_number l G H.size qm xt xh xi xl xo xg xd xs xn xb xv th ul pt ld stt sts drw bd rd tx (show ul ≤ 400 from by omega) (show pt ≤ ul from by omega) (show ∀ j, tx j < 128 from by omega)) b772 b774 s34 b7 b775 (by decide +kernel) rfl rfl ⟨by rw [hRf]; exact Nat.le_of_ble_eq_true rfl, by rw [hRl]; exact Nat.le_of_ble_eq_true rfl⟩ [0, 1] rfl (by decide) 0 rfl rfl rfl rfl hl.1 rfl (Nat.le_of_ble_eq_true rfl) dM_line_67 ⟨Nat.zero_le _, Nat.zero_le _⟩) hP hD hS hA [0, 1] [2] [1, 2, 0] rfl rfl (by decide) (by decide) (fun u => rfl) (by decide) (fun r u H locs hw hP hD hS => ?_)
    rcases hw with ⟨v67, z67, hc67_e, hc67_b, rfl, rfl⟩ | ⟨z67, hc67_e, hc67_b, rfl, rfl⟩
    · skip
      have hP : va_P (gD G) vC [(qm, .inr (6, [.int (nI th), .int (nI ul), .ref xt, .int (nI z67), .ref xh, .ref xi, .ref xl, .ref xo, .ref xg, .ref xd, .int (zB ld), .ref xs, .int (nI stt), .int (nI sts), .int (nI drw), .ref xn, .ref xb, .ref xv, .int (nI bd), .int (nI rd)])), (xt, aI G 400 tx), (xh, aI G 5 hh)] H := hP
      have hD : va_D A [(qm, .inr (6, [.int (nI th), .int (nI ul), .ref xt, .int (nI z67), .ref xh, .ref xi, .ref xl, .ref xo, .ref xg, .ref xd, .int (zB ld), .ref xs, .int (nI stt), .int (nI sts), .int (nI drw), .ref xn, .ref xb, .ref xv, .int (nI bd), .int (nI rd)])), (xt, aI G 400 tx), (xh, aI G 5 hh)] := hD
      refine lv_istore (lv' := [(6, .int (nI v67)), (5, .int (nI 0)), (4, .int (nI 0)), (0, .ref qm), (1, .int (nI 0)), (2, .int (nI 0)), (3, .int (nI 5))]) hx hb dM_line_70 hl (by decide) rfl (fun ls hl => ?_)
      refine lv_iload hx hb dM_line_72 (lv_at hl 0 rfl) ?_
      refine lv_if_ge (tgt := 79) hx hb dM_line_74 rfl (fun h74 => ?_) (fun h74 => ?_)
      · have h74 : 0 ≤ v67 := (nI_leI (a := 0) (b := v67) (by omega) (by omega)).mp h74
        refine lv_iload_n hx hb dM_line_79 rfl (lv_at hl 4 rfl) ?_
        refine lv_if_ne (tgt := 95) hx hb dM_line_80 rfl (fun h80 => (by revert h80; first | decide | exact fun z => absurd z (by decide) | exact fun z => z.elim (by decide))) (fun _ => ?_)
        refine lv_aload_n hx hb dM_line_83 rfl (lv_at hl 3 rfl) ?_
        refine va_get (D := gD G) (ci := 6) (v := .ref xh) (C := "CircuitProverModel") (T := TM) (N := 20) hx hb htb inM hown hK hP 0 rfl rfl 4 (by decide) (htb _ b675) (fun _ h9 => h9) rfl dM_line_84 ?_
        refine lv_iload hx hb dM_line_87 (lv_at hl 2 rfl) ?_
        refine lv_iload hx hb dM_line_89 (lv_at hl 0 rfl) ?_
        refine k_iast hx hb hK hP hD hS 2 rfl (k := 0) (v := v67) (by omega) (by decide) dM_line_91 (fun H locs hP hD hS => ?_)
        have hP : va_P (gD G) vC [(qm, .inr (6, [.int (nI th), .int (nI ul), .ref xt, .int (nI z67), .ref xh, .ref xi, .ref xl, .ref xo, .ref xg, .ref xd, .int (zB ld), .ref xs, .int (nI stt), .int (nI sts), .int (nI drw), .ref xn, .ref xb, .ref xv, .int (nI bd), .int (nI rd)])), (xt, aI G 400 tx), (xh, aI G 5 (va_up hh 0 v67))] H := hP
        have hD : va_D A [(qm, .inr (6, [.int (nI th), .int (nI ul), .ref xt, .int (nI z67), .ref xh, .ref xi, .ref xl, .ref xo, .ref xg, .ref xd, .int (zB ld), .ref xs, .int (nI stt), .int (nI sts), .int (nI drw), .ref xn, .ref xb, .ref xv, .int (nI bd), .int (nI rd)])), (xt, aI G 400 tx), (xh, aI G 5 (va_up hh 0 v67))] := hD
        refine lv_goto (tgt := 161) hx hb dM_line_92 rfl ?_
        refine lv_iinc (v := nI 1) (lv' := [(4, .int (nI 1)), (6, .int (nI v67)), (5, .int (nI 0)), (0, .ref qm), (1, .int (nI 0)), (2, .int (nI 0)), (3, .int (nI 5))]) hx hb dM_line_161 hl (k := 2) rfl (nI_add _ 1) (by decide) rfl (fun ls hl => ?_)
        refine lv_goto (tgt := 3) hx hb dM_line_164 rfl ?_
        refine lv_iload hx hb dM_line_3 (lv_at hl 0 rfl) ?_
        refine lv_iload_n hx hb dM_line_5 rfl (lv_at hl 6 rfl) ?_
        refine lv_icmp_ge (tgt := 167) hx hb dM_line_6 rfl (fun h6 => (by revert h6; first | decide | exact fun z => absurd z (by decide) | exact fun z => z.elim (by decide))) (fun _ => ?_)
        refine lv_iload_n hx hb dM_line_9 rfl (lv_at hl 4 rfl) ?_
        refine lv_iconst (v := nI 2) hx hb dM_line_10 (by decide) ?_
        refine lv_icmp_ne (tgt := 33) hx hb dM_line_11 rfl (fun _ => ?_) (fun h11 => (by revert h11; first | decide | exact fun z => absurd z (by decide) | exact fun z => z.elim (by decide)))
        refine lv_iconst (v := nI 0) hx hb dM_line_33 (by decide) ?_
        refine lv_istore (lv' := [(5, .int (nI 0)), (4, .int (nI 1)), (6, .int (nI v67)), (0, .ref qm), (1, .int (nI 0)), (2, .int (nI 0)), (3, .int (nI 5))]) hx hb dM_line_34 hl (by decide) rfl (fun ls hl => ?_)
        refine lv_iload hx hb dM_line_36 (lv_at hl 1 rfl) ?_
        refine lv_if_le (tgt := 57) hx hb dM_line_38 rfl (fun h38 => (by revert h38; first | decide | exact fun z => absurd z (by decide) | exact fun z => z.elim (by decide))) (fun _ => ?_)
        refine lv_iload hx hb dM_line_41 (lv_at hl 0 rfl) ?_
        refine lv_if_ne (tgt := 57) hx hb dM_line_43 rfl (fun h43 => (by revert h43; first | decide | exact fun z => absurd z (by decide) | exact fun z => z.elim (by decide))) (fun _ => ?_)
        refine lv_aload_n hx hb dM_line_46 rfl (lv_at hl 3 rfl) ?_
        refine lv_bipush (v := nI 32) hx hb dM_line_47 (by decide) ?_
        refine k_i (ws2 := fun u => [(qm, .inr (6, [.int (nI th), .int (nI ul), .ref xt, .int (nI (u)), .ref xh, .ref xi, .ref xl, .ref xo, .ref xg, .ref xd, .int (zB ld), .ref xs, .int (nI stt), .int (nI sts), .int (nI drw), .ref xn, .ref xb, .ref xv, .int (nI bd), .int (nI rd)])), (xt, aI G 400 tx), (xh, aI G 5 (va_up hh 0 v67))]) (wr := [(xh, aI G 5 (va_up hh 0 v67))]) (k_runV (n := 1) (As := [.int (nI 32)]) (rest := []) hx hb hml hown htb hP hD hK hS hA hE (k_M_eat l G H.size qm xt xh xi xl xo xg xd xs xn xb xv th ul z67 ld stt sts drw bd rd tx 32 (show ul ≤ 400 from by omega) (show z67 ≤ ul from by omega) (show ∀ j, tx j < 128 from by omega) (show 0 < 32 ∧ 32 < 128 from by omega)) b760 b762 s31 b7 b763 (by decide +kernel) rfl rfl ⟨by rw [hRf]; exact Nat.le_of_ble_eq_true rfl, by rw [hRl]; exact Nat.le_of_ble_eq_true rfl⟩ [0, 1] rfl (by decide) 0 rfl rfl rfl rfl hl.1 rfl (Nat.le_of_ble_eq_true rfl) dM_line_49 ⟨Nat.zero_le _, Nat.zero_le _⟩) hP hD hS hA [0, 1] [2] [1, 2, 0] rfl rfl (by decide) (by decide) (fun u => rfl) (by decide) (fun r u H locs hw hP hD hS => ?_)
        rcases hw with ⟨hc49_e, hc49_b, rfl, rfl⟩ | ⟨hc49_e, rfl, rfl⟩
        · skip
          have hP : va_P (gD G) vC [(qm, .inr (6, [.int (nI th), .int (nI ul), .ref xt, .int (nI (z67 + 1)), .ref xh, .ref xi, .ref xl, .ref xo, .ref xg, .ref xd, .int (zB ld), .ref xs, .int (nI stt), .int (nI sts), .int (nI drw), .ref xn, .ref xb, .ref xv, .int (nI bd), .int (nI rd)])), (xt, aI G 400 tx), (xh, aI G 5 (va_up hh 0 v67))] H := hP
          have hD : va_D A [(qm, .inr (6, [.int (nI th), .int (nI ul), .ref xt, .int (nI (z67 + 1)), .ref xh, .ref xi, .ref xl, .ref xo, .ref xg, .ref xd, .int (zB ld), .ref xs, .int (nI stt), .int (nI sts), .int (nI drw), .ref xn, .ref xb, .ref xv, .int (nI bd), .int (nI rd)])), (xt, aI G 400 tx), (xh, aI G 5 (va_up hh 0 v67))] := hD
          refine lv_if_ne (tgt := 57) hx hb dM_line_52 rfl (fun _ => ?_) (fun h52 => (by revert h52; first | decide | exact fun z => absurd z (by decide) | exact fun z => z.elim (by decide)))
          refine lv_iload hx hb dM_line_57 (lv_at hl 0 rfl) ?_
          refine lv_if_eq (tgt := 66) hx hb dM_line_59 rfl (fun _ => ?_) (fun h59 => (by revert h59; first | decide | exact fun z => absurd z (by decide) | exact fun z => z.elim (by decide)))
          refine lv_aload_n hx hb dM_line_66 rfl (lv_at hl 3 rfl) ?_
          refine k_i (ws2 := fun u => [(qm, .inr (6, [.int (nI th), .int (nI ul), .ref xt, .int (nI (u)), .ref xh, .ref xi, .ref xl, .ref xo, .ref xg, .ref xd, .int (zB ld), .ref xs, .int (nI stt), .int (nI sts), .int (nI drw), .ref xn, .ref xb, .ref xv, .int (nI bd), .int (nI rd)])), (xt, aI G 400 tx), (xh, aI G 5 (va_up hh 0 v67))]) (wr := [(xh, aI G 5 (va_up hh 0 v67))]) (k_runV (n := 0) (As := []) (rest := []) hx hb hml hown htb hP hD hK hS hA hE (k_M_number l G H.size qm xt xh xi xl xo xg xd xs xn xb xv th ul (z67 + 1) ld stt sts drw bd rd tx (show ul ≤ 400 from by omega) (show (z67 + 1) ≤ ul from by omega) (show ∀ j, tx j < 128 from by omega)) b772 b774 s34 b7 b775 (by decide +kernel) rfl rfl ⟨by rw [hRf]; exact Nat.le_of_ble_eq_true rfl, by rw [hRl]; exact Nat.le_of_ble_eq_true rfl⟩ [0, 1] rfl (by decide) 0 rfl rfl rfl rfl hl.1 rfl (Nat.le_of_ble_eq_true rfl) dM_line_67 ⟨Nat.zero_le _, Nat.zero_le _⟩) hP hD hS hA [0, 1] [2] [1, 2, 0] rfl rfl (by decide) (by decide) (fun u => rfl) (by decide) (fun r u H locs hw hP hD hS => ?_)
          rcases hw with ⟨v67_2, z67_2, hc67_2_e, hc67_2_b, rfl, rfl⟩ | ⟨z67_2, hc67_2_e, hc67_2_b, rfl, rfl⟩
          · skip
            have hP : va_P (gD G) vC [(qm, .inr (6, [.int (nI th), .int (nI ul), .ref xt, .int (nI z67_2), .ref xh, .ref xi, .ref xl, .ref xo, .ref xg, .ref xd, .int (zB ld), .ref xs, .int (nI stt), .int (nI sts), .int (nI drw), .ref xn, .ref xb, .ref xv, .int (nI bd), .int (nI rd)])), (xt, aI G 400 tx), (xh, aI G 5 (va_up hh 0 v67))] H := hP
            have hD : va_D A [(qm, .inr (6, [.int (nI th), .int (nI ul), .ref xt, .int (nI z67_2), .ref xh, .ref xi, .ref xl, .ref xo, .ref xg, .ref xd, .int (zB ld), .ref xs, .int (nI stt), .int (nI sts), .int (nI drw), .ref xn, .ref xb, .ref xv, .int (nI bd), .int (nI rd)])), (xt, aI G 400 tx), (xh, aI G 5 (va_up hh 0 v67))] := hD
            refine lv_istore (lv' := [(6, .int (nI v67_2)), (5, .int (nI 0)), (4, .int (nI 1)), (0, .ref qm), (1, .int (nI 0)), (2, .int (nI 0)), (3, .int (nI 5))]) hx hb dM_line_70 hl (by decide) rfl (fun ls hl => ?_)
            refine lv_iload hx hb dM_line_72 (lv_at hl 0 rfl) ?_
            refine lv_if_ge (tgt := 79) hx hb dM_line_74 rfl (fun h74 => ?_) (fun h74 => ?_)
            · have h74 : 0 ≤ v67_2 := (nI_leI (a := 0) (b := v67_2) (by omega) (by omega)).mp h74
              refine lv_iload_n hx hb dM_line_79 rfl (lv_at hl 4 rfl) ?_
              refine lv_if_ne (tgt := 95) hx hb dM_line_80 rfl (fun h80 => (by revert h80; first | decide | exact fun z => absurd z (by decide) | exact fun z => z.elim (by decide))) (fun _ => ?_)
              refine lv_aload_n hx hb dM_line_83 rfl (lv_at hl 3 rfl) ?_
              refine va_get (D := gD G) (ci := 6) (v := .ref xh) (C := "CircuitProverModel") (T := TM) (N := 20) hx hb htb inM hown hK hP 0 rfl rfl 4 (by decide) (htb _ b675) (fun _ h9 => h9) rfl dM_line_84 ?_
              refine lv_iload hx hb dM_line_87 (lv_at hl 2 rfl) ?_
              refine lv_iload hx hb dM_line_89 (lv_at hl 0 rfl) ?_
              refine k_iast hx hb hK hP hD hS 2 rfl (k := 1) (v := v67_2) (by omega) (by decide) dM_line_91 (fun H locs hP hD hS => ?_)
              have hP : va_P (gD G) vC [(qm, .inr (6, [.int (nI th), .int (nI ul), .ref xt, .int (nI z67_2), .ref xh, .ref xi, .ref xl, .ref xo, .ref xg, .ref xd, .int (zB ld), .ref xs, .int (nI stt), .int (nI sts), .int (nI drw), .ref xn, .ref xb, .ref xv, .int (nI bd), .int (nI rd)])), (xt, aI G 400 tx), (xh, aI G 5 (va_up (va_up hh 0 v67) 1 v67_2))] H := hP
              have hD : va_D A [(qm, .inr (6, [.int (nI th), .int (nI ul), .ref xt, .int (nI z67_2), .ref xh, .ref xi, .ref xl, .ref xo, .ref xg, .ref xd, .int (zB ld), .ref xs, .int (nI stt), .int (nI sts), .int (nI drw), .ref xn, .ref xb, .ref xv, .int (nI bd), .int (nI rd)])), (xt, aI G 400 tx), (xh, aI G 5 (va_up (va_up hh 0 v67) 1 v67_2))] := hD
              refine lv_goto (tgt := 161) hx hb dM_line_92 rfl ?_
              refine lv_iinc (v := nI 2) (lv' := [(4, .int (nI 2)), (6, .int (nI v67_2)), (5, .int (nI 0)), (0, .ref qm), (1, .int (nI 0)), (2, .int (nI 0)), (3, .int (nI 5))]) hx hb dM_line_161 hl (k := 2) rfl (nI_add _ 1) (by decide) rfl (fun ls hl => ?_)
              refine lv_goto (tgt := 3) hx hb dM_line_164 rfl ?_
              refine lv_iload hx hb dM_line_3 (lv_at hl 0 rfl) ?_
              refine lv_iload_n hx hb dM_line_5 rfl (lv_at hl 6 rfl) ?_
              refine lv_icmp_ge (tgt := 167) hx hb dM_line_6 rfl (fun h6 => (by revert h6; first | decide | exact fun z => absurd z (by decide) | exact fun z => z.elim (by decide))) (fun _ => ?_)
              refine lv_iload_n hx hb dM_line_9 rfl (lv_at hl 4 rfl) ?_
              refine lv_iconst (v := nI 2) hx hb dM_line_10 (by decide) ?_
              refine lv_icmp_ne (tgt := 33) hx hb dM_line_11 rfl (fun _ => ?_) (fun h11 => (by revert h11; first | decide | exact fun z => absurd z (by decide) | exact fun z => z.elim (by decide)))
              refine lv_iconst (v := nI 0) hx hb dM_line_33 (by decide) ?_
              refine lv_istore (lv' := [(5, .int (nI 0)), (4, .int (nI 2)), (6, .int (nI v67_2)), (0, .ref qm), (1, .int (nI 0)), (2, .int (nI 0)), (3, .int (nI 5))]) hx hb dM_line_34 hl (by decide) rfl (fun ls hl => ?_)
              refine lv_iload hx hb dM_line_36 (lv_at hl 1 rfl) ?_
              refine lv_if_le (tgt := 57) hx hb dM_line_38 rfl (fun h38 => (by revert h38; first | decide | exact fun z => absurd z (by decide) | exact fun z => z.elim (by decide))) (fun _ => ?_)
              refine lv_iload hx hb dM_line_41 (lv_at hl 0 rfl) ?_
              refine lv_if_ne (tgt := 57) hx hb dM_line_43 rfl (fun h43 => (by revert h43; first | decide | exact fun z => absurd z (by decide) | exact fun z => z.elim (by decide))) (fun _ => ?_)
              refine lv_aload_n hx hb dM_line_46 rfl (lv_at hl 3 rfl) ?_
              refine lv_bipush (v := nI 32) hx hb dM_line_47 (by decide) ?_
              refine k_i (ws2 := fun u => [(qm, .inr (6, [.int (nI th), .int (nI ul), .ref xt, .int (nI (u)), .ref xh, .ref xi, .ref xl, .ref xo, .ref xg, .ref xd, .int (zB ld), .ref xs, .int (nI stt), .int (nI sts), .int (nI drw), .ref xn, .ref xb, .ref xv, .int (nI bd), .int (nI rd)])), (xt, aI G 400 tx), (xh, aI G 5 (va_up (va_up hh 0 v67) 1 v67_2))]) (wr := [(xh, aI G 5 (va_up (va_up hh 0 v67) 1 v67_2))]) (k_runV (n := 1) (As := [.int (nI 32)]) (rest := []) hx hb hml hown htb hP hD hK hS hA hE (k_M_eat l G H.size qm xt xh xi xl xo xg xd xs xn xb xv th ul z67_2 ld stt sts drw bd rd tx 32 (show ul ≤ 400 from by omega) (show z67_2 ≤ ul from by omega) (show ∀ j, tx j < 128 from by omega) (show 0 < 32 ∧ 32 < 128 from by omega)) b760 b762 s31 b7 b763 (by decide +kernel) rfl rfl ⟨by rw [hRf]; exact Nat.le_of_ble_eq_true rfl, by rw [hRl]; exact Nat.le_of_ble_eq_true rfl⟩ [0, 1] rfl (by decide) 0 rfl rfl rfl rfl hl.1 rfl (Nat.le_of_ble_eq_true rfl) dM_line_49 ⟨Nat.zero_le _, Nat.zero_le _⟩) hP hD hS hA [0, 1] [2] [1, 2, 0] rfl rfl (by decide) (by decide) (fun u => rfl) (by decide) (fun r u H locs hw hP hD hS => ?_)
              rcases hw with ⟨hc49_2_e, hc49_2_b, rfl, rfl⟩ | ⟨hc49_2_e, rfl, rfl⟩
              · skip
                have hP : va_P (gD G) vC [(qm, .inr (6, [.int (nI th), .int (nI ul), .ref xt, .int (nI (z67_2 + 1)), .ref xh, .ref xi, .ref xl, .ref xo, .ref xg, .ref xd, .int (zB ld), .ref xs, .int (nI stt), .int (nI sts), .int (nI drw), .ref xn, .ref xb, .ref xv, .int (nI bd), .int (nI rd)])), (xt, aI G 400 tx), (xh, aI G 5 (va_up (va_up hh 0 v67) 1 v67_2))] H := hP
                have hD : va_D A [(qm, .inr (6, [.int (nI th), .int (nI ul), .ref xt, .int (nI (z67_2 + 1)), .ref xh, .ref xi, .ref xl, .ref xo, .ref xg, .ref xd, .int (zB ld), .ref xs, .int (nI stt), .int (nI sts), .int (nI drw), .ref xn, .ref xb, .ref xv, .int (nI bd), .int (nI rd)])), (xt, aI G 400 tx), (xh, aI G 5 (va_up (va_up hh 0 v67) 1 v67_2))] := hD
                refine lv_if_ne (tgt := 57) hx hb dM_line_52 rfl (fun _ => ?_) (fun h52 => (by revert h52; first | decide | exact fun z => absurd z (by decide) | exact fun z => z.elim (by decide)))
                refine lv_iload hx hb dM_line_57 (lv_at hl 0 rfl) ?_
                refine lv_if_eq (tgt := 66) hx hb dM_line_59 rfl (fun _ => ?_) (fun h59 => (by revert h59; first | decide | exact fun z => absurd z (by decide) | exact fun z => z.elim (by decide)))
                refine lv_aload_n hx hb dM_line_66 rfl (lv_at hl 3 rfl) ?_
                refine k_i (ws2 := fun u => [(qm, .inr (6, [.int (nI th), .int (nI ul), .ref xt, .int (nI (u)), .ref xh, .ref xi, .ref xl, .ref xo, .ref xg, .ref xd, .int (zB ld), .ref xs, .int (nI stt), .int (nI sts), .int (nI drw), .ref xn, .ref xb, .ref xv, .int (nI bd), .int (nI rd)])), (xt, aI G 400 tx), (xh, aI G 5 (va_up (va_up hh 0 v67) 1 v67_2))]) (wr := [(xh, aI G 5 (va_up (va_up hh 0 v67) 1 v67_2))]) (k_runV (n := 0) (As := []) (rest := []) hx hb hml hown htb hP hD hK hS hA hE (k_M_number l G H.size qm xt xh xi xl xo xg xd xs xn xb xv th ul (z67_2 + 1) ld stt sts drw bd rd tx (show ul ≤ 400 from by omega) (show (z67_2 + 1) ≤ ul from by omega) (show ∀ j, tx j < 128 from by omega)) b772 b774 s34 b7 b775 (by decide +kernel) rfl rfl ⟨by rw [hRf]; exact Nat.le_of_ble_eq_true rfl, by rw [hRl]; exact Nat.le_of_ble_eq_true rfl⟩ [0, 1] rfl (by decide) 0 rfl rfl rfl rfl hl.1 rfl (Nat.le_of_ble_eq_true rfl) dM_line_67 ⟨Nat.zero_le _, Nat.zero_le _⟩) hP hD hS hA [0, 1] [2] [1, 2, 0] rfl rfl (by decide) (by decide) (fun u => rfl) (by decide) (fun r u H locs hw hP hD hS => ?_)
                rcases hw with ⟨v67_3, z67_3, hc67_3_e, hc67_3_b, rfl, rfl⟩ | ⟨z67_3, hc67_3_e, hc67_3_b, rfl, rfl⟩
                · skip
                  have hP : va_P (gD G) vC [(qm, .inr (6, [.int (nI th), .int (nI ul), .ref xt, .int (nI z67_3), .ref xh, .ref xi, .ref xl, .ref xo, .ref xg, .ref xd, .int (zB ld), .ref xs, .int (nI stt), .int (nI sts), .int (nI drw), .ref xn, .ref xb, .ref xv, .int (nI bd), .int (nI rd)])), (xt, aI G 400 tx), (xh, aI G 5 (va_up (va_up hh 0 v67) 1 v67_2))] H := hP
                  have hD : va_D A [(qm, .inr (6, [.int (nI th), .int (nI ul), .ref xt, .int (nI z67_3), .ref xh, .ref xi, .ref xl, .ref xo, .ref xg, .ref xd, .int (zB ld), .ref xs, .int (nI stt), .int (nI sts), .int (nI drw), .ref xn, .ref xb, .ref xv, .int (nI bd), .int (nI rd)])), (xt, aI G 400 tx), (xh, aI G 5 (va_up (va_up hh 0 v67) 1 v67_2))] := hD
                  refine lv_istore (lv' := [(6, .int (nI v67_3)), (5, .int (nI 0)), (4, .int (nI 2)), (0, .ref qm), (1, .int (nI 0)), (2, .int (nI 0)), (3, .int (nI 5))]) hx hb dM_line_70 hl (by decide) rfl (fun ls hl => ?_)
                  refine lv_iload hx hb dM_line_72 (lv_at hl 0 rfl) ?_
                  refine lv_if_ge (tgt := 79) hx hb dM_line_74 rfl (fun h74 => ?_) (fun h74 => ?_)
                  · have h74 : 0 ≤ v67_3 := (nI_leI (a := 0) (b := v67_3) (by omega) (by omega)).mp h74
                    refine lv_iload_n hx hb dM_line_79 rfl (lv_at hl 4 rfl) ?_
                    refine lv_if_ne (tgt := 95) hx hb dM_line_80 rfl (fun h80 => (by revert h80; first | decide | exact fun z => absurd z (by decide) | exact fun z => z.elim (by decide))) (fun _ => ?_)
                    refine lv_aload_n hx hb dM_line_83 rfl (lv_at hl 3 rfl) ?_
                    refine va_get (D := gD G) (ci := 6) (v := .ref xh) (C := "CircuitProverModel") (T := TM) (N := 20) hx hb htb inM hown hK hP 0 rfl rfl 4 (by decide) (htb _ b675) (fun _ h9 => h9) rfl dM_line_84 ?_
                    refine lv_iload hx hb dM_line_87 (lv_at hl 2 rfl) ?_
                    refine lv_iload hx hb dM_line_89 (lv_at hl 0 rfl) ?_
                    refine k_iast hx hb hK hP hD hS 2 rfl (k := 2) (v := v67_3) (by omega) (by decide) dM_line_91 (fun H locs hP hD hS => ?_)
                    have hP : va_P (gD G) vC [(qm, .inr (6, [.int (nI th), .int (nI ul), .ref xt, .int (nI z67_3), .ref xh, .ref xi, .ref xl, .ref xo, .ref xg, .ref xd, .int (zB ld), .ref xs, .int (nI stt), .int (nI sts), .int (nI drw), .ref xn, .ref xb, .ref xv, .int (nI bd), .int (nI rd)])), (xt, aI G 400 tx), (xh, aI G 5 (va_up (va_up (va_up hh 0 v67) 1 v67_2) 2 v67_3))] H := hP
                    have hD : va_D A [(qm, .inr (6, [.int (nI th), .int (nI ul), .ref xt, .int (nI z67_3), .ref xh, .ref xi, .ref xl, .ref xo, .ref xg, .ref xd, .int (zB ld), .ref xs, .int (nI stt), .int (nI sts), .int (nI drw), .ref xn, .ref xb, .ref xv, .int (nI bd), .int (nI rd)])), (xt, aI G 400 tx), (xh, aI G 5 (va_up (va_up (va_up hh 0 v67) 1 v67_2) 2 v67_3))] := hD
                    refine lv_goto (tgt := 161) hx hb dM_line_92 rfl ?_
                    refine lv_iinc (v := nI 3) (lv' := [(4, .int (nI 3)), (6, .int (nI v67_3)), (5, .int (nI 0)), (0, .ref qm), (1, .int (nI 0)), (2, .int (nI 0)), (3, .int (nI 5))]) hx hb dM_line_161 hl (k := 2) rfl (nI_add _ 1) (by decide) rfl (fun ls hl => ?_)
                    refine lv_goto (tgt := 3) hx hb dM_line_164 rfl ?_
                    refine lv_iload hx hb dM_line_3 (lv_at hl 0 rfl) ?_
                    refine lv_iload_n hx hb dM_line_5 rfl (lv_at hl 6 rfl) ?_
                    refine lv_icmp_ge (tgt := 167) hx hb dM_line_6 rfl (fun h6 => (by revert h6; first | decide | exact fun z => absurd z (by decide) | exact fun z => z.elim (by decide))) (fun _ => ?_)
                    refine lv_iload_n hx hb dM_line_9 rfl (lv_at hl 4 rfl) ?_
                    refine lv_iconst (v := nI 2) hx hb dM_line_10 (by decide) ?_
                    refine lv_icmp_ne (tgt := 33) hx hb dM_line_11 rfl (fun _ => ?_) (fun h11 => (by revert h11; first | decide | exact fun z => absurd z (by decide) | exact fun z => z.elim (by decide)))
                    refine lv_iconst (v := nI 0) hx hb dM_line_33 (by decide) ?_
                    refine lv_istore (lv' := [(5, .int (nI 0)), (4, .int (nI 3)), (6, .int (nI v67_3)), (0, .ref qm), (1, .int (nI 0)), (2, .int (nI 0)), (3, .int (nI 5))]) hx hb dM_line_34 hl (by decide) rfl (fun ls hl => ?_)
                    refine lv_iload hx hb dM_line_36 (lv_at hl 1 rfl) ?_
                    refine lv_if_le (tgt := 57) hx hb dM_line_38 rfl (fun h38 => (by revert h38; first | decide | exact fun z => absurd z (by decide) | exact fun z => z.elim (by decide))) (fun _ => ?_)
                    refine lv_iload hx hb dM_line_41 (lv_at hl 0 rfl) ?_
                    refine lv_if_ne (tgt := 57) hx hb dM_line_43 rfl (fun h43 => (by revert h43; first | decide | exact fun z => absurd z (by decide) | exact fun z => z.elim (by decide))) (fun _ => ?_)
                    refine lv_aload_n hx hb dM_line_46 rfl (lv_at hl 3 rfl) ?_
                    refine lv_bipush (v := nI 32) hx hb dM_line_47 (by decide) ?_
                    refine k_i (ws2 := fun u => [(qm, .inr (6, [.int (nI th), .int (nI ul), .ref xt, .int (nI (u)), .ref xh, .ref xi, .ref xl, .ref xo, .ref xg, .ref xd, .int (zB ld), .ref xs, .int (nI stt), .int (nI sts), .int (nI drw), .ref xn, .ref xb, .ref xv, .int (nI bd), .int (nI rd)])), (xt, aI G 400 tx), (xh, aI G 5 (va_up (va_up (va_up hh 0 v67) 1 v67_2) 2 v67_3))]) (wr := [(xh, aI G 5 (va_up (va_up (va_up hh 0 v67) 1 v67_2) 2 v67_3))]) (k_runV (n := 1) (As := [.int (nI 32)]) (rest := []) hx hb hml hown htb hP hD hK hS hA hE (k_M_eat l G H.size qm xt xh xi xl xo xg xd xs xn xb xv th ul z67_3 ld stt sts drw bd rd tx 32 (show ul ≤ 400 from by omega) (show z67_3 ≤ ul from by omega) (show ∀ j, tx j < 128 from by omega) (show 0 < 32 ∧ 32 < 128 from by omega)) b760 b762 s31 b7 b763 (by decide +kernel) rfl rfl ⟨by rw [hRf]; exact Nat.le_of_ble_eq_true rfl, by rw [hRl]; exact Nat.le_of_ble_eq_true rfl⟩ [0, 1] rfl (by decide) 0 rfl rfl rfl rfl hl.1 rfl (Nat.le_of_ble_eq_true rfl) dM_line_49 ⟨Nat.zero_le _, Nat.zero_le _⟩) hP hD hS hA [0, 1] [2] [1, 2, 0] rfl rfl (by decide) (by decide) (fun u => rfl) (by decide) (fun r u H locs hw hP hD hS => ?_)
                    rcases hw with ⟨hc49_3_e, hc49_3_b, rfl, rfl⟩ | ⟨hc49_3_e, rfl, rfl⟩
                    · skip
                      have hP : va_P (gD G) vC [(qm, .inr (6, [.int (nI th), .int (nI ul), .ref xt, .int (nI (z67_3 + 1)), .ref xh, .ref xi, .ref xl, .ref xo, .ref xg, .ref xd, .int (zB ld), .ref xs, .int (nI stt), .int (nI sts), .int (nI drw), .ref xn, .ref xb, .ref xv, .int (nI bd), .int (nI rd)])), (xt, aI G 400 tx), (xh, aI G 5 (va_up (va_up (va_up hh 0 v67) 1 v67_2) 2 v67_3))] H := hP
                      have hD : va_D A [(qm, .inr (6, [.int (nI th), .int (nI ul), .ref xt, .int (nI (z67_3 + 1)), .ref xh, .ref xi, .ref xl, .ref xo, .ref xg, .ref xd, .int (zB ld), .ref xs, .int (nI stt), .int (nI sts), .int (nI drw), .ref xn, .ref xb, .ref xv, .int (nI bd), .int (nI rd)])), (xt, aI G 400 tx), (xh, aI G 5 (va_up (va_up (va_up hh 0 v67) 1 v67_2) 2 v67_3))] := hD
                      refine lv_if_ne (tgt := 57) hx hb dM_line_52 rfl (fun _ => ?_) (fun h52 => (by revert h52; first | decide | exact fun z => absurd z (by decide) | exact fun z => z.elim (by decide)))
                      refine lv_iload hx hb dM_line_57 (lv_at hl 0 rfl) ?_
                      refine lv_if_eq (tgt := 66) hx hb dM_line_59 rfl (fun _ => ?_) (fun h59 => (by revert h59; first | decide | exact fun z => absurd z (by decide) | exact fun z => z.elim (by decide)))
                      refine lv_aload_n hx hb dM_line_66 rfl (lv_at hl 3 rfl) ?_
                      refine k_i (ws2 := fun u => [(qm, .inr (6, [.int (nI th), .int (nI ul), .ref xt, .int (nI (u)), .ref xh, .ref xi, .ref xl, .ref xo, .ref xg, .ref xd, .int (zB ld), .ref xs, .int (nI stt), .int (nI sts), .int (nI drw), .ref xn, .ref xb, .ref xv, .int (nI bd), .int (nI rd)])), (xt, aI G 400 tx), (xh, aI G 5 (va_up (va_up (va_up hh 0 v67) 1 v67_2) 2 v67_3))]) (wr := [(xh, aI G 5 (va_up (va_up (va_up hh 0 v67) 1 v67_2) 2 v67_3))]) (k_runV (n := 0) (As := []) (rest := []) hx hb hml hown htb hP hD hK hS hA hE (k_M_number l G H.size qm xt xh xi xl xo xg xd xs xn xb xv th ul (z67_3 + 1) ld stt sts drw bd rd tx (show ul ≤ 400 from by omega) (show (z67_3 + 1) ≤ ul from by omega) (show ∀ j, tx j < 128 from by omega)) b772 b774 s34 b7 b775 (by decide +kernel) rfl rfl ⟨by rw [hRf]; exact Nat.le_of_ble_eq_true rfl, by rw [hRl]; exact Nat.le_of_ble_eq_true rfl⟩ [0, 1] rfl (by decide) 0 rfl rfl rfl rfl hl.1 rfl (Nat.le_of_ble_eq_true rfl) dM_line_67 ⟨Nat.zero_le _, Nat.zero_le _⟩) hP hD hS hA [0, 1] [2] [1, 2, 0] rfl rfl (by decide) (by decide) (fun u => rfl) (by decide) (fun r u H locs hw hP hD hS => ?_)
                      rcases hw with ⟨v67_4, z67_4, hc67_4_e, hc67_4_b, rfl, rfl⟩ | ⟨z67_4, hc67_4_e, hc67_4_b, rfl, rfl⟩
                      · skip
                        have hP : va_P (gD G) vC [(qm, .inr (6, [.int (nI th), .int (nI ul), .ref xt, .int (nI z67_4), .ref xh, .ref xi, .ref xl, .ref xo, .ref xg, .ref xd, .int (zB ld), .ref xs, .int (nI stt), .int (nI sts), .int (nI drw), .ref xn, .ref xb, .ref xv, .int (nI bd), .int (nI rd)])), (xt, aI G 400 tx), (xh, aI G 5 (va_up (va_up (va_up hh 0 v67) 1 v67_2) 2 v67_3))] H := hP
                        have hD : va_D A [(qm, .inr (6, [.int (nI th), .int (nI ul), .ref xt, .int (nI z67_4), .ref xh, .ref xi, .ref xl, .ref xo, .ref xg, .ref xd, .int (zB ld), .ref xs, .int (nI stt), .int (nI sts), .int (nI drw), .ref xn, .ref xb, .ref xv, .int (nI bd), .int (nI rd)])), (xt, aI G 400 tx), (xh, aI G 5 (va_up (va_up (va_up hh 0 v67) 1 v67_2) 2 v67_3))] := hD
                        refine lv_istore (lv' := [(6, .int (nI v67_4)), (5, .int (nI 0)), (4, .int (nI 3)), (0, .ref qm), (1, .int (nI 0)), (2, .int (nI 0)), (3, .int (nI 5))]) hx hb dM_line_70 hl (by decide) rfl (fun ls hl => ?_)
                        refine lv_iload hx hb dM_line_72 (lv_at hl 0 rfl) ?_
                        refine lv_if_ge (tgt := 79) hx hb dM_line_74 rfl (fun h74 => ?_) (fun h74 => ?_)
                        · have h74 : 0 ≤ v67_4 := (nI_leI (a := 0) (b := v67_4) (by omega) (by omega)).mp h74
                          refine lv_iload_n hx hb dM_line_79 rfl (lv_at hl 4 rfl) ?_
                          refine lv_if_ne (tgt := 95) hx hb dM_line_80 rfl (fun h80 => (by revert h80; first | decide | exact fun z => absurd z (by decide) | exact fun z => z.elim (by decide))) (fun _ => ?_)
                          refine lv_aload_n hx hb dM_line_83 rfl (lv_at hl 3 rfl) ?_
                          refine va_get (D := gD G) (ci := 6) (v := .ref xh) (C := "CircuitProverModel") (T := TM) (N := 20) hx hb htb inM hown hK hP 0 rfl rfl 4 (by decide) (htb _ b675) (fun _ h9 => h9) rfl dM_line_84 ?_
                          refine lv_iload hx hb dM_line_87 (lv_at hl 2 rfl) ?_
                          refine lv_iload hx hb dM_line_89 (lv_at hl 0 rfl) ?_
                          refine k_iast hx hb hK hP hD hS 2 rfl (k := 3) (v := v67_4) (by omega) (by decide) dM_line_91 (fun H locs hP hD hS => ?_)
                          have hP : va_P (gD G) vC [(qm, .inr (6, [.int (nI th), .int (nI ul), .ref xt, .int (nI z67_4), .ref xh, .ref xi, .ref xl, .ref xo, .ref xg, .ref xd, .int (zB ld), .ref xs, .int (nI stt), .int (nI sts), .int (nI drw), .ref xn, .ref xb, .ref xv, .int (nI bd), .int (nI rd)])), (xt, aI G 400 tx), (xh, aI G 5 (va_up (va_up (va_up (va_up hh 0 v67) 1 v67_2) 2 v67_3) 3 v67_4))] H := hP
                          have hD : va_D A [(qm, .inr (6, [.int (nI th), .int (nI ul), .ref xt, .int (nI z67_4), .ref xh, .ref xi, .ref xl, .ref xo, .ref xg, .ref xd, .int (zB ld), .ref xs, .int (nI stt), .int (nI sts), .int (nI drw), .ref xn, .ref xb, .ref xv, .int (nI bd), .int (nI rd)])), (xt, aI G 400 tx), (xh, aI G 5 (va_up (va_up (va_up (va_up hh 0 v67) 1 v67_2) 2 v67_3) 3 v67_4))] := hD
                          refine lv_goto (tgt := 161) hx hb dM_line_92 rfl ?_
                          refine lv_iinc (v := nI 4) (lv' := [(4, .int (nI 4)), (6, .int (nI v67_4)), (5, .int (nI 0)), (0, .ref qm), (1, .int (nI 0)), (2, .int (nI 0)), (3, .int (nI 5))]) hx hb dM_line_161 hl (k := 2) rfl (nI_add _ 1) (by decide) rfl (fun ls hl => ?_)
                          refine lv_goto (tgt := 3) hx hb dM_line_164 rfl ?_
                          refine lv_iload hx hb dM_line_3 (lv_at hl 0 rfl) ?_
                          refine lv_iload_n hx hb dM_line_5 rfl (lv_at hl 6 rfl) ?_
                          refine lv_icmp_ge (tgt := 167) hx hb dM_line_6 rfl (fun h6 => (by revert h6; first | decide | exact fun z => absurd z (by decide) | exact fun z => z.elim (by decide))) (fun _ => ?_)
                          refine lv_iload_n hx hb dM_line_9 rfl (lv_at hl 4 rfl) ?_
                          refine lv_iconst (v := nI 2) hx hb dM_line_10 (by decide) ?_
                          refine lv_icmp_ne (tgt := 33) hx hb dM_line_11 rfl (fun _ => ?_) (fun h11 => (by revert h11; first | decide | exact fun z => absurd z (by decide) | exact fun z => z.elim (by decide)))
                          refine lv_iconst (v := nI 0) hx hb dM_line_33 (by decide) ?_
                          refine lv_istore (lv' := [(5, .int (nI 0)), (4, .int (nI 4)), (6, .int (nI v67_4)), (0, .ref qm), (1, .int (nI 0)), (2, .int (nI 0)), (3, .int (nI 5))]) hx hb dM_line_34 hl (by decide) rfl (fun ls hl => ?_)
                          refine lv_iload hx hb dM_line_36 (lv_at hl 1 rfl) ?_
                          refine lv_if_le (tgt := 57) hx hb dM_line_38 rfl (fun h38 => (by revert h38; first | decide | exact fun z => absurd z (by decide) | exact fun z => z.elim (by decide))) (fun _ => ?_)
                          refine lv_iload hx hb dM_line_41 (lv_at hl 0 rfl) ?_
                          refine lv_if_ne (tgt := 57) hx hb dM_line_43 rfl (fun h43 => (by revert h43; first | decide | exact fun z => absurd z (by decide) | exact fun z => z.elim (by decide))) (fun _ => ?_)
                          refine lv_aload_n hx hb dM_line_46 rfl (lv_at hl 3 rfl) ?_
                          refine lv_bipush (v := nI 32) hx hb dM_line_47 (by decide) ?_
                          refine k_i (ws2 := fun u => [(qm, .inr (6, [.int (nI th), .int (nI ul), .ref xt, .int (nI (u)), .ref xh, .ref xi, .ref xl, .ref xo, .ref xg, .ref xd, .int (zB ld), .ref xs, .int (nI stt), .int (nI sts), .int (nI drw), .ref xn, .ref xb, .ref xv, .int (nI bd), .int (nI rd)])), (xt, aI G 400 tx), (xh, aI G 5 (va_up (va_up (va_up (va_up hh 0 v67) 1 v67_2) 2 v67_3) 3 v67_4))]) (wr := [(xh, aI G 5 (va_up (va_up (va_up (va_up hh 0 v67) 1 v67_2) 2 v67_3) 3 v67_4))]) (k_runV (n := 1) (As := [.int (nI 32)]) (rest := []) hx hb hml hown htb hP hD hK hS hA hE (k_M_eat l G H.size qm xt xh xi xl xo xg xd xs xn xb xv th ul z67_4 ld stt sts drw bd rd tx 32 (show ul ≤ 400 from by omega) (show z67_4 ≤ ul from by omega) (show ∀ j, tx j < 128 from by omega) (show 0 < 32 ∧ 32 < 128 from by omega)) b760 b762 s31 b7 b763 (by decide +kernel) rfl rfl ⟨by rw [hRf]; exact Nat.le_of_ble_eq_true rfl, by rw [hRl]; exact Nat.le_of_ble_eq_true rfl⟩ [0, 1] rfl (by decide) 0 rfl rfl rfl rfl hl.1 rfl (Nat.le_of_ble_eq_true rfl) dM_line_49 ⟨Nat.zero_le _, Nat.zero_le _⟩) hP hD hS hA [0, 1] [2] [1, 2, 0] rfl rfl (by decide) (by decide) (fun u => rfl) (by decide) (fun r u H locs hw hP hD hS => ?_)
                          rcases hw with ⟨hc49_4_e, hc49_4_b, rfl, rfl⟩ | ⟨hc49_4_e, rfl, rfl⟩
                          · skip
                            have hP : va_P (gD G) vC [(qm, .inr (6, [.int (nI th), .int (nI ul), .ref xt, .int (nI (z67_4 + 1)), .ref xh, .ref xi, .ref xl, .ref xo, .ref xg, .ref xd, .int (zB ld), .ref xs, .int (nI stt), .int (nI sts), .int (nI drw), .ref xn, .ref xb, .ref xv, .int (nI bd), .int (nI rd)])), (xt, aI G 400 tx), (xh, aI G 5 (va_up (va_up (va_up (va_up hh 0 v67) 1 v67_2) 2 v67_3) 3 v67_4))] H := hP
                            have hD : va_D A [(qm, .inr (6, [.int (nI th), .int (nI ul), .ref xt, .int (nI (z67_4 + 1)), .ref xh, .ref xi, .ref xl, .ref xo, .ref xg, .ref xd, .int (zB ld), .ref xs, .int (nI stt), .int (nI sts), .int (nI drw), .ref xn, .ref xb, .ref xv, .int (nI bd), .int (nI rd)])), (xt, aI G 400 tx), (xh, aI G 5 (va_up (va_up (va_up (va_up hh 0 v67) 1 v67_2) 2 v67_3) 3 v67_4))] := hD
                            refine lv_if_ne (tgt := 57) hx hb dM_line_52 rfl (fun _ => ?_) (fun h52 => (by revert h52; first | decide | exact fun z => absurd z (by decide) | exact fun z => z.elim (by decide)))
                            refine lv_iload hx hb dM_line_57 (lv_at hl 0 rfl) ?_
                            refine lv_if_eq (tgt := 66) hx hb dM_line_59 rfl (fun _ => ?_) (fun h59 => (by revert h59; first | decide | exact fun z => absurd z (by decide) | exact fun z => z.elim (by decide)))
                            refine lv_aload_n hx hb dM_line_66 rfl (lv_at hl 3 rfl) ?_
                            refine k_i (ws2 := fun u => [(qm, .inr (6, [.int (nI th), .int (nI ul), .ref xt, .int (nI (u)), .ref xh, .ref xi, .ref xl, .ref xo, .ref xg, .ref xd, .int (zB ld), .ref xs, .int (nI stt), .int (nI sts), .int (nI drw), .ref xn, .ref xb, .ref xv, .int (nI bd), .int (nI rd)])), (xt, aI G 400 tx), (xh, aI G 5 (va_up (va_up (va_up (va_up hh 0 v67) 1 v67_2) 2 v67_3) 3 v67_4))]) (wr := [(xh, aI G 5 (va_up (va_up (va_up (va_up hh 0 v67) 1 v67_2) 2 v67_3) 3 v67_4))]) (k_runV (n := 0) (As := []) (rest := []) hx hb hml hown htb hP hD hK hS hA hE (k_M_number l G H.size qm xt xh xi xl xo xg xd xs xn xb xv th ul (z67_4 + 1) ld stt sts drw bd rd tx (show ul ≤ 400 from by omega) (show (z67_4 + 1) ≤ ul from by omega) (show ∀ j, tx j < 128 from by omega)) b772 b774 s34 b7 b775 (by decide +kernel) rfl rfl ⟨by rw [hRf]; exact Nat.le_of_ble_eq_true rfl, by rw [hRl]; exact Nat.le_of_ble_eq_true rfl⟩ [0, 1] rfl (by decide) 0 rfl rfl rfl rfl hl.1 rfl (Nat.le_of_ble_eq_true rfl) dM_line_67 ⟨Nat.zero_le _, Nat.zero_le _⟩) hP hD hS hA [0, 1] [2] [1, 2, 0] rfl rfl (by decide) (by decide) (fun u => rfl) (by decide) (fun r u H locs hw hP hD hS => ?_)
                            rcases hw with ⟨v67_5, z67_5, hc67_5_e, hc67_5_b, rfl, rfl⟩ | ⟨z67_5, hc67_5_e, hc67_5_b, rfl, rfl⟩
                            · skip
                              have hP : va_P (gD G) vC [(qm, .inr (6, [.int (nI th), .int (nI ul), .ref xt, .int (nI z67_5), .ref xh, .ref xi, .ref xl, .ref xo, .ref xg, .ref xd, .int (zB ld), .ref xs, .int (nI stt), .int (nI sts), .int (nI drw), .ref xn, .ref xb, .ref xv, .int (nI bd), .int (nI rd)])), (xt, aI G 400 tx), (xh, aI G 5 (va_up (va_up (va_up (va_up hh 0 v67) 1 v67_2) 2 v67_3) 3 v67_4))] H := hP
                              have hD : va_D A [(qm, .inr (6, [.int (nI th), .int (nI ul), .ref xt, .int (nI z67_5), .ref xh, .ref xi, .ref xl, .ref xo, .ref xg, .ref xd, .int (zB ld), .ref xs, .int (nI stt), .int (nI sts), .int (nI drw), .ref xn, .ref xb, .ref xv, .int (nI bd), .int (nI rd)])), (xt, aI G 400 tx), (xh, aI G 5 (va_up (va_up (va_up (va_up hh 0 v67) 1 v67_2) 2 v67_3) 3 v67_4))] := hD
                              refine lv_istore (lv' := [(6, .int (nI v67_5)), (5, .int (nI 0)), (4, .int (nI 4)), (0, .ref qm), (1, .int (nI 0)), (2, .int (nI 0)), (3, .int (nI 5))]) hx hb dM_line_70 hl (by decide) rfl (fun ls hl => ?_)
                              refine lv_iload hx hb dM_line_72 (lv_at hl 0 rfl) ?_
                              refine lv_if_ge (tgt := 79) hx hb dM_line_74 rfl (fun h74 => ?_) (fun h74 => ?_)
                              · have h74 : 0 ≤ v67_5 := (nI_leI (a := 0) (b := v67_5) (by omega) (by omega)).mp h74
                                refine lv_iload_n hx hb dM_line_79 rfl (lv_at hl 4 rfl) ?_
                                refine lv_if_ne (tgt := 95) hx hb dM_line_80 rfl (fun h80 => (by revert h80; first | decide | exact fun z => absurd z (by decide) | exact fun z => z.elim (by decide))) (fun _ => ?_)
                                refine lv_aload_n hx hb dM_line_83 rfl (lv_at hl 3 rfl) ?_
                                refine va_get (D := gD G) (ci := 6) (v := .ref xh) (C := "CircuitProverModel") (T := TM) (N := 20) hx hb htb inM hown hK hP 0 rfl rfl 4 (by decide) (htb _ b675) (fun _ h9 => h9) rfl dM_line_84 ?_
                                refine lv_iload hx hb dM_line_87 (lv_at hl 2 rfl) ?_
                                refine lv_iload hx hb dM_line_89 (lv_at hl 0 rfl) ?_
                                refine k_iast hx hb hK hP hD hS 2 rfl (k := 4) (v := v67_5) (by omega) (by decide) dM_line_91 (fun H locs hP hD hS => ?_)
                                have hP : va_P (gD G) vC [(qm, .inr (6, [.int (nI th), .int (nI ul), .ref xt, .int (nI z67_5), .ref xh, .ref xi, .ref xl, .ref xo, .ref xg, .ref xd, .int (zB ld), .ref xs, .int (nI stt), .int (nI sts), .int (nI drw), .ref xn, .ref xb, .ref xv, .int (nI bd), .int (nI rd)])), (xt, aI G 400 tx), (xh, aI G 5 (va_up (va_up (va_up (va_up (va_up hh 0 v67) 1 v67_2) 2 v67_3) 3 v67_4) 4 v67_5))] H := hP
                                have hD : va_D A [(qm, .inr (6, [.int (nI th), .int (nI ul), .ref xt, .int (nI z67_5), .ref xh, .ref xi, .ref xl, .ref xo, .ref xg, .ref xd, .int (zB ld), .ref xs, .int (nI stt), .int (nI sts), .int (nI drw), .ref xn, .ref xb, .ref xv, .int (nI bd), .int (nI rd)])), (xt, aI G 400 tx), (xh, aI G 5 (va_up (va_up (va_up (va_up (va_up hh 0 v67) 1 v67_2) 2 v67_3) 3 v67_4) 4 v67_5))] := hD
                                refine lv_goto (tgt := 161) hx hb dM_line_92 rfl ?_
                                refine lv_iinc (v := nI 5) (lv' := [(4, .int (nI 5)), (6, .int (nI v67_5)), (5, .int (nI 0)), (0, .ref qm), (1, .int (nI 0)), (2, .int (nI 0)), (3, .int (nI 5))]) hx hb dM_line_161 hl (k := 2) rfl (nI_add _ 1) (by decide) rfl (fun ls hl => ?_)
                                refine lv_goto (tgt := 3) hx hb dM_line_164 rfl ?_
                                refine lv_iload hx hb dM_line_3 (lv_at hl 0 rfl) ?_
                                refine lv_iload_n hx hb dM_line_5 rfl (lv_at hl 6 rfl) ?_
                                refine lv_icmp_ge (tgt := 167) hx hb dM_line_6 rfl (fun _ => ?_) (fun h6 => (by revert h6; first | decide | exact fun z => absurd z (by decide) | exact fun z => z.elim (by decide)))
                                refine lv_aload_n hx hb dM_line_167 rfl (lv_at hl 3 rfl) ?_
                                refine lv_bipush (v := nI 10) hx hb dM_line_168 (by decide) ?_
                                refine k_i (ws2 := fun u => [(qm, .inr (6, [.int (nI th), .int (nI ul), .ref xt, .int (nI (u)), .ref xh, .ref xi, .ref xl, .ref xo, .ref xg, .ref xd, .int (zB ld), .ref xs, .int (nI stt), .int (nI sts), .int (nI drw), .ref xn, .ref xb, .ref xv, .int (nI bd), .int (nI rd)])), (xt, aI G 400 tx), (xh, aI G 5 (va_up (va_up (va_up (va_up (va_up hh 0 v67) 1 v67_2) 2 v67_3) 3 v67_4) 4 v67_5))]) (wr := [(xh, aI G 5 (va_up (va_up (va_up (va_up (va_up hh 0 v67) 1 v67_2) 2 v67_3) 3 v67_4) 4 v67_5))]) (k_runV (n := 1) (As := [.int (nI 10)]) (rest := []) hx hb hml hown htb hP hD hK hS hA hE (k_M_eat l G H.size qm xt xh xi xl xo xg xd xs xn xb xv th ul z67_5 ld stt sts drw bd rd tx 10 (show ul ≤ 400 from by omega) (show z67_5 ≤ ul from by omega) (show ∀ j, tx j < 128 from by omega) (show 0 < 10 ∧ 10 < 128 from by omega)) b760 b762 s31 b7 b763 (by decide +kernel) rfl rfl ⟨by rw [hRf]; exact Nat.le_of_ble_eq_true rfl, by rw [hRl]; exact Nat.le_of_ble_eq_true rfl⟩ [0, 1] rfl (by decide) 0 rfl rfl rfl rfl hl.1 rfl (Nat.le_of_ble_eq_true rfl) dM_line_170 ⟨Nat.zero_le _, Nat.zero_le _⟩) hP hD hS hA [0, 1] [2] [1, 2, 0] rfl rfl (by decide) (by decide) (fun u => rfl) (by decide) (fun r u H locs hw hP hD hS => ?_)
                                rcases hw with ⟨hc170_e, hc170_b, rfl, rfl⟩ | ⟨hc170_e, rfl, rfl⟩
                                · skip
                                  have hP : va_P (gD G) vC [(qm, .inr (6, [.int (nI th), .int (nI ul), .ref xt, .int (nI (z67_5 + 1)), .ref xh, .ref xi, .ref xl, .ref xo, .ref xg, .ref xd, .int (zB ld), .ref xs, .int (nI stt), .int (nI sts), .int (nI drw), .ref xn, .ref xb, .ref xv, .int (nI bd), .int (nI rd)])), (xt, aI G 400 tx), (xh, aI G 5 (va_up (va_up (va_up (va_up (va_up hh 0 v67) 1 v67_2) 2 v67_3) 3 v67_4) 4 v67_5))] H := hP
                                  have hD : va_D A [(qm, .inr (6, [.int (nI th), .int (nI ul), .ref xt, .int (nI (z67_5 + 1)), .ref xh, .ref xi, .ref xl, .ref xo, .ref xg, .ref xd, .int (zB ld), .ref xs, .int (nI stt), .int (nI sts), .int (nI drw), .ref xn, .ref xb, .ref xv, .int (nI bd), .int (nI rd)])), (xt, aI G 400 tx), (xh, aI G 5 (va_up (va_up (va_up (va_up (va_up hh 0 v67) 1 v67_2) 2 v67_3) 3 v67_4) 4 v67_5))] := hD
                                  -- end 0
                                  rw [← hQ]
                                  exact k_iret hx hb hr hlocks (by decide) (u := ((z67_5 + 1), va_up (va_up (va_up (va_up (va_up hh 0 v67) 1 v67_2) 2 v67_3) 3 v67_4) 4 v67_5)) (Or.inl ⟨[v67, v67_2, v67_3, v67_4, v67_5], _, _, (mR_exF (T := (lk tx ul)) 4 pt).symm.trans ((mr_0 hc67_e).trans (congrArg (pre [v67]) ((mr_k hc49_e hc67_2_e).trans (congrArg (pre [v67_2]) ((mr_k hc49_2_e hc67_3_e).trans (congrArg (pre [v67_3]) ((mr_k hc49_3_e hc67_4_e).trans (congrArg (pre [v67_4]) ((mr_k hc49_4_e hc67_5_e).trans (congrArg (pre [v67_5]) (mr_z hc170_e))))))))))), up5, hc170_b, rfl, rfl⟩) hP hD hK hS dM_line_173
                                · skip
                                  have hP : va_P (gD G) vC [(qm, .inr (6, [.int (nI th), .int (nI ul), .ref xt, .int (nI z67_5), .ref xh, .ref xi, .ref xl, .ref xo, .ref xg, .ref xd, .int (zB ld), .ref xs, .int (nI stt), .int (nI sts), .int (nI drw), .ref xn, .ref xb, .ref xv, .int (nI bd), .int (nI rd)])), (xt, aI G 400 tx), (xh, aI G 5 (va_up (va_up (va_up (va_up (va_up hh 0 v67) 1 v67_2) 2 v67_3) 3 v67_4) 4 v67_5))] H := hP
                                  have hD : va_D A [(qm, .inr (6, [.int (nI th), .int (nI ul), .ref xt, .int (nI z67_5), .ref xh, .ref xi, .ref xl, .ref xo, .ref xg, .ref xd, .int (zB ld), .ref xs, .int (nI stt), .int (nI sts), .int (nI drw), .ref xn, .ref xb, .ref xv, .int (nI bd), .int (nI rd)])), (xt, aI G 400 tx), (xh, aI G 5 (va_up (va_up (va_up (va_up (va_up hh 0 v67) 1 v67_2) 2 v67_3) 3 v67_4) 4 v67_5))] := hD
                                  -- end 1
                                  rw [← hQ]
                                  exact k_iret hx hb hr hlocks (by decide) (u := (z67_5, va_up (va_up (va_up (va_up (va_up hh 0 v67) 1 v67_2) 2 v67_3) 3 v67_4) 4 v67_5)) (Or.inr ⟨_, _, (mR_exF (T := (lk tx ul)) 4 pt).symm.trans ((mr_0 hc67_e).trans (congrArg (pre [v67]) ((mr_k hc49_e hc67_2_e).trans (congrArg (pre [v67_2]) ((mr_k hc49_2_e hc67_3_e).trans (congrArg (pre [v67_3]) ((mr_k hc49_3_e hc67_4_e).trans (congrArg (pre [v67_4]) ((mr_k hc49_4_e hc67_5_e).trans (congrArg (pre [v67_5]) (mr_zn hc170_e))))))))))), by omega, rfl, rfl⟩) hP hD hK hS dM_line_173
                              · have h74 : v67_5 < 0 := Nat.lt_of_not_le (fun z => h74 ((nI_leI (a := 0) (b := v67_5) (by omega) (by omega)).mpr z))
                                exfalso; omega
                            · skip
                              have hP : va_P (gD G) vC [(qm, .inr (6, [.int (nI th), .int (nI ul), .ref xt, .int (nI z67_5), .ref xh, .ref xi, .ref xl, .ref xo, .ref xg, .ref xd, .int (zB ld), .ref xs, .int (nI stt), .int (nI sts), .int (nI drw), .ref xn, .ref xb, .ref xv, .int (nI bd), .int (nI rd)])), (xt, aI G 400 tx), (xh, aI G 5 (va_up (va_up (va_up (va_up hh 0 v67) 1 v67_2) 2 v67_3) 3 v67_4))] H := hP
                              have hD : va_D A [(qm, .inr (6, [.int (nI th), .int (nI ul), .ref xt, .int (nI z67_5), .ref xh, .ref xi, .ref xl, .ref xo, .ref xg, .ref xd, .int (zB ld), .ref xs, .int (nI stt), .int (nI sts), .int (nI drw), .ref xn, .ref xb, .ref xv, .int (nI bd), .int (nI rd)])), (xt, aI G 400 tx), (xh, aI G 5 (va_up (va_up (va_up (va_up hh 0 v67) 1 v67_2) 2 v67_3) 3 v67_4))] := hD
                              refine lv_istore (lv' := [(6, .int (-1)), (5, .int (nI 0)), (4, .int (nI 4)), (0, .ref qm), (1, .int (nI 0)), (2, .int (nI 0)), (3, .int (nI 5))]) hx hb dM_line_70 hl (by decide) rfl (fun ls hl => ?_)
                              refine lv_iload hx hb dM_line_72 (lv_at hl 0 rfl) ?_
                              refine lv_if_ge (tgt := 79) hx hb dM_line_74 rfl (fun h74 => (by revert h74; first | decide | exact fun z => absurd z (by decide) | exact fun z => z.elim (by decide))) (fun _ => ?_)
                              refine lv_iconst (v := nI 0) hx hb dM_line_77 (by decide) ?_
                              -- end 2
                              rw [← hQ]
                              exact k_iret hx hb hr hlocks (by decide) (u := (z67_5, va_up (va_up (va_up (va_up hh 0 v67) 1 v67_2) 2 v67_3) 3 v67_4)) (Or.inr ⟨_, _, (mR_exF (T := (lk tx ul)) 4 pt).symm.trans ((mr_0 hc67_e).trans (congrArg (pre [v67]) ((mr_k hc49_e hc67_2_e).trans (congrArg (pre [v67_2]) ((mr_k hc49_2_e hc67_3_e).trans (congrArg (pre [v67_3]) ((mr_k hc49_3_e hc67_4_e).trans (congrArg (pre [v67_4]) (mr_kn hc49_4_e hc67_5_e))))))))), by omega, rfl, rfl⟩) hP hD hK hS dM_line_78
                          · skip
                            have hP : va_P (gD G) vC [(qm, .inr (6, [.int (nI th), .int (nI ul), .ref xt, .int (nI z67_4), .ref xh, .ref xi, .ref xl, .ref xo, .ref xg, .ref xd, .int (zB ld), .ref xs, .int (nI stt), .int (nI sts), .int (nI drw), .ref xn, .ref xb, .ref xv, .int (nI bd), .int (nI rd)])), (xt, aI G 400 tx), (xh, aI G 5 (va_up (va_up (va_up (va_up hh 0 v67) 1 v67_2) 2 v67_3) 3 v67_4))] H := hP
                            have hD : va_D A [(qm, .inr (6, [.int (nI th), .int (nI ul), .ref xt, .int (nI z67_4), .ref xh, .ref xi, .ref xl, .ref xo, .ref xg, .ref xd, .int (zB ld), .ref xs, .int (nI stt), .int (nI sts), .int (nI drw), .ref xn, .ref xb, .ref xv, .int (nI bd), .int (nI rd)])), (xt, aI G 400 tx), (xh, aI G 5 (va_up (va_up (va_up (va_up hh 0 v67) 1 v67_2) 2 v67_3) 3 v67_4))] := hD
                            refine lv_if_ne (tgt := 57) hx hb dM_line_52 rfl (fun h52 => (by revert h52; first | decide | exact fun z => absurd z (by decide) | exact fun z => z.elim (by decide))) (fun _ => ?_)
                            refine lv_iconst (v := nI 0) hx hb dM_line_55 (by decide) ?_
                            -- end 3
                            rw [← hQ]
                            exact k_iret hx hb hr hlocks (by decide) (u := (z67_4, va_up (va_up (va_up (va_up hh 0 v67) 1 v67_2) 2 v67_3) 3 v67_4)) (Or.inr ⟨_, _, (mR_exF (T := (lk tx ul)) 4 pt).symm.trans ((mr_0 hc67_e).trans (congrArg (pre [v67]) ((mr_k hc49_e hc67_2_e).trans (congrArg (pre [v67_2]) ((mr_k hc49_2_e hc67_3_e).trans (congrArg (pre [v67_3]) ((mr_k hc49_3_e hc67_4_e).trans (congrArg (pre [v67_4]) (mr_ks hc49_4_e (fun q => Bool.noConfusion q)))))))))), by omega, rfl, rfl⟩) hP hD hK hS dM_line_56
                        · have h74 : v67_4 < 0 := Nat.lt_of_not_le (fun z => h74 ((nI_leI (a := 0) (b := v67_4) (by omega) (by omega)).mpr z))
                          exfalso; omega
                      · skip
                        have hP : va_P (gD G) vC [(qm, .inr (6, [.int (nI th), .int (nI ul), .ref xt, .int (nI z67_4), .ref xh, .ref xi, .ref xl, .ref xo, .ref xg, .ref xd, .int (zB ld), .ref xs, .int (nI stt), .int (nI sts), .int (nI drw), .ref xn, .ref xb, .ref xv, .int (nI bd), .int (nI rd)])), (xt, aI G 400 tx), (xh, aI G 5 (va_up (va_up (va_up hh 0 v67) 1 v67_2) 2 v67_3))] H := hP
                        have hD : va_D A [(qm, .inr (6, [.int (nI th), .int (nI ul), .ref xt, .int (nI z67_4), .ref xh, .ref xi, .ref xl, .ref xo, .ref xg, .ref xd, .int (zB ld), .ref xs, .int (nI stt), .int (nI sts), .int (nI drw), .ref xn, .ref xb, .ref xv, .int (nI bd), .int (nI rd)])), (xt, aI G 400 tx), (xh, aI G 5 (va_up (va_up (va_up hh 0 v67) 1 v67_2) 2 v67_3))] := hD
                        refine lv_istore (lv' := [(6, .int (-1)), (5, .int (nI 0)), (4, .int (nI 3)), (0, .ref qm), (1, .int (nI 0)), (2, .int (nI 0)), (3, .int (nI 5))]) hx hb dM_line_70 hl (by decide) rfl (fun ls hl => ?_)
                        refine lv_iload hx hb dM_line_72 (lv_at hl 0 rfl) ?_
                        refine lv_if_ge (tgt := 79) hx hb dM_line_74 rfl (fun h74 => (by revert h74; first | decide | exact fun z => absurd z (by decide) | exact fun z => z.elim (by decide))) (fun _ => ?_)
                        refine lv_iconst (v := nI 0) hx hb dM_line_77 (by decide) ?_
                        -- end 4
                        rw [← hQ]
                        exact k_iret hx hb hr hlocks (by decide) (u := (z67_4, va_up (va_up (va_up hh 0 v67) 1 v67_2) 2 v67_3)) (Or.inr ⟨_, _, (mR_exF (T := (lk tx ul)) 4 pt).symm.trans ((mr_0 hc67_e).trans (congrArg (pre [v67]) ((mr_k hc49_e hc67_2_e).trans (congrArg (pre [v67_2]) ((mr_k hc49_2_e hc67_3_e).trans (congrArg (pre [v67_3]) (mr_kn hc49_3_e hc67_4_e))))))), by omega, rfl, rfl⟩) hP hD hK hS dM_line_78
                    · skip
                      have hP : va_P (gD G) vC [(qm, .inr (6, [.int (nI th), .int (nI ul), .ref xt, .int (nI z67_3), .ref xh, .ref xi, .ref xl, .ref xo, .ref xg, .ref xd, .int (zB ld), .ref xs, .int (nI stt), .int (nI sts), .int (nI drw), .ref xn, .ref xb, .ref xv, .int (nI bd), .int (nI rd)])), (xt, aI G 400 tx), (xh, aI G 5 (va_up (va_up (va_up hh 0 v67) 1 v67_2) 2 v67_3))] H := hP
                      have hD : va_D A [(qm, .inr (6, [.int (nI th), .int (nI ul), .ref xt, .int (nI z67_3), .ref xh, .ref xi, .ref xl, .ref xo, .ref xg, .ref xd, .int (zB ld), .ref xs, .int (nI stt), .int (nI sts), .int (nI drw), .ref xn, .ref xb, .ref xv, .int (nI bd), .int (nI rd)])), (xt, aI G 400 tx), (xh, aI G 5 (va_up (va_up (va_up hh 0 v67) 1 v67_2) 2 v67_3))] := hD
                      refine lv_if_ne (tgt := 57) hx hb dM_line_52 rfl (fun h52 => (by revert h52; first | decide | exact fun z => absurd z (by decide) | exact fun z => z.elim (by decide))) (fun _ => ?_)
                      refine lv_iconst (v := nI 0) hx hb dM_line_55 (by decide) ?_
                      -- end 5
                      rw [← hQ]
                      exact k_iret hx hb hr hlocks (by decide) (u := (z67_3, va_up (va_up (va_up hh 0 v67) 1 v67_2) 2 v67_3)) (Or.inr ⟨_, _, (mR_exF (T := (lk tx ul)) 4 pt).symm.trans ((mr_0 hc67_e).trans (congrArg (pre [v67]) ((mr_k hc49_e hc67_2_e).trans (congrArg (pre [v67_2]) ((mr_k hc49_2_e hc67_3_e).trans (congrArg (pre [v67_3]) (mr_ks hc49_3_e (fun q => Bool.noConfusion q)))))))), by omega, rfl, rfl⟩) hP hD hK hS dM_line_56
                  · have h74 : v67_3 < 0 := Nat.lt_of_not_le (fun z => h74 ((nI_leI (a := 0) (b := v67_3) (by omega) (by omega)).mpr z))
                    exfalso; omega
                · skip
                  have hP : va_P (gD G) vC [(qm, .inr (6, [.int (nI th), .int (nI ul), .ref xt, .int (nI z67_3), .ref xh, .ref xi, .ref xl, .ref xo, .ref xg, .ref xd, .int (zB ld), .ref xs, .int (nI stt), .int (nI sts), .int (nI drw), .ref xn, .ref xb, .ref xv, .int (nI bd), .int (nI rd)])), (xt, aI G 400 tx), (xh, aI G 5 (va_up (va_up hh 0 v67) 1 v67_2))] H := hP
                  have hD : va_D A [(qm, .inr (6, [.int (nI th), .int (nI ul), .ref xt, .int (nI z67_3), .ref xh, .ref xi, .ref xl, .ref xo, .ref xg, .ref xd, .int (zB ld), .ref xs, .int (nI stt), .int (nI sts), .int (nI drw), .ref xn, .ref xb, .ref xv, .int (nI bd), .int (nI rd)])), (xt, aI G 400 tx), (xh, aI G 5 (va_up (va_up hh 0 v67) 1 v67_2))] := hD
                  refine lv_istore (lv' := [(6, .int (-1)), (5, .int (nI 0)), (4, .int (nI 2)), (0, .ref qm), (1, .int (nI 0)), (2, .int (nI 0)), (3, .int (nI 5))]) hx hb dM_line_70 hl (by decide) rfl (fun ls hl => ?_)
                  refine lv_iload hx hb dM_line_72 (lv_at hl 0 rfl) ?_
                  refine lv_if_ge (tgt := 79) hx hb dM_line_74 rfl (fun h74 => (by revert h74; first | decide | exact fun z => absurd z (by decide) | exact fun z => z.elim (by decide))) (fun _ => ?_)
                  refine lv_iconst (v := nI 0) hx hb dM_line_77 (by decide) ?_
                  -- end 6
                  rw [← hQ]
                  exact k_iret hx hb hr hlocks (by decide) (u := (z67_3, va_up (va_up hh 0 v67) 1 v67_2)) (Or.inr ⟨_, _, (mR_exF (T := (lk tx ul)) 4 pt).symm.trans ((mr_0 hc67_e).trans (congrArg (pre [v67]) ((mr_k hc49_e hc67_2_e).trans (congrArg (pre [v67_2]) (mr_kn hc49_2_e hc67_3_e))))), by omega, rfl, rfl⟩) hP hD hK hS dM_line_78
              · skip
                have hP : va_P (gD G) vC [(qm, .inr (6, [.int (nI th), .int (nI ul), .ref xt, .int (nI z67_2), .ref xh, .ref xi, .ref xl, .ref xo, .ref xg, .ref xd, .int (zB ld), .ref xs, .int (nI stt), .int (nI sts), .int (nI drw), .ref xn, .ref xb, .ref xv, .int (nI bd), .int (nI rd)])), (xt, aI G 400 tx), (xh, aI G 5 (va_up (va_up hh 0 v67) 1 v67_2))] H := hP
                have hD : va_D A [(qm, .inr (6, [.int (nI th), .int (nI ul), .ref xt, .int (nI z67_2), .ref xh, .ref xi, .ref xl, .ref xo, .ref xg, .ref xd, .int (zB ld), .ref xs, .int (nI stt), .int (nI sts), .int (nI drw), .ref xn, .ref xb, .ref xv, .int (nI bd), .int (nI rd)])), (xt, aI G 400 tx), (xh, aI G 5 (va_up (va_up hh 0 v67) 1 v67_2))] := hD
                refine lv_if_ne (tgt := 57) hx hb dM_line_52 rfl (fun h52 => (by revert h52; first | decide | exact fun z => absurd z (by decide) | exact fun z => z.elim (by decide))) (fun _ => ?_)
                refine lv_iconst (v := nI 0) hx hb dM_line_55 (by decide) ?_
                -- end 7
                rw [← hQ]
                exact k_iret hx hb hr hlocks (by decide) (u := (z67_2, va_up (va_up hh 0 v67) 1 v67_2)) (Or.inr ⟨_, _, (mR_exF (T := (lk tx ul)) 4 pt).symm.trans ((mr_0 hc67_e).trans (congrArg (pre [v67]) ((mr_k hc49_e hc67_2_e).trans (congrArg (pre [v67_2]) (mr_ks hc49_2_e (fun q => Bool.noConfusion q)))))), by omega, rfl, rfl⟩) hP hD hK hS dM_line_56
            · have h74 : v67_2 < 0 := Nat.lt_of_not_le (fun z => h74 ((nI_leI (a := 0) (b := v67_2) (by omega) (by omega)).mpr z))
              exfalso; omega
          · skip
            have hP : va_P (gD G) vC [(qm, .inr (6, [.int (nI th), .int (nI ul), .ref xt, .int (nI z67_2), .ref xh, .ref xi, .ref xl, .ref xo, .ref xg, .ref xd, .int (zB ld), .ref xs, .int (nI stt), .int (nI sts), .int (nI drw), .ref xn, .ref xb, .ref xv, .int (nI bd), .int (nI rd)])), (xt, aI G 400 tx), (xh, aI G 5 (va_up hh 0 v67))] H := hP
            have hD : va_D A [(qm, .inr (6, [.int (nI th), .int (nI ul), .ref xt, .int (nI z67_2), .ref xh, .ref xi, .ref xl, .ref xo, .ref xg, .ref xd, .int (zB ld), .ref xs, .int (nI stt), .int (nI sts), .int (nI drw), .ref xn, .ref xb, .ref xv, .int (nI bd), .int (nI rd)])), (xt, aI G 400 tx), (xh, aI G 5 (va_up hh 0 v67))] := hD
            refine lv_istore (lv' := [(6, .int (-1)), (5, .int (nI 0)), (4, .int (nI 1)), (0, .ref qm), (1, .int (nI 0)), (2, .int (nI 0)), (3, .int (nI 5))]) hx hb dM_line_70 hl (by decide) rfl (fun ls hl => ?_)
            refine lv_iload hx hb dM_line_72 (lv_at hl 0 rfl) ?_
            refine lv_if_ge (tgt := 79) hx hb dM_line_74 rfl (fun h74 => (by revert h74; first | decide | exact fun z => absurd z (by decide) | exact fun z => z.elim (by decide))) (fun _ => ?_)
            refine lv_iconst (v := nI 0) hx hb dM_line_77 (by decide) ?_
            -- end 8
            rw [← hQ]
            exact k_iret hx hb hr hlocks (by decide) (u := (z67_2, va_up hh 0 v67)) (Or.inr ⟨_, _, (mR_exF (T := (lk tx ul)) 4 pt).symm.trans ((mr_0 hc67_e).trans (congrArg (pre [v67]) (mr_kn hc49_e hc67_2_e))), by omega, rfl, rfl⟩) hP hD hK hS dM_line_78
        · skip
          have hP : va_P (gD G) vC [(qm, .inr (6, [.int (nI th), .int (nI ul), .ref xt, .int (nI z67), .ref xh, .ref xi, .ref xl, .ref xo, .ref xg, .ref xd, .int (zB ld), .ref xs, .int (nI stt), .int (nI sts), .int (nI drw), .ref xn, .ref xb, .ref xv, .int (nI bd), .int (nI rd)])), (xt, aI G 400 tx), (xh, aI G 5 (va_up hh 0 v67))] H := hP
          have hD : va_D A [(qm, .inr (6, [.int (nI th), .int (nI ul), .ref xt, .int (nI z67), .ref xh, .ref xi, .ref xl, .ref xo, .ref xg, .ref xd, .int (zB ld), .ref xs, .int (nI stt), .int (nI sts), .int (nI drw), .ref xn, .ref xb, .ref xv, .int (nI bd), .int (nI rd)])), (xt, aI G 400 tx), (xh, aI G 5 (va_up hh 0 v67))] := hD
          refine lv_if_ne (tgt := 57) hx hb dM_line_52 rfl (fun h52 => (by revert h52; first | decide | exact fun z => absurd z (by decide) | exact fun z => z.elim (by decide))) (fun _ => ?_)
          refine lv_iconst (v := nI 0) hx hb dM_line_55 (by decide) ?_
          -- end 9
          rw [← hQ]
          exact k_iret hx hb hr hlocks (by decide) (u := (z67, va_up hh 0 v67)) (Or.inr ⟨_, _, (mR_exF (T := (lk tx ul)) 4 pt).symm.trans ((mr_0 hc67_e).trans (congrArg (pre [v67]) (mr_ks hc49_e (fun q => Bool.noConfusion q)))), by omega, rfl, rfl⟩) hP hD hK hS dM_line_56
      · have h74 : v67 < 0 := Nat.lt_of_not_le (fun z => h74 ((nI_leI (a := 0) (b := v67) (by omega) (by omega)).mpr z))
        exfalso; omega
    · skip
      have hP : va_P (gD G) vC [(qm, .inr (6, [.int (nI th), .int (nI ul), .ref xt, .int (nI z67), .ref xh, .ref xi, .ref xl, .ref xo, .ref xg, .ref xd, .int (zB ld), .ref xs, .int (nI stt), .int (nI sts), .int (nI drw), .ref xn, .ref xb, .ref xv, .int (nI bd), .int (nI rd)])), (xt, aI G 400 tx), (xh, aI G 5 hh)] H := hP
      have hD : va_D A [(qm, .inr (6, [.int (nI th), .int (nI ul), .ref xt, .int (nI z67), .ref xh, .ref xi, .ref xl, .ref xo, .ref xg, .ref xd, .int (zB ld), .ref xs, .int (nI stt), .int (nI sts), .int (nI drw), .ref xn, .ref xb, .ref xv, .int (nI bd), .int (nI rd)])), (xt, aI G 400 tx), (xh, aI G 5 hh)] := hD
      refine lv_istore (lv' := [(6, .int (-1)), (5, .int (nI 0)), (4, .int (nI 0)), (0, .ref qm), (1, .int (nI 0)), (2, .int (nI 0)), (3, .int (nI 5))]) hx hb dM_line_70 hl (by decide) rfl (fun ls hl => ?_)
      refine lv_iload hx hb dM_line_72 (lv_at hl 0 rfl) ?_
      refine lv_if_ge (tgt := 79) hx hb dM_line_74 rfl (fun h74 => (by revert h74; first | decide | exact fun z => absurd z (by decide) | exact fun z => z.elim (by decide))) (fun _ => ?_)
      refine lv_iconst (v := nI 0) hx hb dM_line_77 (by decide) ?_
      -- end 10
      rw [← hQ]
      exact k_iret hx hb hr hlocks (by decide) (u := (z67, hh)) (Or.inr ⟨_, _, (mR_exF (T := (lk tx ul)) 4 pt).symm.trans (mr_0n hc67_e), by omega, rfl, rfl⟩) hP hD hK hS dM_line_78
  rw [hH, hlc] at hgo
  exact hgo
set_option maxRecDepth 100000 in
set_option maxHeartbeats 4000000 in
theorem k_M_line_r1 (l : Launch) (G : GG) (sz : Nat) (qm : Nat) (xt : Nat) (xh : Nat) (xi : Nat) (xl : Nat) (xo : Nat) (xg : Nat) (xd : Nat) (xs : Nat) (xn : Nat) (xb : Nat) (xv : Nat) (th : Nat) (ul : Nat) (pt : Nat) (ld : Bool) (stt : Nat) (sts : Nat) (drw : Nat) (bd : Nat) (rd : Nat) (tx : Nat → Nat) (fi : Nat → Nat) (k : Nat) (hul : ul ≤ 400) (hpt : pt ≤ ul) (htx : ∀ j, tx j < 128) (hk : k < 100) : Ki l yM_line cM_line 7 .boolean 2 43 G [.ref qm, .int (nI 1), .int (nI k), .int (nI 1)] [(qm, .inr (6, [.int (nI th), .int (nI ul), .ref xt, .int (nI pt), .ref xh, .ref xi, .ref xl, .ref xo, .ref xg, .ref xd, .int (zB ld), .ref xs, .int (nI stt), .int (nI sts), .int (nI drw), .ref xn, .ref xb, .ref xv, .int (nI bd), .int (nI rd)])), (xt, aI G 400 tx), (xi, aI G 100 fi)] sz (fun (r : Int32) (u : Nat × (Nat → Nat)) => (∃ (li : List Nat), ∃ (z : Nat), exF (lk tx ul) 1 pt = some (li, z) ∧ z ≤ ul ∧ nI 1 = r ∧ (z, va_up fi k (li.getD 0 0)) = u) ∨ (∃ (z : Nat), ∃ (fi1 : Nat → Nat), exF (lk tx ul) 1 pt = none ∧ z ≤ ul ∧ nI 0 = r ∧ (z, fi1) = u)) (fun (u : Nat × (Nat → Nat)) => [(qm, .inr (6, [.int (nI th), .int (nI ul), .ref xt, .int (nI u.1), .ref xh, .ref xi, .ref xl, .ref xo, .ref xg, .ref xd, .int (zB ld), .ref xs, .int (nI stt), .int (nI sts), .int (nI drw), .ref xn, .ref xb, .ref xv, .int (nI bd), .int (nI rd)])), (xt, aI G 400 tx), (xi, aI G 100 u.2)]) := by
  refine Met.ofW (cc := cM_line) (maxL := 7) (ret := (some .boolean)) (by decide) rfl ?_
  intro p e s m args below meth c s₁ B hml hv
  obtain ⟨hav, hsz, hP, hK, hD0, hE⟩ := hv
  have hx := B.exec
  have hb := B.bytes
  have hr := B.returns
  have htb : ∀ w ∈ TB, w.before args s = true := fun w h => atoms_spec (ws := Cond.code yM_line cM_line 7 (some .boolean) :: TB) B.pre w (List.mem_cons_of_mem _ h)
  have hown : s.vm.findClass "CircuitProverModel" = some m.cls := findClass_of_methodNamed B.named
  have hlocks := B.notSynchronized
  subst hsz
  have hD := hD0.self (sz := s.heap.size)
  clear hD0
  generalize hRm : (headSpec (Cond.code yM_line cM_line 7 (some .boolean) :: TB) { frames := 2, cells := 0, slots := 0, locals := 43 }).room = R
  have hRf : R.frames = 2 := by rw [← hRm]; rfl
  have hRl : R.locals = 43 := by rw [← hRm]; rfl
  have hRc : R.cells = 0 := by rw [← hRm]; rfl
  have hRs : R.slots = 0 := by rw [← hRm]; rfl
  clear hRm
  generalize hAe : va_A [(qm, .inr (6, [.int (nI th), .int (nI ul), .ref xt, .int (nI pt), .ref xh, .ref xi, .ref xl, .ref xo, .ref xg, .ref xd, .int (zB ld), .ref xs, .int (nI stt), .int (nI sts), .int (nI drw), .ref xn, .ref xb, .ref xv, .int (nI bd), .int (nI rd)])), (xt, aI G 400 tx), (xi, aI G 100 fi)] s.heap.size = A at hD hE ⊢
  have hA : ∀ q : Nat, s.heap.size ≤ q → A q := fun q h => by rw [← hAe]; exact Or.inr h
  clear hAe
  have hS : va_S A s.heap s.heap [] := va_S.rf
  have hl := lv_entry ([.ref qm, .int (nI 1), .int (nI k), .int (nI 1)]) (n := 7) (Nat.le_of_ble_eq_true rfl)
  have hent := lg_entry_eq m ([.ref qm, .int (nI 1), .int (nI k), .int (nI 1)]) 7
  rw [← hav] at hent
  rw [hent]
  clear hent hav
  generalize (lg_sl ([.ref qm, .int (nI 1), .int (nI k), .int (nI 1)]) ++ List.replicate (7 - (lg_sl ([.ref qm, .int (nI 1), .int (nI k), .int (nI 1)])).length) Slot.unset).toArray = ls at hl ⊢
  have hl : lv_has ls 7 [(0, .ref qm), (1, .int (nI 1)), (2, .int (nI k)), (3, .int (nI 1))] := hl
  generalize hQ : MQ below _ args s 0 0 _ = Q
  have hP : va_P (gD G) vC [(qm, .inr (6, [.int (nI th), .int (nI ul), .ref xt, .int (nI pt), .ref xh, .ref xi, .ref xl, .ref xo, .ref xg, .ref xd, .int (zB ld), .ref xs, .int (nI stt), .int (nI sts), .int (nI drw), .ref xn, .ref xb, .ref xv, .int (nI bd), .int (nI rd)])), (xt, aI G 400 tx), (xi, aI G 100 fi)] s.heap := hP
  obtain ⟨H, hH⟩ : ∃ H : Heap, H = s.heap := ⟨_, rfl⟩
  obtain ⟨locs, hlc⟩ : ∃ L : List Loc, L = [] := ⟨_, rfl⟩
  have hS : va_S A s.heap H locs := by rw [hH, hlc]; exact hS
  have hP : va_P (gD G) vC [(qm, .inr (6, [.int (nI th), .int (nI ul), .ref xt, .int (nI pt), .ref xh, .ref xi, .ref xl, .ref xo, .ref xg, .ref xd, .int (zB ld), .ref xs, .int (nI stt), .int (nI sts), .int (nI drw), .ref xn, .ref xb, .ref xv, .int (nI bd), .int (nI rd)])), (xt, aI G 400 tx), (xi, aI G 100 fi)] H := by rw [hH]; exact hP
  have hgo : W p l e R s m args below meth c H locs 0 0 Q (F0 m 0 ls []) := by
    clear hH hlc
    refine lv_iconst (v := nI 0) hx hb dM_line_0 (by decide) ?_
    refine lv_istore (lv' := [(4, .int (nI 0)), (0, .ref qm), (1, .int (nI 1)), (2, .int (nI k)), (3, .int (nI 1))]) hx hb dM_line_1 hl (by decide) rfl (fun ls hl => ?_)
    refine lv_iload hx hb dM_line_3 (lv_at hl 0 rfl) ?_
    refine lv_iload_n hx hb dM_line_5 rfl (lv_at hl 4 rfl) ?_
    refine lv_icmp_ge (tgt := 167) hx hb dM_line_6 rfl (fun h6 => (by revert h6; first | decide | exact fun z => absurd z (by decide) | exact fun z => z.elim (by decide))) (fun _ => ?_)
    refine lv_iload_n hx hb dM_line_9 rfl (lv_at hl 2 rfl) ?_
    refine lv_iconst (v := nI 2) hx hb dM_line_10 (by decide) ?_
    refine lv_icmp_ne (tgt := 33) hx hb dM_line_11 rfl (fun _ => ?_) (fun h11 => (by revert h11; first | decide | exact fun z => absurd z (by decide) | exact fun z => z.elim (by decide)))
    refine lv_iconst (v := nI 0) hx hb dM_line_33 (by decide) ?_
    refine lv_istore (lv' := [(5, .int (nI 0)), (4, .int (nI 0)), (0, .ref qm), (1, .int (nI 1)), (2, .int (nI k)), (3, .int (nI 1))]) hx hb dM_line_34 hl (by decide) rfl (fun ls hl => ?_)
    refine lv_iload hx hb dM_line_36 (lv_at hl 1 rfl) ?_
    refine lv_if_le (tgt := 57) hx hb dM_line_38 rfl (fun _ => ?_) (fun h38 => (by revert h38; first | decide | exact fun z => absurd z (by decide) | exact fun z => z.elim (by decide)))
    refine lv_iload hx hb dM_line_57 (lv_at hl 0 rfl) ?_
    refine lv_if_eq (tgt := 66) hx hb dM_line_59 rfl (fun _ => ?_) (fun h59 => (by revert h59; first | decide | exact fun z => absurd z (by decide) | exact fun z => z.elim (by decide)))
    refine lv_aload_n hx hb dM_line_66 rfl (lv_at hl 2 rfl) ?_
    refine k_i (ws2 := fun u => [(qm, .inr (6, [.int (nI th), .int (nI ul), .ref xt, .int (nI (u)), .ref xh, .ref xi, .ref xl, .ref xo, .ref xg, .ref xd, .int (zB ld), .ref xs, .int (nI stt), .int (nI sts), .int (nI drw), .ref xn, .ref xb, .ref xv, .int (nI bd), .int (nI rd)])), (xt, aI G 400 tx), (xi, aI G 100 fi)]) (wr := [(xi, aI G 100 fi)]) (k_runV (n := 0) (As := []) (rest := []) hx hb hml hown htb hP hD hK hS hA hE (k_M_number l G H.size qm xt xh xi xl xo xg xd xs xn xb xv th ul pt ld stt sts drw bd rd tx (show ul ≤ 400 from by omega) (show pt ≤ ul from by omega) (show ∀ j, tx j < 128 from by omega)) b772 b774 s34 b7 b775 (by decide +kernel) rfl rfl ⟨by rw [hRf]; exact Nat.le_of_ble_eq_true rfl, by rw [hRl]; exact Nat.le_of_ble_eq_true rfl⟩ [0, 1] rfl (by decide) 0 rfl rfl rfl rfl hl.1 rfl (Nat.le_of_ble_eq_true rfl) dM_line_67 ⟨Nat.zero_le _, Nat.zero_le _⟩) hP hD hS hA [0, 1] [2] [1, 2, 0] rfl rfl (by decide) (by decide) (fun u => rfl) (by decide) (fun r u H locs hw hP hD hS => ?_)
    rcases hw with ⟨v67, z67, hc67_e, hc67_b, rfl, rfl⟩ | ⟨z67, hc67_e, hc67_b, rfl, rfl⟩
    · skip
      have hP : va_P (gD G) vC [(qm, .inr (6, [.int (nI th), .int (nI ul), .ref xt, .int (nI z67), .ref xh, .ref xi, .ref xl, .ref xo, .ref xg, .ref xd, .int (zB ld), .ref xs, .int (nI stt), .int (nI sts), .int (nI drw), .ref xn, .ref xb, .ref xv, .int (nI bd), .int (nI rd)])), (xt, aI G 400 tx), (xi, aI G 100 fi)] H := hP
      have hD : va_D A [(qm, .inr (6, [.int (nI th), .int (nI ul), .ref xt, .int (nI z67), .ref xh, .ref xi, .ref xl, .ref xo, .ref xg, .ref xd, .int (zB ld), .ref xs, .int (nI stt), .int (nI sts), .int (nI drw), .ref xn, .ref xb, .ref xv, .int (nI bd), .int (nI rd)])), (xt, aI G 400 tx), (xi, aI G 100 fi)] := hD
      refine lv_istore (lv' := [(6, .int (nI v67)), (5, .int (nI 0)), (4, .int (nI 0)), (0, .ref qm), (1, .int (nI 1)), (2, .int (nI k)), (3, .int (nI 1))]) hx hb dM_line_70 hl (by decide) rfl (fun ls hl => ?_)
      refine lv_iload hx hb dM_line_72 (lv_at hl 0 rfl) ?_
      refine lv_if_ge (tgt := 79) hx hb dM_line_74 rfl (fun h74 => ?_) (fun h74 => ?_)
      · have h74 : 0 ≤ v67 := (nI_leI (a := 0) (b := v67) (by omega) (by omega)).mp h74
        refine lv_iload_n hx hb dM_line_79 rfl (lv_at hl 4 rfl) ?_
        refine lv_if_ne (tgt := 95) hx hb dM_line_80 rfl (fun _ => ?_) (fun h80 => (by revert h80; first | decide | exact fun z => absurd z (by decide) | exact fun z => z.elim (by decide)))
        refine lv_iload_n hx hb dM_line_95 rfl (lv_at hl 4 rfl) ?_
        refine lv_iconst (v := nI 1) hx hb dM_line_96 (by decide) ?_
        refine lv_icmp_ne (tgt := 111) hx hb dM_line_97 rfl (fun h97 => (by revert h97; first | decide | exact fun z => absurd z (by decide) | exact fun z => z.elim (by decide))) (fun _ => ?_)
        refine lv_aload_n hx hb dM_line_100 rfl (lv_at hl 3 rfl) ?_
        refine va_get (D := gD G) (ci := 6) (v := .ref xi) (C := "CircuitProverModel") (T := TM) (N := 20) hx hb htb inM hown hK hP 0 rfl rfl 5 (by decide) (htb _ b676) (fun _ h9 => h9) rfl dM_line_101 ?_
        refine lv_iload_n hx hb dM_line_104 rfl (lv_at hl 5 rfl) ?_
        refine lv_iload hx hb dM_line_105 (lv_at hl 0 rfl) ?_
        refine k_iast hx hb hK hP hD hS 2 rfl (k := k) (v := v67) (by omega) (by decide) dM_line_107 (fun H locs hP hD hS => ?_)
        have hP : va_P (gD G) vC [(qm, .inr (6, [.int (nI th), .int (nI ul), .ref xt, .int (nI z67), .ref xh, .ref xi, .ref xl, .ref xo, .ref xg, .ref xd, .int (zB ld), .ref xs, .int (nI stt), .int (nI sts), .int (nI drw), .ref xn, .ref xb, .ref xv, .int (nI bd), .int (nI rd)])), (xt, aI G 400 tx), (xi, aI G 100 (va_up fi k v67))] H := hP
        have hD : va_D A [(qm, .inr (6, [.int (nI th), .int (nI ul), .ref xt, .int (nI z67), .ref xh, .ref xi, .ref xl, .ref xo, .ref xg, .ref xd, .int (zB ld), .ref xs, .int (nI stt), .int (nI sts), .int (nI drw), .ref xn, .ref xb, .ref xv, .int (nI bd), .int (nI rd)])), (xt, aI G 400 tx), (xi, aI G 100 (va_up fi k v67))] := hD
        refine lv_goto (tgt := 161) hx hb dM_line_108 rfl ?_
        refine lv_iinc (v := nI 1) (lv' := [(4, .int (nI 1)), (6, .int (nI v67)), (5, .int (nI 0)), (0, .ref qm), (1, .int (nI 1)), (2, .int (nI k)), (3, .int (nI 1))]) hx hb dM_line_161 hl (k := 2) rfl (nI_add _ 1) (by decide) rfl (fun ls hl => ?_)
        refine lv_goto (tgt := 3) hx hb dM_line_164 rfl ?_
        refine lv_iload hx hb dM_line_3 (lv_at hl 0 rfl) ?_
        refine lv_iload_n hx hb dM_line_5 rfl (lv_at hl 6 rfl) ?_
        refine lv_icmp_ge (tgt := 167) hx hb dM_line_6 rfl (fun _ => ?_) (fun h6 => (by revert h6; first | decide | exact fun z => absurd z (by decide) | exact fun z => z.elim (by decide)))
        refine lv_aload_n hx hb dM_line_167 rfl (lv_at hl 3 rfl) ?_
        refine lv_bipush (v := nI 10) hx hb dM_line_168 (by decide) ?_
        refine k_i (ws2 := fun u => [(qm, .inr (6, [.int (nI th), .int (nI ul), .ref xt, .int (nI (u)), .ref xh, .ref xi, .ref xl, .ref xo, .ref xg, .ref xd, .int (zB ld), .ref xs, .int (nI stt), .int (nI sts), .int (nI drw), .ref xn, .ref xb, .ref xv, .int (nI bd), .int (nI rd)])), (xt, aI G 400 tx), (xi, aI G 100 (va_up fi k v67))]) (wr := [(xi, aI G 100 (va_up fi k v67))]) (k_runV (n := 1) (As := [.int (nI 10)]) (rest := []) hx hb hml hown htb hP hD hK hS hA hE (k_M_eat l G H.size qm xt xh xi xl xo xg xd xs xn xb xv th ul z67 ld stt sts drw bd rd tx 10 (show ul ≤ 400 from by omega) (show z67 ≤ ul from by omega) (show ∀ j, tx j < 128 from by omega) (show 0 < 10 ∧ 10 < 128 from by omega)) b760 b762 s31 b7 b763 (by decide +kernel) rfl rfl ⟨by rw [hRf]; exact Nat.le_of_ble_eq_true rfl, by rw [hRl]; exact Nat.le_of_ble_eq_true rfl⟩ [0, 1] rfl (by decide) 0 rfl rfl rfl rfl hl.1 rfl (Nat.le_of_ble_eq_true rfl) dM_line_170 ⟨Nat.zero_le _, Nat.zero_le _⟩) hP hD hS hA [0, 1] [2] [1, 2, 0] rfl rfl (by decide) (by decide) (fun u => rfl) (by decide) (fun r u H locs hw hP hD hS => ?_)
        rcases hw with ⟨hc170_e, hc170_b, rfl, rfl⟩ | ⟨hc170_e, rfl, rfl⟩
        · skip
          have hP : va_P (gD G) vC [(qm, .inr (6, [.int (nI th), .int (nI ul), .ref xt, .int (nI (z67 + 1)), .ref xh, .ref xi, .ref xl, .ref xo, .ref xg, .ref xd, .int (zB ld), .ref xs, .int (nI stt), .int (nI sts), .int (nI drw), .ref xn, .ref xb, .ref xv, .int (nI bd), .int (nI rd)])), (xt, aI G 400 tx), (xi, aI G 100 (va_up fi k v67))] H := hP
          have hD : va_D A [(qm, .inr (6, [.int (nI th), .int (nI ul), .ref xt, .int (nI (z67 + 1)), .ref xh, .ref xi, .ref xl, .ref xo, .ref xg, .ref xd, .int (zB ld), .ref xs, .int (nI stt), .int (nI sts), .int (nI drw), .ref xn, .ref xb, .ref xv, .int (nI bd), .int (nI rd)])), (xt, aI G 400 tx), (xi, aI G 100 (va_up fi k v67))] := hD
          -- end 0
          rw [← hQ]
          exact k_iret hx hb hr hlocks (by decide) (u := ((z67 + 1), va_up fi k v67)) (Or.inl ⟨[v67], _, (mR_exF (T := (lk tx ul)) 0 pt).symm.trans ((mr_0 hc67_e).trans (congrArg (pre [v67]) (mr_z hc170_e))), hc170_b, rfl, rfl⟩) hP hD hK hS dM_line_173
        · skip
          have hP : va_P (gD G) vC [(qm, .inr (6, [.int (nI th), .int (nI ul), .ref xt, .int (nI z67), .ref xh, .ref xi, .ref xl, .ref xo, .ref xg, .ref xd, .int (zB ld), .ref xs, .int (nI stt), .int (nI sts), .int (nI drw), .ref xn, .ref xb, .ref xv, .int (nI bd), .int (nI rd)])), (xt, aI G 400 tx), (xi, aI G 100 (va_up fi k v67))] H := hP
          have hD : va_D A [(qm, .inr (6, [.int (nI th), .int (nI ul), .ref xt, .int (nI z67), .ref xh, .ref xi, .ref xl, .ref xo, .ref xg, .ref xd, .int (zB ld), .ref xs, .int (nI stt), .int (nI sts), .int (nI drw), .ref xn, .ref xb, .ref xv, .int (nI bd), .int (nI rd)])), (xt, aI G 400 tx), (xi, aI G 100 (va_up fi k v67))] := hD
          -- end 1
          rw [← hQ]
          exact k_iret hx hb hr hlocks (by decide) (u := (z67, va_up fi k v67)) (Or.inr ⟨_, _, (mR_exF (T := (lk tx ul)) 0 pt).symm.trans ((mr_0 hc67_e).trans (congrArg (pre [v67]) (mr_zn hc170_e))), by omega, rfl, rfl⟩) hP hD hK hS dM_line_173
      · have h74 : v67 < 0 := Nat.lt_of_not_le (fun z => h74 ((nI_leI (a := 0) (b := v67) (by omega) (by omega)).mpr z))
        exfalso; omega
    · skip
      have hP : va_P (gD G) vC [(qm, .inr (6, [.int (nI th), .int (nI ul), .ref xt, .int (nI z67), .ref xh, .ref xi, .ref xl, .ref xo, .ref xg, .ref xd, .int (zB ld), .ref xs, .int (nI stt), .int (nI sts), .int (nI drw), .ref xn, .ref xb, .ref xv, .int (nI bd), .int (nI rd)])), (xt, aI G 400 tx), (xi, aI G 100 fi)] H := hP
      have hD : va_D A [(qm, .inr (6, [.int (nI th), .int (nI ul), .ref xt, .int (nI z67), .ref xh, .ref xi, .ref xl, .ref xo, .ref xg, .ref xd, .int (zB ld), .ref xs, .int (nI stt), .int (nI sts), .int (nI drw), .ref xn, .ref xb, .ref xv, .int (nI bd), .int (nI rd)])), (xt, aI G 400 tx), (xi, aI G 100 fi)] := hD
      refine lv_istore (lv' := [(6, .int (-1)), (5, .int (nI 0)), (4, .int (nI 0)), (0, .ref qm), (1, .int (nI 1)), (2, .int (nI k)), (3, .int (nI 1))]) hx hb dM_line_70 hl (by decide) rfl (fun ls hl => ?_)
      refine lv_iload hx hb dM_line_72 (lv_at hl 0 rfl) ?_
      refine lv_if_ge (tgt := 79) hx hb dM_line_74 rfl (fun h74 => (by revert h74; first | decide | exact fun z => absurd z (by decide) | exact fun z => z.elim (by decide))) (fun _ => ?_)
      refine lv_iconst (v := nI 0) hx hb dM_line_77 (by decide) ?_
      -- end 2
      rw [← hQ]
      exact k_iret hx hb hr hlocks (by decide) (u := (z67, fi)) (Or.inr ⟨_, _, (mR_exF (T := (lk tx ul)) 0 pt).symm.trans (mr_0n hc67_e), by omega, rfl, rfl⟩) hP hD hK hS dM_line_78
  rw [hH, hlc] at hgo
  exact hgo
set_option maxRecDepth 100000 in
set_option maxHeartbeats 4000000 in
theorem k_M_line_r2 (l : Launch) (G : GG) (sz : Nat) (qm : Nat) (xt : Nat) (xh : Nat) (xi : Nat) (xl : Nat) (xo : Nat) (xg : Nat) (xd : Nat) (xs : Nat) (xn : Nat) (xb : Nat) (xv : Nat) (th : Nat) (ul : Nat) (pt : Nat) (ld : Bool) (stt : Nat) (sts : Nat) (drw : Nat) (bd : Nat) (rd : Nat) (tx : Nat → Nat) (fl : Nat → Nat) (k : Nat) (hul : ul ≤ 400) (hpt : pt ≤ ul) (htx : ∀ j, tx j < 128) (hk : k < 100) : Ki l yM_line cM_line 7 .boolean 2 43 G [.ref qm, .int (nI 2), .int (nI k), .int (nI 3)] [(qm, .inr (6, [.int (nI th), .int (nI ul), .ref xt, .int (nI pt), .ref xh, .ref xi, .ref xl, .ref xo, .ref xg, .ref xd, .int (zB ld), .ref xs, .int (nI stt), .int (nI sts), .int (nI drw), .ref xn, .ref xb, .ref xv, .int (nI bd), .int (nI rd)])), (xt, aI G 400 tx), (xl, aI G 300 fl)] sz (fun (r : Int32) (u : Nat × (Nat → Nat)) => (∃ (li : List Nat), ∃ (z : Nat), ∃ (fl1 : Nat → Nat), laF (lk tx ul) pt = some (li, z) ∧ (∀ j, j < 3 → fl1 (3 * k + j) = li.getD j 0) ∧ (∀ i, i < 3 * k → fl1 i = fl i) ∧ z ≤ ul ∧ nI 1 = r ∧ (z, fl1) = u) ∨ (∃ (z : Nat), ∃ (fl1 : Nat → Nat), laF (lk tx ul) pt = none ∧ z ≤ ul ∧ nI 0 = r ∧ (z, fl1) = u)) (fun (u : Nat × (Nat → Nat)) => [(qm, .inr (6, [.int (nI th), .int (nI ul), .ref xt, .int (nI u.1), .ref xh, .ref xi, .ref xl, .ref xo, .ref xg, .ref xd, .int (zB ld), .ref xs, .int (nI stt), .int (nI sts), .int (nI drw), .ref xn, .ref xb, .ref xv, .int (nI bd), .int (nI rd)])), (xt, aI G 400 tx), (xl, aI G 300 u.2)]) := by
  refine Met.ofW (cc := cM_line) (maxL := 7) (ret := (some .boolean)) (by decide) rfl ?_
  intro p e s m args below meth c s₁ B hml hv
  obtain ⟨hav, hsz, hP, hK, hD0, hE⟩ := hv
  have hx := B.exec
  have hb := B.bytes
  have hr := B.returns
  have htb : ∀ w ∈ TB, w.before args s = true := fun w h => atoms_spec (ws := Cond.code yM_line cM_line 7 (some .boolean) :: TB) B.pre w (List.mem_cons_of_mem _ h)
  have hown : s.vm.findClass "CircuitProverModel" = some m.cls := findClass_of_methodNamed B.named
  have hlocks := B.notSynchronized
  subst hsz
  have hD := hD0.self (sz := s.heap.size)
  clear hD0
  generalize hRm : (headSpec (Cond.code yM_line cM_line 7 (some .boolean) :: TB) { frames := 2, cells := 0, slots := 0, locals := 43 }).room = R
  have hRf : R.frames = 2 := by rw [← hRm]; rfl
  have hRl : R.locals = 43 := by rw [← hRm]; rfl
  have hRc : R.cells = 0 := by rw [← hRm]; rfl
  have hRs : R.slots = 0 := by rw [← hRm]; rfl
  clear hRm
  generalize hAe : va_A [(qm, .inr (6, [.int (nI th), .int (nI ul), .ref xt, .int (nI pt), .ref xh, .ref xi, .ref xl, .ref xo, .ref xg, .ref xd, .int (zB ld), .ref xs, .int (nI stt), .int (nI sts), .int (nI drw), .ref xn, .ref xb, .ref xv, .int (nI bd), .int (nI rd)])), (xt, aI G 400 tx), (xl, aI G 300 fl)] s.heap.size = A at hD hE ⊢
  have hA : ∀ q : Nat, s.heap.size ≤ q → A q := fun q h => by rw [← hAe]; exact Or.inr h
  clear hAe
  have hS : va_S A s.heap s.heap [] := va_S.rf
  have hl := lv_entry ([.ref qm, .int (nI 2), .int (nI k), .int (nI 3)]) (n := 7) (Nat.le_of_ble_eq_true rfl)
  have hent := lg_entry_eq m ([.ref qm, .int (nI 2), .int (nI k), .int (nI 3)]) 7
  rw [← hav] at hent
  rw [hent]
  clear hent hav
  generalize (lg_sl ([.ref qm, .int (nI 2), .int (nI k), .int (nI 3)]) ++ List.replicate (7 - (lg_sl ([.ref qm, .int (nI 2), .int (nI k), .int (nI 3)])).length) Slot.unset).toArray = ls at hl ⊢
  have hl : lv_has ls 7 [(0, .ref qm), (1, .int (nI 2)), (2, .int (nI k)), (3, .int (nI 3))] := hl
  generalize hQ : MQ below _ args s 0 0 _ = Q
  have hP : va_P (gD G) vC [(qm, .inr (6, [.int (nI th), .int (nI ul), .ref xt, .int (nI pt), .ref xh, .ref xi, .ref xl, .ref xo, .ref xg, .ref xd, .int (zB ld), .ref xs, .int (nI stt), .int (nI sts), .int (nI drw), .ref xn, .ref xb, .ref xv, .int (nI bd), .int (nI rd)])), (xt, aI G 400 tx), (xl, aI G 300 fl)] s.heap := hP
  obtain ⟨H, hH⟩ : ∃ H : Heap, H = s.heap := ⟨_, rfl⟩
  obtain ⟨locs, hlc⟩ : ∃ L : List Loc, L = [] := ⟨_, rfl⟩
  have hS : va_S A s.heap H locs := by rw [hH, hlc]; exact hS
  have hP : va_P (gD G) vC [(qm, .inr (6, [.int (nI th), .int (nI ul), .ref xt, .int (nI pt), .ref xh, .ref xi, .ref xl, .ref xo, .ref xg, .ref xd, .int (zB ld), .ref xs, .int (nI stt), .int (nI sts), .int (nI drw), .ref xn, .ref xb, .ref xv, .int (nI bd), .int (nI rd)])), (xt, aI G 400 tx), (xl, aI G 300 fl)] H := by rw [hH]; exact hP
  have hgo : W p l e R s m args below meth c H locs 0 0 Q (F0 m 0 ls []) := by
    clear hH hlc
    refine lv_iconst (v := nI 0) hx hb dM_line_0 (by decide) ?_
    refine lv_istore (lv' := [(4, .int (nI 0)), (0, .ref qm), (1, .int (nI 2)), (2, .int (nI k)), (3, .int (nI 3))]) hx hb dM_line_1 hl (by decide) rfl (fun ls hl => ?_)
    refine lv_iload hx hb dM_line_3 (lv_at hl 0 rfl) ?_
    refine lv_iload_n hx hb dM_line_5 rfl (lv_at hl 4 rfl) ?_
    refine lv_icmp_ge (tgt := 167) hx hb dM_line_6 rfl (fun h6 => (by revert h6; first | decide | exact fun z => absurd z (by decide) | exact fun z => z.elim (by decide))) (fun _ => ?_)
    refine lv_iload_n hx hb dM_line_9 rfl (lv_at hl 2 rfl) ?_
    refine lv_iconst (v := nI 2) hx hb dM_line_10 (by decide) ?_
    refine lv_icmp_ne (tgt := 33) hx hb dM_line_11 rfl (fun h11 => (by revert h11; first | decide | exact fun z => absurd z (by decide) | exact fun z => z.elim (by decide))) (fun _ => ?_)
    refine lv_iload hx hb dM_line_14 (lv_at hl 0 rfl) ?_
    refine lv_iconst (v := nI 2) hx hb dM_line_16 (by decide) ?_
    refine lv_icmp_ne (tgt := 33) hx hb dM_line_17 rfl (fun _ => ?_) (fun h17 => (by revert h17; first | decide | exact fun z => absurd z (by decide) | exact fun z => z.elim (by decide)))
    refine lv_iconst (v := nI 0) hx hb dM_line_33 (by decide) ?_
    refine lv_istore (lv' := [(5, .int (nI 0)), (4, .int (nI 0)), (0, .ref qm), (1, .int (nI 2)), (2, .int (nI k)), (3, .int (nI 3))]) hx hb dM_line_34 hl (by decide) rfl (fun ls hl => ?_)
    refine lv_iload hx hb dM_line_36 (lv_at hl 1 rfl) ?_
    refine lv_if_le (tgt := 57) hx hb dM_line_38 rfl (fun _ => ?_) (fun h38 => (by revert h38; first | decide | exact fun z => absurd z (by decide) | exact fun z => z.elim (by decide)))
    refine lv_iload hx hb dM_line_57 (lv_at hl 0 rfl) ?_
    refine lv_if_eq (tgt := 66) hx hb dM_line_59 rfl (fun _ => ?_) (fun h59 => (by revert h59; first | decide | exact fun z => absurd z (by decide) | exact fun z => z.elim (by decide)))
    refine lv_aload_n hx hb dM_line_66 rfl (lv_at hl 2 rfl) ?_
    refine k_i (ws2 := fun u => [(qm, .inr (6, [.int (nI th), .int (nI ul), .ref xt, .int (nI (u)), .ref xh, .ref xi, .ref xl, .ref xo, .ref xg, .ref xd, .int (zB ld), .ref xs, .int (nI stt), .int (nI sts), .int (nI drw), .ref xn, .ref xb, .ref xv, .int (nI bd), .int (nI rd)])), (xt, aI G 400 tx), (xl, aI G 300 fl)]) (wr := [(xl, aI G 300 fl)]) (k_runV (n := 0) (As := []) (rest := []) hx hb hml hown htb hP hD hK hS hA hE (k_M_number l G H.size qm xt xh xi xl xo xg xd xs xn xb xv th ul pt ld stt sts drw bd rd tx (show ul ≤ 400 from by omega) (show pt ≤ ul from by omega) (show ∀ j, tx j < 128 from by omega)) b772 b774 s34 b7 b775 (by decide +kernel) rfl rfl ⟨by rw [hRf]; exact Nat.le_of_ble_eq_true rfl, by rw [hRl]; exact Nat.le_of_ble_eq_true rfl⟩ [0, 1] rfl (by decide) 0 rfl rfl rfl rfl hl.1 rfl (Nat.le_of_ble_eq_true rfl) dM_line_67 ⟨Nat.zero_le _, Nat.zero_le _⟩) hP hD hS hA [0, 1] [2] [1, 2, 0] rfl rfl (by decide) (by decide) (fun u => rfl) (by decide) (fun r u H locs hw hP hD hS => ?_)
    rcases hw with ⟨v67, z67, hc67_e, hc67_b, rfl, rfl⟩ | ⟨z67, hc67_e, hc67_b, rfl, rfl⟩
    · skip
      have hP : va_P (gD G) vC [(qm, .inr (6, [.int (nI th), .int (nI ul), .ref xt, .int (nI z67), .ref xh, .ref xi, .ref xl, .ref xo, .ref xg, .ref xd, .int (zB ld), .ref xs, .int (nI stt), .int (nI sts), .int (nI drw), .ref xn, .ref xb, .ref xv, .int (nI bd), .int (nI rd)])), (xt, aI G 400 tx), (xl, aI G 300 fl)] H := hP
      have hD : va_D A [(qm, .inr (6, [.int (nI th), .int (nI ul), .ref xt, .int (nI z67), .ref xh, .ref xi, .ref xl, .ref xo, .ref xg, .ref xd, .int (zB ld), .ref xs, .int (nI stt), .int (nI sts), .int (nI drw), .ref xn, .ref xb, .ref xv, .int (nI bd), .int (nI rd)])), (xt, aI G 400 tx), (xl, aI G 300 fl)] := hD
      refine lv_istore (lv' := [(6, .int (nI v67)), (5, .int (nI 0)), (4, .int (nI 0)), (0, .ref qm), (1, .int (nI 2)), (2, .int (nI k)), (3, .int (nI 3))]) hx hb dM_line_70 hl (by decide) rfl (fun ls hl => ?_)
      refine lv_iload hx hb dM_line_72 (lv_at hl 0 rfl) ?_
      refine lv_if_ge (tgt := 79) hx hb dM_line_74 rfl (fun h74 => ?_) (fun h74 => ?_)
      · have h74 : 0 ≤ v67 := (nI_leI (a := 0) (b := v67) (by omega) (by omega)).mp h74
        refine lv_iload_n hx hb dM_line_79 rfl (lv_at hl 4 rfl) ?_
        refine lv_if_ne (tgt := 95) hx hb dM_line_80 rfl (fun _ => ?_) (fun h80 => (by revert h80; first | decide | exact fun z => absurd z (by decide) | exact fun z => z.elim (by decide)))
        refine lv_iload_n hx hb dM_line_95 rfl (lv_at hl 4 rfl) ?_
        refine lv_iconst (v := nI 1) hx hb dM_line_96 (by decide) ?_
        refine lv_icmp_ne (tgt := 111) hx hb dM_line_97 rfl (fun _ => ?_) (fun h97 => (by revert h97; first | decide | exact fun z => absurd z (by decide) | exact fun z => z.elim (by decide)))
        refine lv_iload_n hx hb dM_line_111 rfl (lv_at hl 4 rfl) ?_
        refine lv_iconst (v := nI 2) hx hb dM_line_112 (by decide) ?_
        refine lv_icmp_ne (tgt := 132) hx hb dM_line_113 rfl (fun h113 => (by revert h113; first | decide | exact fun z => absurd z (by decide) | exact fun z => z.elim (by decide))) (fun _ => ?_)
        refine lv_aload_n hx hb dM_line_116 rfl (lv_at hl 3 rfl) ?_
        refine va_get (D := gD G) (ci := 6) (v := .ref xl) (C := "CircuitProverModel") (T := TM) (N := 20) hx hb htb inM hown hK hP 0 rfl rfl 6 (by decide) (htb _ b677) (fun _ h9 => h9) rfl dM_line_117 ?_
        refine lv_iconst (v := nI 3) hx hb dM_line_120 (by decide) ?_
        refine lv_iload_n hx hb dM_line_121 rfl (lv_at hl 5 rfl) ?_
        refine lv_imul hx hb dM_line_122 ?_
        refine k_toi (y := nI (3 * k)) (pk_mul _ _) ?_
        refine lv_iload hx hb dM_line_123 (lv_at hl 2 rfl) ?_
        refine lv_iadd hx hb dM_line_125 ?_
        refine k_toi (y := nI ((3 * k) + 0)) (nI_add _ _) ?_
        refine lv_iload hx hb dM_line_126 (lv_at hl 0 rfl) ?_
        refine k_iast hx hb hK hP hD hS 2 rfl (k := (3 * k) + 0) (v := v67) (by omega) (by decide) dM_line_128 (fun H locs hP hD hS => ?_)
        have hP : va_P (gD G) vC [(qm, .inr (6, [.int (nI th), .int (nI ul), .ref xt, .int (nI z67), .ref xh, .ref xi, .ref xl, .ref xo, .ref xg, .ref xd, .int (zB ld), .ref xs, .int (nI stt), .int (nI sts), .int (nI drw), .ref xn, .ref xb, .ref xv, .int (nI bd), .int (nI rd)])), (xt, aI G 400 tx), (xl, aI G 300 (va_up fl ((3 * k) + 0) v67))] H := hP
        have hD : va_D A [(qm, .inr (6, [.int (nI th), .int (nI ul), .ref xt, .int (nI z67), .ref xh, .ref xi, .ref xl, .ref xo, .ref xg, .ref xd, .int (zB ld), .ref xs, .int (nI stt), .int (nI sts), .int (nI drw), .ref xn, .ref xb, .ref xv, .int (nI bd), .int (nI rd)])), (xt, aI G 400 tx), (xl, aI G 300 (va_up fl ((3 * k) + 0) v67))] := hD
        refine lv_goto (tgt := 161) hx hb dM_line_129 rfl ?_
        refine lv_iinc (v := nI 1) (lv' := [(4, .int (nI 1)), (6, .int (nI v67)), (5, .int (nI 0)), (0, .ref qm), (1, .int (nI 2)), (2, .int (nI k)), (3, .int (nI 3))]) hx hb dM_line_161 hl (k := 2) rfl (nI_add _ 1) (by decide) rfl (fun ls hl => ?_)
        refine lv_goto (tgt := 3) hx hb dM_line_164 rfl ?_
        refine lv_iload hx hb dM_line_3 (lv_at hl 0 rfl) ?_
        refine lv_iload_n hx hb dM_line_5 rfl (lv_at hl 6 rfl) ?_
        refine lv_icmp_ge (tgt := 167) hx hb dM_line_6 rfl (fun h6 => (by revert h6; first | decide | exact fun z => absurd z (by decide) | exact fun z => z.elim (by decide))) (fun _ => ?_)
        refine lv_iload_n hx hb dM_line_9 rfl (lv_at hl 4 rfl) ?_
        refine lv_iconst (v := nI 2) hx hb dM_line_10 (by decide) ?_
        refine lv_icmp_ne (tgt := 33) hx hb dM_line_11 rfl (fun h11 => (by revert h11; first | decide | exact fun z => absurd z (by decide) | exact fun z => z.elim (by decide))) (fun _ => ?_)
        refine lv_iload hx hb dM_line_14 (lv_at hl 0 rfl) ?_
        refine lv_iconst (v := nI 2) hx hb dM_line_16 (by decide) ?_
        refine lv_icmp_ne (tgt := 33) hx hb dM_line_17 rfl (fun _ => ?_) (fun h17 => (by revert h17; first | decide | exact fun z => absurd z (by decide) | exact fun z => z.elim (by decide)))
        refine lv_iconst (v := nI 0) hx hb dM_line_33 (by decide) ?_
        refine lv_istore (lv' := [(5, .int (nI 0)), (4, .int (nI 1)), (6, .int (nI v67)), (0, .ref qm), (1, .int (nI 2)), (2, .int (nI k)), (3, .int (nI 3))]) hx hb dM_line_34 hl (by decide) rfl (fun ls hl => ?_)
        refine lv_iload hx hb dM_line_36 (lv_at hl 1 rfl) ?_
        refine lv_if_le (tgt := 57) hx hb dM_line_38 rfl (fun h38 => (by revert h38; first | decide | exact fun z => absurd z (by decide) | exact fun z => z.elim (by decide))) (fun _ => ?_)
        refine lv_iload hx hb dM_line_41 (lv_at hl 0 rfl) ?_
        refine lv_if_ne (tgt := 57) hx hb dM_line_43 rfl (fun h43 => (by revert h43; first | decide | exact fun z => absurd z (by decide) | exact fun z => z.elim (by decide))) (fun _ => ?_)
        refine lv_aload_n hx hb dM_line_46 rfl (lv_at hl 3 rfl) ?_
        refine lv_bipush (v := nI 32) hx hb dM_line_47 (by decide) ?_
        refine k_i (ws2 := fun u => [(qm, .inr (6, [.int (nI th), .int (nI ul), .ref xt, .int (nI (u)), .ref xh, .ref xi, .ref xl, .ref xo, .ref xg, .ref xd, .int (zB ld), .ref xs, .int (nI stt), .int (nI sts), .int (nI drw), .ref xn, .ref xb, .ref xv, .int (nI bd), .int (nI rd)])), (xt, aI G 400 tx), (xl, aI G 300 (va_up fl ((3 * k) + 0) v67))]) (wr := [(xl, aI G 300 (va_up fl ((3 * k) + 0) v67))]) (k_runV (n := 1) (As := [.int (nI 32)]) (rest := []) hx hb hml hown htb hP hD hK hS hA hE (k_M_eat l G H.size qm xt xh xi xl xo xg xd xs xn xb xv th ul z67 ld stt sts drw bd rd tx 32 (show ul ≤ 400 from by omega) (show z67 ≤ ul from by omega) (show ∀ j, tx j < 128 from by omega) (show 0 < 32 ∧ 32 < 128 from by omega)) b760 b762 s31 b7 b763 (by decide +kernel) rfl rfl ⟨by rw [hRf]; exact Nat.le_of_ble_eq_true rfl, by rw [hRl]; exact Nat.le_of_ble_eq_true rfl⟩ [0, 1] rfl (by decide) 0 rfl rfl rfl rfl hl.1 rfl (Nat.le_of_ble_eq_true rfl) dM_line_49 ⟨Nat.zero_le _, Nat.zero_le _⟩) hP hD hS hA [0, 1] [2] [1, 2, 0] rfl rfl (by decide) (by decide) (fun u => rfl) (by decide) (fun r u H locs hw hP hD hS => ?_)
        rcases hw with ⟨hc49_e, hc49_b, rfl, rfl⟩ | ⟨hc49_e, rfl, rfl⟩
        · skip
          have hP : va_P (gD G) vC [(qm, .inr (6, [.int (nI th), .int (nI ul), .ref xt, .int (nI (z67 + 1)), .ref xh, .ref xi, .ref xl, .ref xo, .ref xg, .ref xd, .int (zB ld), .ref xs, .int (nI stt), .int (nI sts), .int (nI drw), .ref xn, .ref xb, .ref xv, .int (nI bd), .int (nI rd)])), (xt, aI G 400 tx), (xl, aI G 300 (va_up fl ((3 * k) + 0) v67))] H := hP
          have hD : va_D A [(qm, .inr (6, [.int (nI th), .int (nI ul), .ref xt, .int (nI (z67 + 1)), .ref xh, .ref xi, .ref xl, .ref xo, .ref xg, .ref xd, .int (zB ld), .ref xs, .int (nI stt), .int (nI sts), .int (nI drw), .ref xn, .ref xb, .ref xv, .int (nI bd), .int (nI rd)])), (xt, aI G 400 tx), (xl, aI G 300 (va_up fl ((3 * k) + 0) v67))] := hD
          refine lv_if_ne (tgt := 57) hx hb dM_line_52 rfl (fun _ => ?_) (fun h52 => (by revert h52; first | decide | exact fun z => absurd z (by decide) | exact fun z => z.elim (by decide)))
          refine lv_iload hx hb dM_line_57 (lv_at hl 0 rfl) ?_
          refine lv_if_eq (tgt := 66) hx hb dM_line_59 rfl (fun _ => ?_) (fun h59 => (by revert h59; first | decide | exact fun z => absurd z (by decide) | exact fun z => z.elim (by decide)))
          refine lv_aload_n hx hb dM_line_66 rfl (lv_at hl 3 rfl) ?_
          refine k_i (ws2 := fun u => [(qm, .inr (6, [.int (nI th), .int (nI ul), .ref xt, .int (nI (u)), .ref xh, .ref xi, .ref xl, .ref xo, .ref xg, .ref xd, .int (zB ld), .ref xs, .int (nI stt), .int (nI sts), .int (nI drw), .ref xn, .ref xb, .ref xv, .int (nI bd), .int (nI rd)])), (xt, aI G 400 tx), (xl, aI G 300 (va_up fl ((3 * k) + 0) v67))]) (wr := [(xl, aI G 300 (va_up fl ((3 * k) + 0) v67))]) (k_runV (n := 0) (As := []) (rest := []) hx hb hml hown htb hP hD hK hS hA hE (k_M_number l G H.size qm xt xh xi xl xo xg xd xs xn xb xv th ul (z67 + 1) ld stt sts drw bd rd tx (show ul ≤ 400 from by omega) (show (z67 + 1) ≤ ul from by omega) (show ∀ j, tx j < 128 from by omega)) b772 b774 s34 b7 b775 (by decide +kernel) rfl rfl ⟨by rw [hRf]; exact Nat.le_of_ble_eq_true rfl, by rw [hRl]; exact Nat.le_of_ble_eq_true rfl⟩ [0, 1] rfl (by decide) 0 rfl rfl rfl rfl hl.1 rfl (Nat.le_of_ble_eq_true rfl) dM_line_67 ⟨Nat.zero_le _, Nat.zero_le _⟩) hP hD hS hA [0, 1] [2] [1, 2, 0] rfl rfl (by decide) (by decide) (fun u => rfl) (by decide) (fun r u H locs hw hP hD hS => ?_)
          rcases hw with ⟨v67_2, z67_2, hc67_2_e, hc67_2_b, rfl, rfl⟩ | ⟨z67_2, hc67_2_e, hc67_2_b, rfl, rfl⟩
          · skip
            have hP : va_P (gD G) vC [(qm, .inr (6, [.int (nI th), .int (nI ul), .ref xt, .int (nI z67_2), .ref xh, .ref xi, .ref xl, .ref xo, .ref xg, .ref xd, .int (zB ld), .ref xs, .int (nI stt), .int (nI sts), .int (nI drw), .ref xn, .ref xb, .ref xv, .int (nI bd), .int (nI rd)])), (xt, aI G 400 tx), (xl, aI G 300 (va_up fl ((3 * k) + 0) v67))] H := hP
            have hD : va_D A [(qm, .inr (6, [.int (nI th), .int (nI ul), .ref xt, .int (nI z67_2), .ref xh, .ref xi, .ref xl, .ref xo, .ref xg, .ref xd, .int (zB ld), .ref xs, .int (nI stt), .int (nI sts), .int (nI drw), .ref xn, .ref xb, .ref xv, .int (nI bd), .int (nI rd)])), (xt, aI G 400 tx), (xl, aI G 300 (va_up fl ((3 * k) + 0) v67))] := hD
            refine lv_istore (lv' := [(6, .int (nI v67_2)), (5, .int (nI 0)), (4, .int (nI 1)), (0, .ref qm), (1, .int (nI 2)), (2, .int (nI k)), (3, .int (nI 3))]) hx hb dM_line_70 hl (by decide) rfl (fun ls hl => ?_)
            refine lv_iload hx hb dM_line_72 (lv_at hl 0 rfl) ?_
            refine lv_if_ge (tgt := 79) hx hb dM_line_74 rfl (fun h74 => ?_) (fun h74 => ?_)
            · have h74 : 0 ≤ v67_2 := (nI_leI (a := 0) (b := v67_2) (by omega) (by omega)).mp h74
              refine lv_iload_n hx hb dM_line_79 rfl (lv_at hl 4 rfl) ?_
              refine lv_if_ne (tgt := 95) hx hb dM_line_80 rfl (fun _ => ?_) (fun h80 => (by revert h80; first | decide | exact fun z => absurd z (by decide) | exact fun z => z.elim (by decide)))
              refine lv_iload_n hx hb dM_line_95 rfl (lv_at hl 4 rfl) ?_
              refine lv_iconst (v := nI 1) hx hb dM_line_96 (by decide) ?_
              refine lv_icmp_ne (tgt := 111) hx hb dM_line_97 rfl (fun _ => ?_) (fun h97 => (by revert h97; first | decide | exact fun z => absurd z (by decide) | exact fun z => z.elim (by decide)))
              refine lv_iload_n hx hb dM_line_111 rfl (lv_at hl 4 rfl) ?_
              refine lv_iconst (v := nI 2) hx hb dM_line_112 (by decide) ?_
              refine lv_icmp_ne (tgt := 132) hx hb dM_line_113 rfl (fun h113 => (by revert h113; first | decide | exact fun z => absurd z (by decide) | exact fun z => z.elim (by decide))) (fun _ => ?_)
              refine lv_aload_n hx hb dM_line_116 rfl (lv_at hl 3 rfl) ?_
              refine va_get (D := gD G) (ci := 6) (v := .ref xl) (C := "CircuitProverModel") (T := TM) (N := 20) hx hb htb inM hown hK hP 0 rfl rfl 6 (by decide) (htb _ b677) (fun _ h9 => h9) rfl dM_line_117 ?_
              refine lv_iconst (v := nI 3) hx hb dM_line_120 (by decide) ?_
              refine lv_iload_n hx hb dM_line_121 rfl (lv_at hl 5 rfl) ?_
              refine lv_imul hx hb dM_line_122 ?_
              refine k_toi (y := nI (3 * k)) (pk_mul _ _) ?_
              refine lv_iload hx hb dM_line_123 (lv_at hl 2 rfl) ?_
              refine lv_iadd hx hb dM_line_125 ?_
              refine k_toi (y := nI ((3 * k) + 1)) (nI_add _ _) ?_
              refine lv_iload hx hb dM_line_126 (lv_at hl 0 rfl) ?_
              refine k_iast hx hb hK hP hD hS 2 rfl (k := (3 * k) + 1) (v := v67_2) (by omega) (by decide) dM_line_128 (fun H locs hP hD hS => ?_)
              have hP : va_P (gD G) vC [(qm, .inr (6, [.int (nI th), .int (nI ul), .ref xt, .int (nI z67_2), .ref xh, .ref xi, .ref xl, .ref xo, .ref xg, .ref xd, .int (zB ld), .ref xs, .int (nI stt), .int (nI sts), .int (nI drw), .ref xn, .ref xb, .ref xv, .int (nI bd), .int (nI rd)])), (xt, aI G 400 tx), (xl, aI G 300 (va_up (va_up fl ((3 * k) + 0) v67) ((3 * k) + 1) v67_2))] H := hP
              have hD : va_D A [(qm, .inr (6, [.int (nI th), .int (nI ul), .ref xt, .int (nI z67_2), .ref xh, .ref xi, .ref xl, .ref xo, .ref xg, .ref xd, .int (zB ld), .ref xs, .int (nI stt), .int (nI sts), .int (nI drw), .ref xn, .ref xb, .ref xv, .int (nI bd), .int (nI rd)])), (xt, aI G 400 tx), (xl, aI G 300 (va_up (va_up fl ((3 * k) + 0) v67) ((3 * k) + 1) v67_2))] := hD
              refine lv_goto (tgt := 161) hx hb dM_line_129 rfl ?_
              refine lv_iinc (v := nI 2) (lv' := [(4, .int (nI 2)), (6, .int (nI v67_2)), (5, .int (nI 0)), (0, .ref qm), (1, .int (nI 2)), (2, .int (nI k)), (3, .int (nI 3))]) hx hb dM_line_161 hl (k := 2) rfl (nI_add _ 1) (by decide) rfl (fun ls hl => ?_)
              refine lv_goto (tgt := 3) hx hb dM_line_164 rfl ?_
              refine lv_iload hx hb dM_line_3 (lv_at hl 0 rfl) ?_
              refine lv_iload_n hx hb dM_line_5 rfl (lv_at hl 6 rfl) ?_
              refine lv_icmp_ge (tgt := 167) hx hb dM_line_6 rfl (fun h6 => (by revert h6; first | decide | exact fun z => absurd z (by decide) | exact fun z => z.elim (by decide))) (fun _ => ?_)
              refine lv_iload_n hx hb dM_line_9 rfl (lv_at hl 4 rfl) ?_
              refine lv_iconst (v := nI 2) hx hb dM_line_10 (by decide) ?_
              refine lv_icmp_ne (tgt := 33) hx hb dM_line_11 rfl (fun h11 => (by revert h11; first | decide | exact fun z => absurd z (by decide) | exact fun z => z.elim (by decide))) (fun _ => ?_)
              refine lv_iload hx hb dM_line_14 (lv_at hl 0 rfl) ?_
              refine lv_iconst (v := nI 2) hx hb dM_line_16 (by decide) ?_
              refine lv_icmp_ne (tgt := 33) hx hb dM_line_17 rfl (fun h17 => (by revert h17; first | decide | exact fun z => absurd z (by decide) | exact fun z => z.elim (by decide))) (fun _ => ?_)
              refine lv_aload_n hx hb dM_line_20 rfl (lv_at hl 3 rfl) ?_
              refine k_i (ws2 := fun u => [(qm, .inr (6, [.int (nI th), .int (nI ul), .ref xt, .int (nI z67_2), .ref xh, .ref xi, .ref xl, .ref xo, .ref xg, .ref xd, .int (zB ld), .ref xs, .int (nI stt), .int (nI sts), .int (nI drw), .ref xn, .ref xb, .ref xv, .int (nI bd), .int (nI rd)])), (xt, aI G 400 tx), (xl, aI G 300 (va_up (va_up fl ((3 * k) + 0) v67) ((3 * k) + 1) v67_2))]) (wr := [(xl, aI G 300 (va_up (va_up fl ((3 * k) + 0) v67) ((3 * k) + 1) v67_2))]) (k_runV (n := 0) (As := []) (rest := []) hx hb hml hown htb hP hD hK hS hA hE (k_M_look l G H.size qm xt xh xi xl xo xg xd xs xn xb xv th ul z67_2 ld stt sts drw bd rd tx (show ul ≤ 400 from by omega) (show z67_2 ≤ ul from by omega) (show ∀ j, tx j < 128 from by omega)) b764 b766 s32 b7 b767 (by decide +kernel) rfl rfl ⟨by rw [hRf]; exact Nat.le_of_ble_eq_true rfl, by rw [hRl]; exact Nat.le_of_ble_eq_true rfl⟩ [0, 1] rfl (by decide) 0 rfl rfl rfl rfl hl.1 rfl (Nat.le_of_ble_eq_true rfl) dM_line_21 ⟨Nat.zero_le _, Nat.zero_le _⟩) hP hD hS hA [0, 1] [2] [1, 2, 0] rfl rfl (by decide) (by decide) (fun u => rfl) (by decide) (fun r u H locs hw hP hD hS => ?_)
              obtain ⟨rfl, rfl⟩ := hw
              have hP : va_P (gD G) vC [(qm, .inr (6, [.int (nI th), .int (nI ul), .ref xt, .int (nI z67_2), .ref xh, .ref xi, .ref xl, .ref xo, .ref xg, .ref xd, .int (zB ld), .ref xs, .int (nI stt), .int (nI sts), .int (nI drw), .ref xn, .ref xb, .ref xv, .int (nI bd), .int (nI rd)])), (xt, aI G 400 tx), (xl, aI G 300 (va_up (va_up fl ((3 * k) + 0) v67) ((3 * k) + 1) v67_2))] H := hP
              have hD : va_D A [(qm, .inr (6, [.int (nI th), .int (nI ul), .ref xt, .int (nI z67_2), .ref xh, .ref xi, .ref xl, .ref xo, .ref xg, .ref xd, .int (zB ld), .ref xs, .int (nI stt), .int (nI sts), .int (nI drw), .ref xn, .ref xb, .ref xv, .int (nI bd), .int (nI rd)])), (xt, aI G 400 tx), (xl, aI G 300 (va_up (va_up fl ((3 * k) + 0) v67) ((3 * k) + 1) v67_2))] := hD
              have hk21 := lk_lt htx ul z67_2
              refine lv_bipush (v := nI 10) hx hb dM_line_24 (by decide) ?_
              refine lv_icmp_ne (tgt := 33) hx hb dM_line_26 rfl (fun h26 => ?_) (fun h26 => ?_)
              · have h26 : ¬ lk tx ul z67_2 = 10 := fun z => h26 ((nI_eq (a := lk tx ul z67_2) (b := 10) (by omega) (by omega)).mpr z)
                refine lv_iconst (v := nI 0) hx hb dM_line_33 (by decide) ?_
                refine lv_istore (lv' := [(5, .int (nI 0)), (4, .int (nI 2)), (6, .int (nI v67_2)), (0, .ref qm), (1, .int (nI 2)), (2, .int (nI k)), (3, .int (nI 3))]) hx hb dM_line_34 hl (by decide) rfl (fun ls hl => ?_)
                refine lv_iload hx hb dM_line_36 (lv_at hl 1 rfl) ?_
                refine lv_if_le (tgt := 57) hx hb dM_line_38 rfl (fun h38 => (by revert h38; first | decide | exact fun z => absurd z (by decide) | exact fun z => z.elim (by decide))) (fun _ => ?_)
                refine lv_iload hx hb dM_line_41 (lv_at hl 0 rfl) ?_
                refine lv_if_ne (tgt := 57) hx hb dM_line_43 rfl (fun h43 => (by revert h43; first | decide | exact fun z => absurd z (by decide) | exact fun z => z.elim (by decide))) (fun _ => ?_)
                refine lv_aload_n hx hb dM_line_46 rfl (lv_at hl 3 rfl) ?_
                refine lv_bipush (v := nI 32) hx hb dM_line_47 (by decide) ?_
                refine k_i (ws2 := fun u => [(qm, .inr (6, [.int (nI th), .int (nI ul), .ref xt, .int (nI (u)), .ref xh, .ref xi, .ref xl, .ref xo, .ref xg, .ref xd, .int (zB ld), .ref xs, .int (nI stt), .int (nI sts), .int (nI drw), .ref xn, .ref xb, .ref xv, .int (nI bd), .int (nI rd)])), (xt, aI G 400 tx), (xl, aI G 300 (va_up (va_up fl ((3 * k) + 0) v67) ((3 * k) + 1) v67_2))]) (wr := [(xl, aI G 300 (va_up (va_up fl ((3 * k) + 0) v67) ((3 * k) + 1) v67_2))]) (k_runV (n := 1) (As := [.int (nI 32)]) (rest := []) hx hb hml hown htb hP hD hK hS hA hE (k_M_eat l G H.size qm xt xh xi xl xo xg xd xs xn xb xv th ul z67_2 ld stt sts drw bd rd tx 32 (show ul ≤ 400 from by omega) (show z67_2 ≤ ul from by omega) (show ∀ j, tx j < 128 from by omega) (show 0 < 32 ∧ 32 < 128 from by omega)) b760 b762 s31 b7 b763 (by decide +kernel) rfl rfl ⟨by rw [hRf]; exact Nat.le_of_ble_eq_true rfl, by rw [hRl]; exact Nat.le_of_ble_eq_true rfl⟩ [0, 1] rfl (by decide) 0 rfl rfl rfl rfl hl.1 rfl (Nat.le_of_ble_eq_true rfl) dM_line_49 ⟨Nat.zero_le _, Nat.zero_le _⟩) hP hD hS hA [0, 1] [2] [1, 2, 0] rfl rfl (by decide) (by decide) (fun u => rfl) (by decide) (fun r u H locs hw hP hD hS => ?_)
                rcases hw with ⟨hc49_2_e, hc49_2_b, rfl, rfl⟩ | ⟨hc49_2_e, rfl, rfl⟩
                · skip
                  have hP : va_P (gD G) vC [(qm, .inr (6, [.int (nI th), .int (nI ul), .ref xt, .int (nI (z67_2 + 1)), .ref xh, .ref xi, .ref xl, .ref xo, .ref xg, .ref xd, .int (zB ld), .ref xs, .int (nI stt), .int (nI sts), .int (nI drw), .ref xn, .ref xb, .ref xv, .int (nI bd), .int (nI rd)])), (xt, aI G 400 tx), (xl, aI G 300 (va_up (va_up fl ((3 * k) + 0) v67) ((3 * k) + 1) v67_2))] H := hP
                  have hD : va_D A [(qm, .inr (6, [.int (nI th), .int (nI ul), .ref xt, .int (nI (z67_2 + 1)), .ref xh, .ref xi, .ref xl, .ref xo, .ref xg, .ref xd, .int (zB ld), .ref xs, .int (nI stt), .int (nI sts), .int (nI drw), .ref xn, .ref xb, .ref xv, .int (nI bd), .int (nI rd)])), (xt, aI G 400 tx), (xl, aI G 300 (va_up (va_up fl ((3 * k) + 0) v67) ((3 * k) + 1) v67_2))] := hD
                  refine lv_if_ne (tgt := 57) hx hb dM_line_52 rfl (fun _ => ?_) (fun h52 => (by revert h52; first | decide | exact fun z => absurd z (by decide) | exact fun z => z.elim (by decide)))
                  refine lv_iload hx hb dM_line_57 (lv_at hl 0 rfl) ?_
                  refine lv_if_eq (tgt := 66) hx hb dM_line_59 rfl (fun _ => ?_) (fun h59 => (by revert h59; first | decide | exact fun z => absurd z (by decide) | exact fun z => z.elim (by decide)))
                  refine lv_aload_n hx hb dM_line_66 rfl (lv_at hl 3 rfl) ?_
                  refine k_i (ws2 := fun u => [(qm, .inr (6, [.int (nI th), .int (nI ul), .ref xt, .int (nI (u)), .ref xh, .ref xi, .ref xl, .ref xo, .ref xg, .ref xd, .int (zB ld), .ref xs, .int (nI stt), .int (nI sts), .int (nI drw), .ref xn, .ref xb, .ref xv, .int (nI bd), .int (nI rd)])), (xt, aI G 400 tx), (xl, aI G 300 (va_up (va_up fl ((3 * k) + 0) v67) ((3 * k) + 1) v67_2))]) (wr := [(xl, aI G 300 (va_up (va_up fl ((3 * k) + 0) v67) ((3 * k) + 1) v67_2))]) (k_runV (n := 0) (As := []) (rest := []) hx hb hml hown htb hP hD hK hS hA hE (k_M_number l G H.size qm xt xh xi xl xo xg xd xs xn xb xv th ul (z67_2 + 1) ld stt sts drw bd rd tx (show ul ≤ 400 from by omega) (show (z67_2 + 1) ≤ ul from by omega) (show ∀ j, tx j < 128 from by omega)) b772 b774 s34 b7 b775 (by decide +kernel) rfl rfl ⟨by rw [hRf]; exact Nat.le_of_ble_eq_true rfl, by rw [hRl]; exact Nat.le_of_ble_eq_true rfl⟩ [0, 1] rfl (by decide) 0 rfl rfl rfl rfl hl.1 rfl (Nat.le_of_ble_eq_true rfl) dM_line_67 ⟨Nat.zero_le _, Nat.zero_le _⟩) hP hD hS hA [0, 1] [2] [1, 2, 0] rfl rfl (by decide) (by decide) (fun u => rfl) (by decide) (fun r u H locs hw hP hD hS => ?_)
                  rcases hw with ⟨v67_3, z67_3, hc67_3_e, hc67_3_b, rfl, rfl⟩ | ⟨z67_3, hc67_3_e, hc67_3_b, rfl, rfl⟩
                  · skip
                    have hP : va_P (gD G) vC [(qm, .inr (6, [.int (nI th), .int (nI ul), .ref xt, .int (nI z67_3), .ref xh, .ref xi, .ref xl, .ref xo, .ref xg, .ref xd, .int (zB ld), .ref xs, .int (nI stt), .int (nI sts), .int (nI drw), .ref xn, .ref xb, .ref xv, .int (nI bd), .int (nI rd)])), (xt, aI G 400 tx), (xl, aI G 300 (va_up (va_up fl ((3 * k) + 0) v67) ((3 * k) + 1) v67_2))] H := hP
                    have hD : va_D A [(qm, .inr (6, [.int (nI th), .int (nI ul), .ref xt, .int (nI z67_3), .ref xh, .ref xi, .ref xl, .ref xo, .ref xg, .ref xd, .int (zB ld), .ref xs, .int (nI stt), .int (nI sts), .int (nI drw), .ref xn, .ref xb, .ref xv, .int (nI bd), .int (nI rd)])), (xt, aI G 400 tx), (xl, aI G 300 (va_up (va_up fl ((3 * k) + 0) v67) ((3 * k) + 1) v67_2))] := hD
                    refine lv_istore (lv' := [(6, .int (nI v67_3)), (5, .int (nI 0)), (4, .int (nI 2)), (0, .ref qm), (1, .int (nI 2)), (2, .int (nI k)), (3, .int (nI 3))]) hx hb dM_line_70 hl (by decide) rfl (fun ls hl => ?_)
                    refine lv_iload hx hb dM_line_72 (lv_at hl 0 rfl) ?_
                    refine lv_if_ge (tgt := 79) hx hb dM_line_74 rfl (fun h74 => ?_) (fun h74 => ?_)
                    · have h74 : 0 ≤ v67_3 := (nI_leI (a := 0) (b := v67_3) (by omega) (by omega)).mp h74
                      refine lv_iload_n hx hb dM_line_79 rfl (lv_at hl 4 rfl) ?_
                      refine lv_if_ne (tgt := 95) hx hb dM_line_80 rfl (fun _ => ?_) (fun h80 => (by revert h80; first | decide | exact fun z => absurd z (by decide) | exact fun z => z.elim (by decide)))
                      refine lv_iload_n hx hb dM_line_95 rfl (lv_at hl 4 rfl) ?_
                      refine lv_iconst (v := nI 1) hx hb dM_line_96 (by decide) ?_
                      refine lv_icmp_ne (tgt := 111) hx hb dM_line_97 rfl (fun _ => ?_) (fun h97 => (by revert h97; first | decide | exact fun z => absurd z (by decide) | exact fun z => z.elim (by decide)))
                      refine lv_iload_n hx hb dM_line_111 rfl (lv_at hl 4 rfl) ?_
                      refine lv_iconst (v := nI 2) hx hb dM_line_112 (by decide) ?_
                      refine lv_icmp_ne (tgt := 132) hx hb dM_line_113 rfl (fun h113 => (by revert h113; first | decide | exact fun z => absurd z (by decide) | exact fun z => z.elim (by decide))) (fun _ => ?_)
                      refine lv_aload_n hx hb dM_line_116 rfl (lv_at hl 3 rfl) ?_
                      refine va_get (D := gD G) (ci := 6) (v := .ref xl) (C := "CircuitProverModel") (T := TM) (N := 20) hx hb htb inM hown hK hP 0 rfl rfl 6 (by decide) (htb _ b677) (fun _ h9 => h9) rfl dM_line_117 ?_
                      refine lv_iconst (v := nI 3) hx hb dM_line_120 (by decide) ?_
                      refine lv_iload_n hx hb dM_line_121 rfl (lv_at hl 5 rfl) ?_
                      refine lv_imul hx hb dM_line_122 ?_
                      refine k_toi (y := nI (3 * k)) (pk_mul _ _) ?_
                      refine lv_iload hx hb dM_line_123 (lv_at hl 2 rfl) ?_
                      refine lv_iadd hx hb dM_line_125 ?_
                      refine k_toi (y := nI ((3 * k) + 2)) (nI_add _ _) ?_
                      refine lv_iload hx hb dM_line_126 (lv_at hl 0 rfl) ?_
                      refine k_iast hx hb hK hP hD hS 2 rfl (k := (3 * k) + 2) (v := v67_3) (by omega) (by decide) dM_line_128 (fun H locs hP hD hS => ?_)
                      have hP : va_P (gD G) vC [(qm, .inr (6, [.int (nI th), .int (nI ul), .ref xt, .int (nI z67_3), .ref xh, .ref xi, .ref xl, .ref xo, .ref xg, .ref xd, .int (zB ld), .ref xs, .int (nI stt), .int (nI sts), .int (nI drw), .ref xn, .ref xb, .ref xv, .int (nI bd), .int (nI rd)])), (xt, aI G 400 tx), (xl, aI G 300 (va_up (va_up (va_up fl ((3 * k) + 0) v67) ((3 * k) + 1) v67_2) ((3 * k) + 2) v67_3))] H := hP
                      have hD : va_D A [(qm, .inr (6, [.int (nI th), .int (nI ul), .ref xt, .int (nI z67_3), .ref xh, .ref xi, .ref xl, .ref xo, .ref xg, .ref xd, .int (zB ld), .ref xs, .int (nI stt), .int (nI sts), .int (nI drw), .ref xn, .ref xb, .ref xv, .int (nI bd), .int (nI rd)])), (xt, aI G 400 tx), (xl, aI G 300 (va_up (va_up (va_up fl ((3 * k) + 0) v67) ((3 * k) + 1) v67_2) ((3 * k) + 2) v67_3))] := hD
                      refine lv_goto (tgt := 161) hx hb dM_line_129 rfl ?_
                      refine lv_iinc (v := nI 3) (lv' := [(4, .int (nI 3)), (6, .int (nI v67_3)), (5, .int (nI 0)), (0, .ref qm), (1, .int (nI 2)), (2, .int (nI k)), (3, .int (nI 3))]) hx hb dM_line_161 hl (k := 2) rfl (nI_add _ 1) (by decide) rfl (fun ls hl => ?_)
                      refine lv_goto (tgt := 3) hx hb dM_line_164 rfl ?_
                      refine lv_iload hx hb dM_line_3 (lv_at hl 0 rfl) ?_
                      refine lv_iload_n hx hb dM_line_5 rfl (lv_at hl 6 rfl) ?_
                      refine lv_icmp_ge (tgt := 167) hx hb dM_line_6 rfl (fun _ => ?_) (fun h6 => (by revert h6; first | decide | exact fun z => absurd z (by decide) | exact fun z => z.elim (by decide)))
                      refine lv_aload_n hx hb dM_line_167 rfl (lv_at hl 3 rfl) ?_
                      refine lv_bipush (v := nI 10) hx hb dM_line_168 (by decide) ?_
                      refine k_i (ws2 := fun u => [(qm, .inr (6, [.int (nI th), .int (nI ul), .ref xt, .int (nI (u)), .ref xh, .ref xi, .ref xl, .ref xo, .ref xg, .ref xd, .int (zB ld), .ref xs, .int (nI stt), .int (nI sts), .int (nI drw), .ref xn, .ref xb, .ref xv, .int (nI bd), .int (nI rd)])), (xt, aI G 400 tx), (xl, aI G 300 (va_up (va_up (va_up fl ((3 * k) + 0) v67) ((3 * k) + 1) v67_2) ((3 * k) + 2) v67_3))]) (wr := [(xl, aI G 300 (va_up (va_up (va_up fl ((3 * k) + 0) v67) ((3 * k) + 1) v67_2) ((3 * k) + 2) v67_3))]) (k_runV (n := 1) (As := [.int (nI 10)]) (rest := []) hx hb hml hown htb hP hD hK hS hA hE (k_M_eat l G H.size qm xt xh xi xl xo xg xd xs xn xb xv th ul z67_3 ld stt sts drw bd rd tx 10 (show ul ≤ 400 from by omega) (show z67_3 ≤ ul from by omega) (show ∀ j, tx j < 128 from by omega) (show 0 < 10 ∧ 10 < 128 from by omega)) b760 b762 s31 b7 b763 (by decide +kernel) rfl rfl ⟨by rw [hRf]; exact Nat.le_of_ble_eq_true rfl, by rw [hRl]; exact Nat.le_of_ble_eq_true rfl⟩ [0, 1] rfl (by decide) 0 rfl rfl rfl rfl hl.1 rfl (Nat.le_of_ble_eq_true rfl) dM_line_170 ⟨Nat.zero_le _, Nat.zero_le _⟩) hP hD hS hA [0, 1] [2] [1, 2, 0] rfl rfl (by decide) (by decide) (fun u => rfl) (by decide) (fun r u H locs hw hP hD hS => ?_)
                      rcases hw with ⟨hc170_e, hc170_b, rfl, rfl⟩ | ⟨hc170_e, rfl, rfl⟩
                      · skip
                        have hP : va_P (gD G) vC [(qm, .inr (6, [.int (nI th), .int (nI ul), .ref xt, .int (nI (z67_3 + 1)), .ref xh, .ref xi, .ref xl, .ref xo, .ref xg, .ref xd, .int (zB ld), .ref xs, .int (nI stt), .int (nI sts), .int (nI drw), .ref xn, .ref xb, .ref xv, .int (nI bd), .int (nI rd)])), (xt, aI G 400 tx), (xl, aI G 300 (va_up (va_up (va_up fl ((3 * k) + 0) v67) ((3 * k) + 1) v67_2) ((3 * k) + 2) v67_3))] H := hP
                        have hD : va_D A [(qm, .inr (6, [.int (nI th), .int (nI ul), .ref xt, .int (nI (z67_3 + 1)), .ref xh, .ref xi, .ref xl, .ref xo, .ref xg, .ref xd, .int (zB ld), .ref xs, .int (nI stt), .int (nI sts), .int (nI drw), .ref xn, .ref xb, .ref xv, .int (nI bd), .int (nI rd)])), (xt, aI G 400 tx), (xl, aI G 300 (va_up (va_up (va_up fl ((3 * k) + 0) v67) ((3 * k) + 1) v67_2) ((3 * k) + 2) v67_3))] := hD
                        -- end 0
                        rw [← hQ]
                        exact k_iret hx hb hr hlocks (by decide) (u := ((z67_3 + 1), va_up (va_up (va_up fl ((3 * k) + 0) v67) ((3 * k) + 1) v67_2) ((3 * k) + 2) v67_3)) (Or.inl ⟨[v67, v67_2, v67_3], _, _, (mR_la (T := (lk tx ul)) pt).symm.trans ((mr_0 hc67_e).trans (congrArg (pre [v67]) ((mr_k hc49_e hc67_2_e).trans (congrArg (pre [v67_2]) ((mr_k hc49_2_e hc67_3_e).trans (congrArg (pre [v67_3]) (mr_z hc170_e))))))), up3.1, up3.2, hc170_b, rfl, rfl⟩) hP hD hK hS dM_line_173
                      · skip
                        have hP : va_P (gD G) vC [(qm, .inr (6, [.int (nI th), .int (nI ul), .ref xt, .int (nI z67_3), .ref xh, .ref xi, .ref xl, .ref xo, .ref xg, .ref xd, .int (zB ld), .ref xs, .int (nI stt), .int (nI sts), .int (nI drw), .ref xn, .ref xb, .ref xv, .int (nI bd), .int (nI rd)])), (xt, aI G 400 tx), (xl, aI G 300 (va_up (va_up (va_up fl ((3 * k) + 0) v67) ((3 * k) + 1) v67_2) ((3 * k) + 2) v67_3))] H := hP
                        have hD : va_D A [(qm, .inr (6, [.int (nI th), .int (nI ul), .ref xt, .int (nI z67_3), .ref xh, .ref xi, .ref xl, .ref xo, .ref xg, .ref xd, .int (zB ld), .ref xs, .int (nI stt), .int (nI sts), .int (nI drw), .ref xn, .ref xb, .ref xv, .int (nI bd), .int (nI rd)])), (xt, aI G 400 tx), (xl, aI G 300 (va_up (va_up (va_up fl ((3 * k) + 0) v67) ((3 * k) + 1) v67_2) ((3 * k) + 2) v67_3))] := hD
                        -- end 1
                        rw [← hQ]
                        exact k_iret hx hb hr hlocks (by decide) (u := (z67_3, va_up (va_up (va_up fl ((3 * k) + 0) v67) ((3 * k) + 1) v67_2) ((3 * k) + 2) v67_3)) (Or.inr ⟨_, _, (mR_la (T := (lk tx ul)) pt).symm.trans ((mr_0 hc67_e).trans (congrArg (pre [v67]) ((mr_k hc49_e hc67_2_e).trans (congrArg (pre [v67_2]) ((mr_k hc49_2_e hc67_3_e).trans (congrArg (pre [v67_3]) (mr_zn hc170_e))))))), by omega, rfl, rfl⟩) hP hD hK hS dM_line_173
                    · have h74 : v67_3 < 0 := Nat.lt_of_not_le (fun z => h74 ((nI_leI (a := 0) (b := v67_3) (by omega) (by omega)).mpr z))
                      exfalso; omega
                  · skip
                    have hP : va_P (gD G) vC [(qm, .inr (6, [.int (nI th), .int (nI ul), .ref xt, .int (nI z67_3), .ref xh, .ref xi, .ref xl, .ref xo, .ref xg, .ref xd, .int (zB ld), .ref xs, .int (nI stt), .int (nI sts), .int (nI drw), .ref xn, .ref xb, .ref xv, .int (nI bd), .int (nI rd)])), (xt, aI G 400 tx), (xl, aI G 300 (va_up (va_up fl ((3 * k) + 0) v67) ((3 * k) + 1) v67_2))] H := hP
                    have hD : va_D A [(qm, .inr (6, [.int (nI th), .int (nI ul), .ref xt, .int (nI z67_3), .ref xh, .ref xi, .ref xl, .ref xo, .ref xg, .ref xd, .int (zB ld), .ref xs, .int (nI stt), .int (nI sts), .int (nI drw), .ref xn, .ref xb, .ref xv, .int (nI bd), .int (nI rd)])), (xt, aI G 400 tx), (xl, aI G 300 (va_up (va_up fl ((3 * k) + 0) v67) ((3 * k) + 1) v67_2))] := hD
                    refine lv_istore (lv' := [(6, .int (-1)), (5, .int (nI 0)), (4, .int (nI 2)), (0, .ref qm), (1, .int (nI 2)), (2, .int (nI k)), (3, .int (nI 3))]) hx hb dM_line_70 hl (by decide) rfl (fun ls hl => ?_)
                    refine lv_iload hx hb dM_line_72 (lv_at hl 0 rfl) ?_
                    refine lv_if_ge (tgt := 79) hx hb dM_line_74 rfl (fun h74 => (by revert h74; first | decide | exact fun z => absurd z (by decide) | exact fun z => z.elim (by decide))) (fun _ => ?_)
                    refine lv_iconst (v := nI 0) hx hb dM_line_77 (by decide) ?_
                    -- end 2
                    rw [← hQ]
                    exact k_iret hx hb hr hlocks (by decide) (u := (z67_3, va_up (va_up fl ((3 * k) + 0) v67) ((3 * k) + 1) v67_2)) (Or.inr ⟨_, _, (mR_la (T := (lk tx ul)) pt).symm.trans ((mr_0 hc67_e).trans (congrArg (pre [v67]) ((mr_k hc49_e hc67_2_e).trans (congrArg (pre [v67_2]) (mr_kn hc49_2_e hc67_3_e))))), by omega, rfl, rfl⟩) hP hD hK hS dM_line_78
                · skip
                  have hP : va_P (gD G) vC [(qm, .inr (6, [.int (nI th), .int (nI ul), .ref xt, .int (nI z67_2), .ref xh, .ref xi, .ref xl, .ref xo, .ref xg, .ref xd, .int (zB ld), .ref xs, .int (nI stt), .int (nI sts), .int (nI drw), .ref xn, .ref xb, .ref xv, .int (nI bd), .int (nI rd)])), (xt, aI G 400 tx), (xl, aI G 300 (va_up (va_up fl ((3 * k) + 0) v67) ((3 * k) + 1) v67_2))] H := hP
                  have hD : va_D A [(qm, .inr (6, [.int (nI th), .int (nI ul), .ref xt, .int (nI z67_2), .ref xh, .ref xi, .ref xl, .ref xo, .ref xg, .ref xd, .int (zB ld), .ref xs, .int (nI stt), .int (nI sts), .int (nI drw), .ref xn, .ref xb, .ref xv, .int (nI bd), .int (nI rd)])), (xt, aI G 400 tx), (xl, aI G 300 (va_up (va_up fl ((3 * k) + 0) v67) ((3 * k) + 1) v67_2))] := hD
                  refine lv_if_ne (tgt := 57) hx hb dM_line_52 rfl (fun h52 => (by revert h52; first | decide | exact fun z => absurd z (by decide) | exact fun z => z.elim (by decide))) (fun _ => ?_)
                  refine lv_iconst (v := nI 0) hx hb dM_line_55 (by decide) ?_
                  -- end 3
                  rw [← hQ]
                  exact k_iret hx hb hr hlocks (by decide) (u := (z67_2, va_up (va_up fl ((3 * k) + 0) v67) ((3 * k) + 1) v67_2)) (Or.inr ⟨_, _, (mR_la (T := (lk tx ul)) pt).symm.trans ((mr_0 hc67_e).trans (congrArg (pre [v67]) ((mr_k hc49_e hc67_2_e).trans (congrArg (pre [v67_2]) (mr_ks hc49_2_e (fun _ _ => h26)))))), by omega, rfl, rfl⟩) hP hD hK hS dM_line_56
              · have h26 : lk tx ul z67_2 = 10 := (nI_eq (a := lk tx ul z67_2) (b := 10) (by omega) (by omega)).mp h26
                refine lv_iconst (v := nI 1) hx hb dM_line_29 (by decide) ?_
                refine lv_goto (tgt := 34) hx hb dM_line_30 rfl ?_
                refine lv_istore (lv' := [(5, .int (nI 1)), (4, .int (nI 2)), (6, .int (nI v67_2)), (0, .ref qm), (1, .int (nI 2)), (2, .int (nI k)), (3, .int (nI 3))]) hx hb dM_line_34 hl (by decide) rfl (fun ls hl => ?_)
                refine lv_iload hx hb dM_line_36 (lv_at hl 1 rfl) ?_
                refine lv_if_le (tgt := 57) hx hb dM_line_38 rfl (fun h38 => (by revert h38; first | decide | exact fun z => absurd z (by decide) | exact fun z => z.elim (by decide))) (fun _ => ?_)
                refine lv_iload hx hb dM_line_41 (lv_at hl 0 rfl) ?_
                refine lv_if_ne (tgt := 57) hx hb dM_line_43 rfl (fun _ => ?_) (fun h43 => (by revert h43; first | decide | exact fun z => absurd z (by decide) | exact fun z => z.elim (by decide)))
                refine lv_iload hx hb dM_line_57 (lv_at hl 0 rfl) ?_
                refine lv_if_eq (tgt := 66) hx hb dM_line_59 rfl (fun h59 => (by revert h59; first | decide | exact fun z => absurd z (by decide) | exact fun z => z.elim (by decide))) (fun _ => ?_)
                refine lv_iconst (v := nI 0) hx hb dM_line_62 (by decide) ?_
                refine lv_goto (tgt := 70) hx hb dM_line_63 rfl ?_
                refine lv_istore (lv' := [(6, .int (nI 0)), (5, .int (nI 1)), (4, .int (nI 2)), (0, .ref qm), (1, .int (nI 2)), (2, .int (nI k)), (3, .int (nI 3))]) hx hb dM_line_70 hl (by decide) rfl (fun ls hl => ?_)
                refine lv_iload hx hb dM_line_72 (lv_at hl 0 rfl) ?_
                refine lv_if_ge (tgt := 79) hx hb dM_line_74 rfl (fun _ => ?_) (fun h74 => (by revert h74; first | decide | exact fun z => absurd z (by decide) | exact fun z => z.elim (by decide)))
                refine lv_iload_n hx hb dM_line_79 rfl (lv_at hl 4 rfl) ?_
                refine lv_if_ne (tgt := 95) hx hb dM_line_80 rfl (fun _ => ?_) (fun h80 => (by revert h80; first | decide | exact fun z => absurd z (by decide) | exact fun z => z.elim (by decide)))
                refine lv_iload_n hx hb dM_line_95 rfl (lv_at hl 4 rfl) ?_
                refine lv_iconst (v := nI 1) hx hb dM_line_96 (by decide) ?_
                refine lv_icmp_ne (tgt := 111) hx hb dM_line_97 rfl (fun _ => ?_) (fun h97 => (by revert h97; first | decide | exact fun z => absurd z (by decide) | exact fun z => z.elim (by decide)))
                refine lv_iload_n hx hb dM_line_111 rfl (lv_at hl 4 rfl) ?_
                refine lv_iconst (v := nI 2) hx hb dM_line_112 (by decide) ?_
                refine lv_icmp_ne (tgt := 132) hx hb dM_line_113 rfl (fun h113 => (by revert h113; first | decide | exact fun z => absurd z (by decide) | exact fun z => z.elim (by decide))) (fun _ => ?_)
                refine lv_aload_n hx hb dM_line_116 rfl (lv_at hl 3 rfl) ?_
                refine va_get (D := gD G) (ci := 6) (v := .ref xl) (C := "CircuitProverModel") (T := TM) (N := 20) hx hb htb inM hown hK hP 0 rfl rfl 6 (by decide) (htb _ b677) (fun _ h9 => h9) rfl dM_line_117 ?_
                refine lv_iconst (v := nI 3) hx hb dM_line_120 (by decide) ?_
                refine lv_iload_n hx hb dM_line_121 rfl (lv_at hl 5 rfl) ?_
                refine lv_imul hx hb dM_line_122 ?_
                refine k_toi (y := nI (3 * k)) (pk_mul _ _) ?_
                refine lv_iload hx hb dM_line_123 (lv_at hl 2 rfl) ?_
                refine lv_iadd hx hb dM_line_125 ?_
                refine k_toi (y := nI ((3 * k) + 2)) (nI_add _ _) ?_
                refine lv_iload hx hb dM_line_126 (lv_at hl 0 rfl) ?_
                refine k_iast hx hb hK hP hD hS 2 rfl (k := (3 * k) + 2) (v := 0) (by omega) (by decide) dM_line_128 (fun H locs hP hD hS => ?_)
                have hP : va_P (gD G) vC [(qm, .inr (6, [.int (nI th), .int (nI ul), .ref xt, .int (nI z67_2), .ref xh, .ref xi, .ref xl, .ref xo, .ref xg, .ref xd, .int (zB ld), .ref xs, .int (nI stt), .int (nI sts), .int (nI drw), .ref xn, .ref xb, .ref xv, .int (nI bd), .int (nI rd)])), (xt, aI G 400 tx), (xl, aI G 300 (va_up (va_up (va_up fl ((3 * k) + 0) v67) ((3 * k) + 1) v67_2) ((3 * k) + 2) 0))] H := hP
                have hD : va_D A [(qm, .inr (6, [.int (nI th), .int (nI ul), .ref xt, .int (nI z67_2), .ref xh, .ref xi, .ref xl, .ref xo, .ref xg, .ref xd, .int (zB ld), .ref xs, .int (nI stt), .int (nI sts), .int (nI drw), .ref xn, .ref xb, .ref xv, .int (nI bd), .int (nI rd)])), (xt, aI G 400 tx), (xl, aI G 300 (va_up (va_up (va_up fl ((3 * k) + 0) v67) ((3 * k) + 1) v67_2) ((3 * k) + 2) 0))] := hD
                refine lv_goto (tgt := 161) hx hb dM_line_129 rfl ?_
                refine lv_iinc (v := nI 3) (lv' := [(4, .int (nI 3)), (6, .int (nI 0)), (5, .int (nI 1)), (0, .ref qm), (1, .int (nI 2)), (2, .int (nI k)), (3, .int (nI 3))]) hx hb dM_line_161 hl (k := 2) rfl (nI_add _ 1) (by decide) rfl (fun ls hl => ?_)
                refine lv_goto (tgt := 3) hx hb dM_line_164 rfl ?_
                refine lv_iload hx hb dM_line_3 (lv_at hl 0 rfl) ?_
                refine lv_iload_n hx hb dM_line_5 rfl (lv_at hl 6 rfl) ?_
                refine lv_icmp_ge (tgt := 167) hx hb dM_line_6 rfl (fun _ => ?_) (fun h6 => (by revert h6; first | decide | exact fun z => absurd z (by decide) | exact fun z => z.elim (by decide)))
                refine lv_aload_n hx hb dM_line_167 rfl (lv_at hl 3 rfl) ?_
                refine lv_bipush (v := nI 10) hx hb dM_line_168 (by decide) ?_
                refine k_i (ws2 := fun u => [(qm, .inr (6, [.int (nI th), .int (nI ul), .ref xt, .int (nI (u)), .ref xh, .ref xi, .ref xl, .ref xo, .ref xg, .ref xd, .int (zB ld), .ref xs, .int (nI stt), .int (nI sts), .int (nI drw), .ref xn, .ref xb, .ref xv, .int (nI bd), .int (nI rd)])), (xt, aI G 400 tx), (xl, aI G 300 (va_up (va_up (va_up fl ((3 * k) + 0) v67) ((3 * k) + 1) v67_2) ((3 * k) + 2) 0))]) (wr := [(xl, aI G 300 (va_up (va_up (va_up fl ((3 * k) + 0) v67) ((3 * k) + 1) v67_2) ((3 * k) + 2) 0))]) (k_runV (n := 1) (As := [.int (nI 10)]) (rest := []) hx hb hml hown htb hP hD hK hS hA hE (k_M_eat l G H.size qm xt xh xi xl xo xg xd xs xn xb xv th ul z67_2 ld stt sts drw bd rd tx 10 (show ul ≤ 400 from by omega) (show z67_2 ≤ ul from by omega) (show ∀ j, tx j < 128 from by omega) (show 0 < 10 ∧ 10 < 128 from by omega)) b760 b762 s31 b7 b763 (by decide +kernel) rfl rfl ⟨by rw [hRf]; exact Nat.le_of_ble_eq_true rfl, by rw [hRl]; exact Nat.le_of_ble_eq_true rfl⟩ [0, 1] rfl (by decide) 0 rfl rfl rfl rfl hl.1 rfl (Nat.le_of_ble_eq_true rfl) dM_line_170 ⟨Nat.zero_le _, Nat.zero_le _⟩) hP hD hS hA [0, 1] [2] [1, 2, 0] rfl rfl (by decide) (by decide) (fun u => rfl) (by decide) (fun r u H locs hw hP hD hS => ?_)
                rcases hw with ⟨hc170_e, hc170_b, rfl, rfl⟩ | ⟨hc170_e, rfl, rfl⟩
                · skip
                  have hP : va_P (gD G) vC [(qm, .inr (6, [.int (nI th), .int (nI ul), .ref xt, .int (nI (z67_2 + 1)), .ref xh, .ref xi, .ref xl, .ref xo, .ref xg, .ref xd, .int (zB ld), .ref xs, .int (nI stt), .int (nI sts), .int (nI drw), .ref xn, .ref xb, .ref xv, .int (nI bd), .int (nI rd)])), (xt, aI G 400 tx), (xl, aI G 300 (va_up (va_up (va_up fl ((3 * k) + 0) v67) ((3 * k) + 1) v67_2) ((3 * k) + 2) 0))] H := hP
                  have hD : va_D A [(qm, .inr (6, [.int (nI th), .int (nI ul), .ref xt, .int (nI (z67_2 + 1)), .ref xh, .ref xi, .ref xl, .ref xo, .ref xg, .ref xd, .int (zB ld), .ref xs, .int (nI stt), .int (nI sts), .int (nI drw), .ref xn, .ref xb, .ref xv, .int (nI bd), .int (nI rd)])), (xt, aI G 400 tx), (xl, aI G 300 (va_up (va_up (va_up fl ((3 * k) + 0) v67) ((3 * k) + 1) v67_2) ((3 * k) + 2) 0))] := hD
                  -- end 4
                  rw [← hQ]
                  exact k_iret hx hb hr hlocks (by decide) (u := ((z67_2 + 1), va_up (va_up (va_up fl ((3 * k) + 0) v67) ((3 * k) + 1) v67_2) ((3 * k) + 2) 0)) (Or.inl ⟨[v67, v67_2, 0], _, _, (mR_la (T := (lk tx ul)) pt).symm.trans ((mr_0 hc67_e).trans (congrArg (pre [v67]) ((mr_k hc49_e hc67_2_e).trans (congrArg (pre [v67_2]) ((mr_t h26).trans (congrArg (pre [0]) (mr_z hc170_e))))))), up3.1, up3.2, hc170_b, rfl, rfl⟩) hP hD hK hS dM_line_173
                · skip
                  have hP : va_P (gD G) vC [(qm, .inr (6, [.int (nI th), .int (nI ul), .ref xt, .int (nI z67_2), .ref xh, .ref xi, .ref xl, .ref xo, .ref xg, .ref xd, .int (zB ld), .ref xs, .int (nI stt), .int (nI sts), .int (nI drw), .ref xn, .ref xb, .ref xv, .int (nI bd), .int (nI rd)])), (xt, aI G 400 tx), (xl, aI G 300 (va_up (va_up (va_up fl ((3 * k) + 0) v67) ((3 * k) + 1) v67_2) ((3 * k) + 2) 0))] H := hP
                  have hD : va_D A [(qm, .inr (6, [.int (nI th), .int (nI ul), .ref xt, .int (nI z67_2), .ref xh, .ref xi, .ref xl, .ref xo, .ref xg, .ref xd, .int (zB ld), .ref xs, .int (nI stt), .int (nI sts), .int (nI drw), .ref xn, .ref xb, .ref xv, .int (nI bd), .int (nI rd)])), (xt, aI G 400 tx), (xl, aI G 300 (va_up (va_up (va_up fl ((3 * k) + 0) v67) ((3 * k) + 1) v67_2) ((3 * k) + 2) 0))] := hD
                  -- end 5
                  rw [← hQ]
                  exact k_iret hx hb hr hlocks (by decide) (u := (z67_2, va_up (va_up (va_up fl ((3 * k) + 0) v67) ((3 * k) + 1) v67_2) ((3 * k) + 2) 0)) (Or.inr ⟨_, _, (mR_la (T := (lk tx ul)) pt).symm.trans ((mr_0 hc67_e).trans (congrArg (pre [v67]) ((mr_k hc49_e hc67_2_e).trans (congrArg (pre [v67_2]) ((mr_t h26).trans (congrArg (pre [0]) (mr_zn hc170_e))))))), by omega, rfl, rfl⟩) hP hD hK hS dM_line_173
            · have h74 : v67_2 < 0 := Nat.lt_of_not_le (fun z => h74 ((nI_leI (a := 0) (b := v67_2) (by omega) (by omega)).mpr z))
              exfalso; omega
          · skip
            have hP : va_P (gD G) vC [(qm, .inr (6, [.int (nI th), .int (nI ul), .ref xt, .int (nI z67_2), .ref xh, .ref xi, .ref xl, .ref xo, .ref xg, .ref xd, .int (zB ld), .ref xs, .int (nI stt), .int (nI sts), .int (nI drw), .ref xn, .ref xb, .ref xv, .int (nI bd), .int (nI rd)])), (xt, aI G 400 tx), (xl, aI G 300 (va_up fl ((3 * k) + 0) v67))] H := hP
            have hD : va_D A [(qm, .inr (6, [.int (nI th), .int (nI ul), .ref xt, .int (nI z67_2), .ref xh, .ref xi, .ref xl, .ref xo, .ref xg, .ref xd, .int (zB ld), .ref xs, .int (nI stt), .int (nI sts), .int (nI drw), .ref xn, .ref xb, .ref xv, .int (nI bd), .int (nI rd)])), (xt, aI G 400 tx), (xl, aI G 300 (va_up fl ((3 * k) + 0) v67))] := hD
            refine lv_istore (lv' := [(6, .int (-1)), (5, .int (nI 0)), (4, .int (nI 1)), (0, .ref qm), (1, .int (nI 2)), (2, .int (nI k)), (3, .int (nI 3))]) hx hb dM_line_70 hl (by decide) rfl (fun ls hl => ?_)
            refine lv_iload hx hb dM_line_72 (lv_at hl 0 rfl) ?_
            refine lv_if_ge (tgt := 79) hx hb dM_line_74 rfl (fun h74 => (by revert h74; first | decide | exact fun z => absurd z (by decide) | exact fun z => z.elim (by decide))) (fun _ => ?_)
            refine lv_iconst (v := nI 0) hx hb dM_line_77 (by decide) ?_
            -- end 6
            rw [← hQ]
            exact k_iret hx hb hr hlocks (by decide) (u := (z67_2, va_up fl ((3 * k) + 0) v67)) (Or.inr ⟨_, _, (mR_la (T := (lk tx ul)) pt).symm.trans ((mr_0 hc67_e).trans (congrArg (pre [v67]) (mr_kn hc49_e hc67_2_e))), by omega, rfl, rfl⟩) hP hD hK hS dM_line_78
        · skip
          have hP : va_P (gD G) vC [(qm, .inr (6, [.int (nI th), .int (nI ul), .ref xt, .int (nI z67), .ref xh, .ref xi, .ref xl, .ref xo, .ref xg, .ref xd, .int (zB ld), .ref xs, .int (nI stt), .int (nI sts), .int (nI drw), .ref xn, .ref xb, .ref xv, .int (nI bd), .int (nI rd)])), (xt, aI G 400 tx), (xl, aI G 300 (va_up fl ((3 * k) + 0) v67))] H := hP
          have hD : va_D A [(qm, .inr (6, [.int (nI th), .int (nI ul), .ref xt, .int (nI z67), .ref xh, .ref xi, .ref xl, .ref xo, .ref xg, .ref xd, .int (zB ld), .ref xs, .int (nI stt), .int (nI sts), .int (nI drw), .ref xn, .ref xb, .ref xv, .int (nI bd), .int (nI rd)])), (xt, aI G 400 tx), (xl, aI G 300 (va_up fl ((3 * k) + 0) v67))] := hD
          refine lv_if_ne (tgt := 57) hx hb dM_line_52 rfl (fun h52 => (by revert h52; first | decide | exact fun z => absurd z (by decide) | exact fun z => z.elim (by decide))) (fun _ => ?_)
          refine lv_iconst (v := nI 0) hx hb dM_line_55 (by decide) ?_
          -- end 7
          rw [← hQ]
          exact k_iret hx hb hr hlocks (by decide) (u := (z67, va_up fl ((3 * k) + 0) v67)) (Or.inr ⟨_, _, (mR_la (T := (lk tx ul)) pt).symm.trans ((mr_0 hc67_e).trans (congrArg (pre [v67]) (mr_ks hc49_e (fun _ q => absurd q (by decide))))), by omega, rfl, rfl⟩) hP hD hK hS dM_line_56
      · have h74 : v67 < 0 := Nat.lt_of_not_le (fun z => h74 ((nI_leI (a := 0) (b := v67) (by omega) (by omega)).mpr z))
        exfalso; omega
    · skip
      have hP : va_P (gD G) vC [(qm, .inr (6, [.int (nI th), .int (nI ul), .ref xt, .int (nI z67), .ref xh, .ref xi, .ref xl, .ref xo, .ref xg, .ref xd, .int (zB ld), .ref xs, .int (nI stt), .int (nI sts), .int (nI drw), .ref xn, .ref xb, .ref xv, .int (nI bd), .int (nI rd)])), (xt, aI G 400 tx), (xl, aI G 300 fl)] H := hP
      have hD : va_D A [(qm, .inr (6, [.int (nI th), .int (nI ul), .ref xt, .int (nI z67), .ref xh, .ref xi, .ref xl, .ref xo, .ref xg, .ref xd, .int (zB ld), .ref xs, .int (nI stt), .int (nI sts), .int (nI drw), .ref xn, .ref xb, .ref xv, .int (nI bd), .int (nI rd)])), (xt, aI G 400 tx), (xl, aI G 300 fl)] := hD
      refine lv_istore (lv' := [(6, .int (-1)), (5, .int (nI 0)), (4, .int (nI 0)), (0, .ref qm), (1, .int (nI 2)), (2, .int (nI k)), (3, .int (nI 3))]) hx hb dM_line_70 hl (by decide) rfl (fun ls hl => ?_)
      refine lv_iload hx hb dM_line_72 (lv_at hl 0 rfl) ?_
      refine lv_if_ge (tgt := 79) hx hb dM_line_74 rfl (fun h74 => (by revert h74; first | decide | exact fun z => absurd z (by decide) | exact fun z => z.elim (by decide))) (fun _ => ?_)
      refine lv_iconst (v := nI 0) hx hb dM_line_77 (by decide) ?_
      -- end 8
      rw [← hQ]
      exact k_iret hx hb hr hlocks (by decide) (u := (z67, fl)) (Or.inr ⟨_, _, (mR_la (T := (lk tx ul)) pt).symm.trans (mr_0n hc67_e), by omega, rfl, rfl⟩) hP hD hK hS dM_line_78
  rw [hH, hlc] at hgo
  exact hgo
set_option maxRecDepth 100000 in
set_option maxHeartbeats 4000000 in
theorem k_M_line_r3 (l : Launch) (G : GG) (sz : Nat) (qm : Nat) (xt : Nat) (xh : Nat) (xi : Nat) (xl : Nat) (xo : Nat) (xg : Nat) (xd : Nat) (xs : Nat) (xn : Nat) (xb : Nat) (xv : Nat) (th : Nat) (ul : Nat) (pt : Nat) (ld : Bool) (stt : Nat) (sts : Nat) (drw : Nat) (bd : Nat) (rd : Nat) (tx : Nat → Nat) (fo : Nat → Nat) (k : Nat) (hul : ul ≤ 400) (hpt : pt ≤ ul) (htx : ∀ j, tx j < 128) (hk : k < 100) : Ki l yM_line cM_line 7 .boolean 2 43 G [.ref qm, .int (nI 3), .int (nI k), .int (nI 1)] [(qm, .inr (6, [.int (nI th), .int (nI ul), .ref xt, .int (nI pt), .ref xh, .ref xi, .ref xl, .ref xo, .ref xg, .ref xd, .int (zB ld), .ref xs, .int (nI stt), .int (nI sts), .int (nI drw), .ref xn, .ref xb, .ref xv, .int (nI bd), .int (nI rd)])), (xt, aI G 400 tx), (xo, aI G 100 fo)] sz (fun (r : Int32) (u : Nat × (Nat → Nat)) => (∃ (li : List Nat), ∃ (z : Nat), exF (lk tx ul) 1 pt = some (li, z) ∧ z ≤ ul ∧ nI 1 = r ∧ (z, va_up fo k (li.getD 0 0)) = u) ∨ (∃ (z : Nat), ∃ (fo1 : Nat → Nat), exF (lk tx ul) 1 pt = none ∧ z ≤ ul ∧ nI 0 = r ∧ (z, fo1) = u)) (fun (u : Nat × (Nat → Nat)) => [(qm, .inr (6, [.int (nI th), .int (nI ul), .ref xt, .int (nI u.1), .ref xh, .ref xi, .ref xl, .ref xo, .ref xg, .ref xd, .int (zB ld), .ref xs, .int (nI stt), .int (nI sts), .int (nI drw), .ref xn, .ref xb, .ref xv, .int (nI bd), .int (nI rd)])), (xt, aI G 400 tx), (xo, aI G 100 u.2)]) := by
  refine Met.ofW (cc := cM_line) (maxL := 7) (ret := (some .boolean)) (by decide) rfl ?_
  intro p e s m args below meth c s₁ B hml hv
  obtain ⟨hav, hsz, hP, hK, hD0, hE⟩ := hv
  have hx := B.exec
  have hb := B.bytes
  have hr := B.returns
  have htb : ∀ w ∈ TB, w.before args s = true := fun w h => atoms_spec (ws := Cond.code yM_line cM_line 7 (some .boolean) :: TB) B.pre w (List.mem_cons_of_mem _ h)
  have hown : s.vm.findClass "CircuitProverModel" = some m.cls := findClass_of_methodNamed B.named
  have hlocks := B.notSynchronized
  subst hsz
  have hD := hD0.self (sz := s.heap.size)
  clear hD0
  generalize hRm : (headSpec (Cond.code yM_line cM_line 7 (some .boolean) :: TB) { frames := 2, cells := 0, slots := 0, locals := 43 }).room = R
  have hRf : R.frames = 2 := by rw [← hRm]; rfl
  have hRl : R.locals = 43 := by rw [← hRm]; rfl
  have hRc : R.cells = 0 := by rw [← hRm]; rfl
  have hRs : R.slots = 0 := by rw [← hRm]; rfl
  clear hRm
  generalize hAe : va_A [(qm, .inr (6, [.int (nI th), .int (nI ul), .ref xt, .int (nI pt), .ref xh, .ref xi, .ref xl, .ref xo, .ref xg, .ref xd, .int (zB ld), .ref xs, .int (nI stt), .int (nI sts), .int (nI drw), .ref xn, .ref xb, .ref xv, .int (nI bd), .int (nI rd)])), (xt, aI G 400 tx), (xo, aI G 100 fo)] s.heap.size = A at hD hE ⊢
  have hA : ∀ q : Nat, s.heap.size ≤ q → A q := fun q h => by rw [← hAe]; exact Or.inr h
  clear hAe
  have hS : va_S A s.heap s.heap [] := va_S.rf
  have hl := lv_entry ([.ref qm, .int (nI 3), .int (nI k), .int (nI 1)]) (n := 7) (Nat.le_of_ble_eq_true rfl)
  have hent := lg_entry_eq m ([.ref qm, .int (nI 3), .int (nI k), .int (nI 1)]) 7
  rw [← hav] at hent
  rw [hent]
  clear hent hav
  generalize (lg_sl ([.ref qm, .int (nI 3), .int (nI k), .int (nI 1)]) ++ List.replicate (7 - (lg_sl ([.ref qm, .int (nI 3), .int (nI k), .int (nI 1)])).length) Slot.unset).toArray = ls at hl ⊢
  have hl : lv_has ls 7 [(0, .ref qm), (1, .int (nI 3)), (2, .int (nI k)), (3, .int (nI 1))] := hl
  generalize hQ : MQ below _ args s 0 0 _ = Q
  have hP : va_P (gD G) vC [(qm, .inr (6, [.int (nI th), .int (nI ul), .ref xt, .int (nI pt), .ref xh, .ref xi, .ref xl, .ref xo, .ref xg, .ref xd, .int (zB ld), .ref xs, .int (nI stt), .int (nI sts), .int (nI drw), .ref xn, .ref xb, .ref xv, .int (nI bd), .int (nI rd)])), (xt, aI G 400 tx), (xo, aI G 100 fo)] s.heap := hP
  obtain ⟨H, hH⟩ : ∃ H : Heap, H = s.heap := ⟨_, rfl⟩
  obtain ⟨locs, hlc⟩ : ∃ L : List Loc, L = [] := ⟨_, rfl⟩
  have hS : va_S A s.heap H locs := by rw [hH, hlc]; exact hS
  have hP : va_P (gD G) vC [(qm, .inr (6, [.int (nI th), .int (nI ul), .ref xt, .int (nI pt), .ref xh, .ref xi, .ref xl, .ref xo, .ref xg, .ref xd, .int (zB ld), .ref xs, .int (nI stt), .int (nI sts), .int (nI drw), .ref xn, .ref xb, .ref xv, .int (nI bd), .int (nI rd)])), (xt, aI G 400 tx), (xo, aI G 100 fo)] H := by rw [hH]; exact hP
  have hgo : W p l e R s m args below meth c H locs 0 0 Q (F0 m 0 ls []) := by
    clear hH hlc
    refine lv_iconst (v := nI 0) hx hb dM_line_0 (by decide) ?_
    refine lv_istore (lv' := [(4, .int (nI 0)), (0, .ref qm), (1, .int (nI 3)), (2, .int (nI k)), (3, .int (nI 1))]) hx hb dM_line_1 hl (by decide) rfl (fun ls hl => ?_)
    refine lv_iload hx hb dM_line_3 (lv_at hl 0 rfl) ?_
    refine lv_iload_n hx hb dM_line_5 rfl (lv_at hl 4 rfl) ?_
    refine lv_icmp_ge (tgt := 167) hx hb dM_line_6 rfl (fun h6 => (by revert h6; first | decide | exact fun z => absurd z (by decide) | exact fun z => z.elim (by decide))) (fun _ => ?_)
    refine lv_iload_n hx hb dM_line_9 rfl (lv_at hl 2 rfl) ?_
    refine lv_iconst (v := nI 2) hx hb dM_line_10 (by decide) ?_
    refine lv_icmp_ne (tgt := 33) hx hb dM_line_11 rfl (fun _ => ?_) (fun h11 => (by revert h11; first | decide | exact fun z => absurd z (by decide) | exact fun z => z.elim (by decide)))
    refine lv_iconst (v := nI 0) hx hb dM_line_33 (by decide) ?_
    refine lv_istore (lv' := [(5, .int (nI 0)), (4, .int (nI 0)), (0, .ref qm), (1, .int (nI 3)), (2, .int (nI k)), (3, .int (nI 1))]) hx hb dM_line_34 hl (by decide) rfl (fun ls hl => ?_)
    refine lv_iload hx hb dM_line_36 (lv_at hl 1 rfl) ?_
    refine lv_if_le (tgt := 57) hx hb dM_line_38 rfl (fun _ => ?_) (fun h38 => (by revert h38; first | decide | exact fun z => absurd z (by decide) | exact fun z => z.elim (by decide)))
    refine lv_iload hx hb dM_line_57 (lv_at hl 0 rfl) ?_
    refine lv_if_eq (tgt := 66) hx hb dM_line_59 rfl (fun _ => ?_) (fun h59 => (by revert h59; first | decide | exact fun z => absurd z (by decide) | exact fun z => z.elim (by decide)))
    refine lv_aload_n hx hb dM_line_66 rfl (lv_at hl 2 rfl) ?_
    refine k_i (ws2 := fun u => [(qm, .inr (6, [.int (nI th), .int (nI ul), .ref xt, .int (nI (u)), .ref xh, .ref xi, .ref xl, .ref xo, .ref xg, .ref xd, .int (zB ld), .ref xs, .int (nI stt), .int (nI sts), .int (nI drw), .ref xn, .ref xb, .ref xv, .int (nI bd), .int (nI rd)])), (xt, aI G 400 tx), (xo, aI G 100 fo)]) (wr := [(xo, aI G 100 fo)]) (k_runV (n := 0) (As := []) (rest := []) hx hb hml hown htb hP hD hK hS hA hE (k_M_number l G H.size qm xt xh xi xl xo xg xd xs xn xb xv th ul pt ld stt sts drw bd rd tx (show ul ≤ 400 from by omega) (show pt ≤ ul from by omega) (show ∀ j, tx j < 128 from by omega)) b772 b774 s34 b7 b775 (by decide +kernel) rfl rfl ⟨by rw [hRf]; exact Nat.le_of_ble_eq_true rfl, by rw [hRl]; exact Nat.le_of_ble_eq_true rfl⟩ [0, 1] rfl (by decide) 0 rfl rfl rfl rfl hl.1 rfl (Nat.le_of_ble_eq_true rfl) dM_line_67 ⟨Nat.zero_le _, Nat.zero_le _⟩) hP hD hS hA [0, 1] [2] [1, 2, 0] rfl rfl (by decide) (by decide) (fun u => rfl) (by decide) (fun r u H locs hw hP hD hS => ?_)
    rcases hw with ⟨v67, z67, hc67_e, hc67_b, rfl, rfl⟩ | ⟨z67, hc67_e, hc67_b, rfl, rfl⟩
    · skip
      have hP : va_P (gD G) vC [(qm, .inr (6, [.int (nI th), .int (nI ul), .ref xt, .int (nI z67), .ref xh, .ref xi, .ref xl, .ref xo, .ref xg, .ref xd, .int (zB ld), .ref xs, .int (nI stt), .int (nI sts), .int (nI drw), .ref xn, .ref xb, .ref xv, .int (nI bd), .int (nI rd)])), (xt, aI G 400 tx), (xo, aI G 100 fo)] H := hP
      have hD : va_D A [(qm, .inr (6, [.int (nI th), .int (nI ul), .ref xt, .int (nI z67), .ref xh, .ref xi, .ref xl, .ref xo, .ref xg, .ref xd, .int (zB ld), .ref xs, .int (nI stt), .int (nI sts), .int (nI drw), .ref xn, .ref xb, .ref xv, .int (nI bd), .int (nI rd)])), (xt, aI G 400 tx), (xo, aI G 100 fo)] := hD
      refine lv_istore (lv' := [(6, .int (nI v67)), (5, .int (nI 0)), (4, .int (nI 0)), (0, .ref qm), (1, .int (nI 3)), (2, .int (nI k)), (3, .int (nI 1))]) hx hb dM_line_70 hl (by decide) rfl (fun ls hl => ?_)
      refine lv_iload hx hb dM_line_72 (lv_at hl 0 rfl) ?_
      refine lv_if_ge (tgt := 79) hx hb dM_line_74 rfl (fun h74 => ?_) (fun h74 => ?_)
      · have h74 : 0 ≤ v67 := (nI_leI (a := 0) (b := v67) (by omega) (by omega)).mp h74
        refine lv_iload_n hx hb dM_line_79 rfl (lv_at hl 4 rfl) ?_
        refine lv_if_ne (tgt := 95) hx hb dM_line_80 rfl (fun _ => ?_) (fun h80 => (by revert h80; first | decide | exact fun z => absurd z (by decide) | exact fun z => z.elim (by decide)))
        refine lv_iload_n hx hb dM_line_95 rfl (lv_at hl 4 rfl) ?_
        refine lv_iconst (v := nI 1) hx hb dM_line_96 (by decide) ?_
        refine lv_icmp_ne (tgt := 111) hx hb dM_line_97 rfl (fun _ => ?_) (fun h97 => (by revert h97; first | decide | exact fun z => absurd z (by decide) | exact fun z => z.elim (by decide)))
        refine lv_iload_n hx hb dM_line_111 rfl (lv_at hl 4 rfl) ?_
        refine lv_iconst (v := nI 2) hx hb dM_line_112 (by decide) ?_
        refine lv_icmp_ne (tgt := 132) hx hb dM_line_113 rfl (fun _ => ?_) (fun h113 => (by revert h113; first | decide | exact fun z => absurd z (by decide) | exact fun z => z.elim (by decide)))
        refine lv_iload_n hx hb dM_line_132 rfl (lv_at hl 4 rfl) ?_
        refine lv_iconst (v := nI 3) hx hb dM_line_133 (by decide) ?_
        refine lv_icmp_ne (tgt := 148) hx hb dM_line_134 rfl (fun h134 => (by revert h134; first | decide | exact fun z => absurd z (by decide) | exact fun z => z.elim (by decide))) (fun _ => ?_)
        refine lv_aload_n hx hb dM_line_137 rfl (lv_at hl 3 rfl) ?_
        refine va_get (D := gD G) (ci := 6) (v := .ref xo) (C := "CircuitProverModel") (T := TM) (N := 20) hx hb htb inM hown hK hP 0 rfl rfl 7 (by decide) (htb _ b678) (fun _ h9 => h9) rfl dM_line_138 ?_
        refine lv_iload_n hx hb dM_line_141 rfl (lv_at hl 5 rfl) ?_
        refine lv_iload hx hb dM_line_142 (lv_at hl 0 rfl) ?_
        refine k_iast hx hb hK hP hD hS 2 rfl (k := k) (v := v67) (by omega) (by decide) dM_line_144 (fun H locs hP hD hS => ?_)
        have hP : va_P (gD G) vC [(qm, .inr (6, [.int (nI th), .int (nI ul), .ref xt, .int (nI z67), .ref xh, .ref xi, .ref xl, .ref xo, .ref xg, .ref xd, .int (zB ld), .ref xs, .int (nI stt), .int (nI sts), .int (nI drw), .ref xn, .ref xb, .ref xv, .int (nI bd), .int (nI rd)])), (xt, aI G 400 tx), (xo, aI G 100 (va_up fo k v67))] H := hP
        have hD : va_D A [(qm, .inr (6, [.int (nI th), .int (nI ul), .ref xt, .int (nI z67), .ref xh, .ref xi, .ref xl, .ref xo, .ref xg, .ref xd, .int (zB ld), .ref xs, .int (nI stt), .int (nI sts), .int (nI drw), .ref xn, .ref xb, .ref xv, .int (nI bd), .int (nI rd)])), (xt, aI G 400 tx), (xo, aI G 100 (va_up fo k v67))] := hD
        refine lv_goto (tgt := 161) hx hb dM_line_145 rfl ?_
        refine lv_iinc (v := nI 1) (lv' := [(4, .int (nI 1)), (6, .int (nI v67)), (5, .int (nI 0)), (0, .ref qm), (1, .int (nI 3)), (2, .int (nI k)), (3, .int (nI 1))]) hx hb dM_line_161 hl (k := 2) rfl (nI_add _ 1) (by decide) rfl (fun ls hl => ?_)
        refine lv_goto (tgt := 3) hx hb dM_line_164 rfl ?_
        refine lv_iload hx hb dM_line_3 (lv_at hl 0 rfl) ?_
        refine lv_iload_n hx hb dM_line_5 rfl (lv_at hl 6 rfl) ?_
        refine lv_icmp_ge (tgt := 167) hx hb dM_line_6 rfl (fun _ => ?_) (fun h6 => (by revert h6; first | decide | exact fun z => absurd z (by decide) | exact fun z => z.elim (by decide)))
        refine lv_aload_n hx hb dM_line_167 rfl (lv_at hl 3 rfl) ?_
        refine lv_bipush (v := nI 10) hx hb dM_line_168 (by decide) ?_
        refine k_i (ws2 := fun u => [(qm, .inr (6, [.int (nI th), .int (nI ul), .ref xt, .int (nI (u)), .ref xh, .ref xi, .ref xl, .ref xo, .ref xg, .ref xd, .int (zB ld), .ref xs, .int (nI stt), .int (nI sts), .int (nI drw), .ref xn, .ref xb, .ref xv, .int (nI bd), .int (nI rd)])), (xt, aI G 400 tx), (xo, aI G 100 (va_up fo k v67))]) (wr := [(xo, aI G 100 (va_up fo k v67))]) (k_runV (n := 1) (As := [.int (nI 10)]) (rest := []) hx hb hml hown htb hP hD hK hS hA hE (k_M_eat l G H.size qm xt xh xi xl xo xg xd xs xn xb xv th ul z67 ld stt sts drw bd rd tx 10 (show ul ≤ 400 from by omega) (show z67 ≤ ul from by omega) (show ∀ j, tx j < 128 from by omega) (show 0 < 10 ∧ 10 < 128 from by omega)) b760 b762 s31 b7 b763 (by decide +kernel) rfl rfl ⟨by rw [hRf]; exact Nat.le_of_ble_eq_true rfl, by rw [hRl]; exact Nat.le_of_ble_eq_true rfl⟩ [0, 1] rfl (by decide) 0 rfl rfl rfl rfl hl.1 rfl (Nat.le_of_ble_eq_true rfl) dM_line_170 ⟨Nat.zero_le _, Nat.zero_le _⟩) hP hD hS hA [0, 1] [2] [1, 2, 0] rfl rfl (by decide) (by decide) (fun u => rfl) (by decide) (fun r u H locs hw hP hD hS => ?_)
        rcases hw with ⟨hc170_e, hc170_b, rfl, rfl⟩ | ⟨hc170_e, rfl, rfl⟩
        · skip
          have hP : va_P (gD G) vC [(qm, .inr (6, [.int (nI th), .int (nI ul), .ref xt, .int (nI (z67 + 1)), .ref xh, .ref xi, .ref xl, .ref xo, .ref xg, .ref xd, .int (zB ld), .ref xs, .int (nI stt), .int (nI sts), .int (nI drw), .ref xn, .ref xb, .ref xv, .int (nI bd), .int (nI rd)])), (xt, aI G 400 tx), (xo, aI G 100 (va_up fo k v67))] H := hP
          have hD : va_D A [(qm, .inr (6, [.int (nI th), .int (nI ul), .ref xt, .int (nI (z67 + 1)), .ref xh, .ref xi, .ref xl, .ref xo, .ref xg, .ref xd, .int (zB ld), .ref xs, .int (nI stt), .int (nI sts), .int (nI drw), .ref xn, .ref xb, .ref xv, .int (nI bd), .int (nI rd)])), (xt, aI G 400 tx), (xo, aI G 100 (va_up fo k v67))] := hD
          -- end 0
          rw [← hQ]
          exact k_iret hx hb hr hlocks (by decide) (u := ((z67 + 1), va_up fo k v67)) (Or.inl ⟨[v67], _, (mR_exF (T := (lk tx ul)) 0 pt).symm.trans ((mr_0 hc67_e).trans (congrArg (pre [v67]) (mr_z hc170_e))), hc170_b, rfl, rfl⟩) hP hD hK hS dM_line_173
        · skip
          have hP : va_P (gD G) vC [(qm, .inr (6, [.int (nI th), .int (nI ul), .ref xt, .int (nI z67), .ref xh, .ref xi, .ref xl, .ref xo, .ref xg, .ref xd, .int (zB ld), .ref xs, .int (nI stt), .int (nI sts), .int (nI drw), .ref xn, .ref xb, .ref xv, .int (nI bd), .int (nI rd)])), (xt, aI G 400 tx), (xo, aI G 100 (va_up fo k v67))] H := hP
          have hD : va_D A [(qm, .inr (6, [.int (nI th), .int (nI ul), .ref xt, .int (nI z67), .ref xh, .ref xi, .ref xl, .ref xo, .ref xg, .ref xd, .int (zB ld), .ref xs, .int (nI stt), .int (nI sts), .int (nI drw), .ref xn, .ref xb, .ref xv, .int (nI bd), .int (nI rd)])), (xt, aI G 400 tx), (xo, aI G 100 (va_up fo k v67))] := hD
          -- end 1
          rw [← hQ]
          exact k_iret hx hb hr hlocks (by decide) (u := (z67, va_up fo k v67)) (Or.inr ⟨_, _, (mR_exF (T := (lk tx ul)) 0 pt).symm.trans ((mr_0 hc67_e).trans (congrArg (pre [v67]) (mr_zn hc170_e))), by omega, rfl, rfl⟩) hP hD hK hS dM_line_173
      · have h74 : v67 < 0 := Nat.lt_of_not_le (fun z => h74 ((nI_leI (a := 0) (b := v67) (by omega) (by omega)).mpr z))
        exfalso; omega
    · skip
      have hP : va_P (gD G) vC [(qm, .inr (6, [.int (nI th), .int (nI ul), .ref xt, .int (nI z67), .ref xh, .ref xi, .ref xl, .ref xo, .ref xg, .ref xd, .int (zB ld), .ref xs, .int (nI stt), .int (nI sts), .int (nI drw), .ref xn, .ref xb, .ref xv, .int (nI bd), .int (nI rd)])), (xt, aI G 400 tx), (xo, aI G 100 fo)] H := hP
      have hD : va_D A [(qm, .inr (6, [.int (nI th), .int (nI ul), .ref xt, .int (nI z67), .ref xh, .ref xi, .ref xl, .ref xo, .ref xg, .ref xd, .int (zB ld), .ref xs, .int (nI stt), .int (nI sts), .int (nI drw), .ref xn, .ref xb, .ref xv, .int (nI bd), .int (nI rd)])), (xt, aI G 400 tx), (xo, aI G 100 fo)] := hD
      refine lv_istore (lv' := [(6, .int (-1)), (5, .int (nI 0)), (4, .int (nI 0)), (0, .ref qm), (1, .int (nI 3)), (2, .int (nI k)), (3, .int (nI 1))]) hx hb dM_line_70 hl (by decide) rfl (fun ls hl => ?_)
      refine lv_iload hx hb dM_line_72 (lv_at hl 0 rfl) ?_
      refine lv_if_ge (tgt := 79) hx hb dM_line_74 rfl (fun h74 => (by revert h74; first | decide | exact fun z => absurd z (by decide) | exact fun z => z.elim (by decide))) (fun _ => ?_)
      refine lv_iconst (v := nI 0) hx hb dM_line_77 (by decide) ?_
      -- end 2
      rw [← hQ]
      exact k_iret hx hb hr hlocks (by decide) (u := (z67, fo)) (Or.inr ⟨_, _, (mR_exF (T := (lk tx ul)) 0 pt).symm.trans (mr_0n hc67_e), by omega, rfl, rfl⟩) hP hD hK hS dM_line_78
  rw [hH, hlc] at hgo
  exact hgo
set_option maxRecDepth 100000 in
set_option maxHeartbeats 4000000 in
theorem k_M_line_r4 (l : Launch) (G : GG) (sz : Nat) (qm : Nat) (xt : Nat) (xh : Nat) (xi : Nat) (xl : Nat) (xo : Nat) (xg : Nat) (xd : Nat) (xs : Nat) (xn : Nat) (xb : Nat) (xv : Nat) (th : Nat) (ul : Nat) (pt : Nat) (ld : Bool) (stt : Nat) (sts : Nat) (drw : Nat) (bd : Nat) (rd : Nat) (tx : Nat → Nat) (fg : Nat → Nat) (k : Nat) (hul : ul ≤ 400) (hpt : pt ≤ ul) (htx : ∀ j, tx j < 128) (hk : k < 100) : Ki l yM_line cM_line 7 .boolean 2 43 G [.ref qm, .int (nI 4), .int (nI k), .int (nI 3)] [(qm, .inr (6, [.int (nI th), .int (nI ul), .ref xt, .int (nI pt), .ref xh, .ref xi, .ref xl, .ref xo, .ref xg, .ref xd, .int (zB ld), .ref xs, .int (nI stt), .int (nI sts), .int (nI drw), .ref xn, .ref xb, .ref xv, .int (nI bd), .int (nI rd)])), (xt, aI G 400 tx), (xg, aI G 300 fg)] sz (fun (r : Int32) (u : Nat × (Nat → Nat)) => (∃ (li : List Nat), ∃ (z : Nat), ∃ (fg1 : Nat → Nat), exF (lk tx ul) 3 pt = some (li, z) ∧ (∀ j, j < 3 → fg1 (3 * k + j) = li.getD j 0) ∧ (∀ i, i < 3 * k → fg1 i = fg i) ∧ z ≤ ul ∧ nI 1 = r ∧ (z, fg1) = u) ∨ (∃ (z : Nat), ∃ (fg1 : Nat → Nat), exF (lk tx ul) 3 pt = none ∧ z ≤ ul ∧ nI 0 = r ∧ (z, fg1) = u)) (fun (u : Nat × (Nat → Nat)) => [(qm, .inr (6, [.int (nI th), .int (nI ul), .ref xt, .int (nI u.1), .ref xh, .ref xi, .ref xl, .ref xo, .ref xg, .ref xd, .int (zB ld), .ref xs, .int (nI stt), .int (nI sts), .int (nI drw), .ref xn, .ref xb, .ref xv, .int (nI bd), .int (nI rd)])), (xt, aI G 400 tx), (xg, aI G 300 u.2)]) := by
  refine Met.ofW (cc := cM_line) (maxL := 7) (ret := (some .boolean)) (by decide) rfl ?_
  intro p e s m args below meth c s₁ B hml hv
  obtain ⟨hav, hsz, hP, hK, hD0, hE⟩ := hv
  have hx := B.exec
  have hb := B.bytes
  have hr := B.returns
  have htb : ∀ w ∈ TB, w.before args s = true := fun w h => atoms_spec (ws := Cond.code yM_line cM_line 7 (some .boolean) :: TB) B.pre w (List.mem_cons_of_mem _ h)
  have hown : s.vm.findClass "CircuitProverModel" = some m.cls := findClass_of_methodNamed B.named
  have hlocks := B.notSynchronized
  subst hsz
  have hD := hD0.self (sz := s.heap.size)
  clear hD0
  generalize hRm : (headSpec (Cond.code yM_line cM_line 7 (some .boolean) :: TB) { frames := 2, cells := 0, slots := 0, locals := 43 }).room = R
  have hRf : R.frames = 2 := by rw [← hRm]; rfl
  have hRl : R.locals = 43 := by rw [← hRm]; rfl
  have hRc : R.cells = 0 := by rw [← hRm]; rfl
  have hRs : R.slots = 0 := by rw [← hRm]; rfl
  clear hRm
  generalize hAe : va_A [(qm, .inr (6, [.int (nI th), .int (nI ul), .ref xt, .int (nI pt), .ref xh, .ref xi, .ref xl, .ref xo, .ref xg, .ref xd, .int (zB ld), .ref xs, .int (nI stt), .int (nI sts), .int (nI drw), .ref xn, .ref xb, .ref xv, .int (nI bd), .int (nI rd)])), (xt, aI G 400 tx), (xg, aI G 300 fg)] s.heap.size = A at hD hE ⊢
  have hA : ∀ q : Nat, s.heap.size ≤ q → A q := fun q h => by rw [← hAe]; exact Or.inr h
  clear hAe
  have hS : va_S A s.heap s.heap [] := va_S.rf
  have hl := lv_entry ([.ref qm, .int (nI 4), .int (nI k), .int (nI 3)]) (n := 7) (Nat.le_of_ble_eq_true rfl)
  have hent := lg_entry_eq m ([.ref qm, .int (nI 4), .int (nI k), .int (nI 3)]) 7
  rw [← hav] at hent
  rw [hent]
  clear hent hav
  generalize (lg_sl ([.ref qm, .int (nI 4), .int (nI k), .int (nI 3)]) ++ List.replicate (7 - (lg_sl ([.ref qm, .int (nI 4), .int (nI k), .int (nI 3)])).length) Slot.unset).toArray = ls at hl ⊢
  have hl : lv_has ls 7 [(0, .ref qm), (1, .int (nI 4)), (2, .int (nI k)), (3, .int (nI 3))] := hl
  generalize hQ : MQ below _ args s 0 0 _ = Q
  have hP : va_P (gD G) vC [(qm, .inr (6, [.int (nI th), .int (nI ul), .ref xt, .int (nI pt), .ref xh, .ref xi, .ref xl, .ref xo, .ref xg, .ref xd, .int (zB ld), .ref xs, .int (nI stt), .int (nI sts), .int (nI drw), .ref xn, .ref xb, .ref xv, .int (nI bd), .int (nI rd)])), (xt, aI G 400 tx), (xg, aI G 300 fg)] s.heap := hP
  obtain ⟨H, hH⟩ : ∃ H : Heap, H = s.heap := ⟨_, rfl⟩
  obtain ⟨locs, hlc⟩ : ∃ L : List Loc, L = [] := ⟨_, rfl⟩
  have hS : va_S A s.heap H locs := by rw [hH, hlc]; exact hS
  have hP : va_P (gD G) vC [(qm, .inr (6, [.int (nI th), .int (nI ul), .ref xt, .int (nI pt), .ref xh, .ref xi, .ref xl, .ref xo, .ref xg, .ref xd, .int (zB ld), .ref xs, .int (nI stt), .int (nI sts), .int (nI drw), .ref xn, .ref xb, .ref xv, .int (nI bd), .int (nI rd)])), (xt, aI G 400 tx), (xg, aI G 300 fg)] H := by rw [hH]; exact hP
  have hgo : W p l e R s m args below meth c H locs 0 0 Q (F0 m 0 ls []) := by
    clear hH hlc
    refine lv_iconst (v := nI 0) hx hb dM_line_0 (by decide) ?_
    refine lv_istore (lv' := [(4, .int (nI 0)), (0, .ref qm), (1, .int (nI 4)), (2, .int (nI k)), (3, .int (nI 3))]) hx hb dM_line_1 hl (by decide) rfl (fun ls hl => ?_)
    refine lv_iload hx hb dM_line_3 (lv_at hl 0 rfl) ?_
    refine lv_iload_n hx hb dM_line_5 rfl (lv_at hl 4 rfl) ?_
    refine lv_icmp_ge (tgt := 167) hx hb dM_line_6 rfl (fun h6 => (by revert h6; first | decide | exact fun z => absurd z (by decide) | exact fun z => z.elim (by decide))) (fun _ => ?_)
    refine lv_iload_n hx hb dM_line_9 rfl (lv_at hl 2 rfl) ?_
    refine lv_iconst (v := nI 2) hx hb dM_line_10 (by decide) ?_
    refine lv_icmp_ne (tgt := 33) hx hb dM_line_11 rfl (fun _ => ?_) (fun h11 => (by revert h11; first | decide | exact fun z => absurd z (by decide) | exact fun z => z.elim (by decide)))
    refine lv_iconst (v := nI 0) hx hb dM_line_33 (by decide) ?_
    refine lv_istore (lv' := [(5, .int (nI 0)), (4, .int (nI 0)), (0, .ref qm), (1, .int (nI 4)), (2, .int (nI k)), (3, .int (nI 3))]) hx hb dM_line_34 hl (by decide) rfl (fun ls hl => ?_)
    refine lv_iload hx hb dM_line_36 (lv_at hl 1 rfl) ?_
    refine lv_if_le (tgt := 57) hx hb dM_line_38 rfl (fun _ => ?_) (fun h38 => (by revert h38; first | decide | exact fun z => absurd z (by decide) | exact fun z => z.elim (by decide)))
    refine lv_iload hx hb dM_line_57 (lv_at hl 0 rfl) ?_
    refine lv_if_eq (tgt := 66) hx hb dM_line_59 rfl (fun _ => ?_) (fun h59 => (by revert h59; first | decide | exact fun z => absurd z (by decide) | exact fun z => z.elim (by decide)))
    refine lv_aload_n hx hb dM_line_66 rfl (lv_at hl 2 rfl) ?_
    refine k_i (ws2 := fun u => [(qm, .inr (6, [.int (nI th), .int (nI ul), .ref xt, .int (nI (u)), .ref xh, .ref xi, .ref xl, .ref xo, .ref xg, .ref xd, .int (zB ld), .ref xs, .int (nI stt), .int (nI sts), .int (nI drw), .ref xn, .ref xb, .ref xv, .int (nI bd), .int (nI rd)])), (xt, aI G 400 tx), (xg, aI G 300 fg)]) (wr := [(xg, aI G 300 fg)]) (k_runV (n := 0) (As := []) (rest := []) hx hb hml hown htb hP hD hK hS hA hE (k_M_number l G H.size qm xt xh xi xl xo xg xd xs xn xb xv th ul pt ld stt sts drw bd rd tx (show ul ≤ 400 from by omega) (show pt ≤ ul from by omega) (show ∀ j, tx j < 128 from by omega)) b772 b774 s34 b7 b775 (by decide +kernel) rfl rfl ⟨by rw [hRf]; exact Nat.le_of_ble_eq_true rfl, by rw [hRl]; exact Nat.le_of_ble_eq_true rfl⟩ [0, 1] rfl (by decide) 0 rfl rfl rfl rfl hl.1 rfl (Nat.le_of_ble_eq_true rfl) dM_line_67 ⟨Nat.zero_le _, Nat.zero_le _⟩) hP hD hS hA [0, 1] [2] [1, 2, 0] rfl rfl (by decide) (by decide) (fun u => rfl) (by decide) (fun r u H locs hw hP hD hS => ?_)
    rcases hw with ⟨v67, z67, hc67_e, hc67_b, rfl, rfl⟩ | ⟨z67, hc67_e, hc67_b, rfl, rfl⟩
    · skip
      have hP : va_P (gD G) vC [(qm, .inr (6, [.int (nI th), .int (nI ul), .ref xt, .int (nI z67), .ref xh, .ref xi, .ref xl, .ref xo, .ref xg, .ref xd, .int (zB ld), .ref xs, .int (nI stt), .int (nI sts), .int (nI drw), .ref xn, .ref xb, .ref xv, .int (nI bd), .int (nI rd)])), (xt, aI G 400 tx), (xg, aI G 300 fg)] H := hP
      have hD : va_D A [(qm, .inr (6, [.int (nI th), .int (nI ul), .ref xt, .int (nI z67), .ref xh, .ref xi, .ref xl, .ref xo, .ref xg, .ref xd, .int (zB ld), .ref xs, .int (nI stt), .int (nI sts), .int (nI drw), .ref xn, .ref xb, .ref xv, .int (nI bd), .int (nI rd)])), (xt, aI G 400 tx), (xg, aI G 300 fg)] := hD
      refine lv_istore (lv' := [(6, .int (nI v67)), (5, .int (nI 0)), (4, .int (nI 0)), (0, .ref qm), (1, .int (nI 4)), (2, .int (nI k)), (3, .int (nI 3))]) hx hb dM_line_70 hl (by decide) rfl (fun ls hl => ?_)
      refine lv_iload hx hb dM_line_72 (lv_at hl 0 rfl) ?_
      refine lv_if_ge (tgt := 79) hx hb dM_line_74 rfl (fun h74 => ?_) (fun h74 => ?_)
      · have h74 : 0 ≤ v67 := (nI_leI (a := 0) (b := v67) (by omega) (by omega)).mp h74
        refine lv_iload_n hx hb dM_line_79 rfl (lv_at hl 4 rfl) ?_
        refine lv_if_ne (tgt := 95) hx hb dM_line_80 rfl (fun _ => ?_) (fun h80 => (by revert h80; first | decide | exact fun z => absurd z (by decide) | exact fun z => z.elim (by decide)))
        refine lv_iload_n hx hb dM_line_95 rfl (lv_at hl 4 rfl) ?_
        refine lv_iconst (v := nI 1) hx hb dM_line_96 (by decide) ?_
        refine lv_icmp_ne (tgt := 111) hx hb dM_line_97 rfl (fun _ => ?_) (fun h97 => (by revert h97; first | decide | exact fun z => absurd z (by decide) | exact fun z => z.elim (by decide)))
        refine lv_iload_n hx hb dM_line_111 rfl (lv_at hl 4 rfl) ?_
        refine lv_iconst (v := nI 2) hx hb dM_line_112 (by decide) ?_
        refine lv_icmp_ne (tgt := 132) hx hb dM_line_113 rfl (fun _ => ?_) (fun h113 => (by revert h113; first | decide | exact fun z => absurd z (by decide) | exact fun z => z.elim (by decide)))
        refine lv_iload_n hx hb dM_line_132 rfl (lv_at hl 4 rfl) ?_
        refine lv_iconst (v := nI 3) hx hb dM_line_133 (by decide) ?_
        refine lv_icmp_ne (tgt := 148) hx hb dM_line_134 rfl (fun _ => ?_) (fun h134 => (by revert h134; first | decide | exact fun z => absurd z (by decide) | exact fun z => z.elim (by decide)))
        refine lv_aload_n hx hb dM_line_148 rfl (lv_at hl 3 rfl) ?_
        refine va_get (D := gD G) (ci := 6) (v := .ref xg) (C := "CircuitProverModel") (T := TM) (N := 20) hx hb htb inM hown hK hP 0 rfl rfl 8 (by decide) (htb _ b679) (fun _ h9 => h9) rfl dM_line_149 ?_
        refine lv_iconst (v := nI 3) hx hb dM_line_152 (by decide) ?_
        refine lv_iload_n hx hb dM_line_153 rfl (lv_at hl 5 rfl) ?_
        refine lv_imul hx hb dM_line_154 ?_
        refine k_toi (y := nI (3 * k)) (pk_mul _ _) ?_
        refine lv_iload hx hb dM_line_155 (lv_at hl 2 rfl) ?_
        refine lv_iadd hx hb dM_line_157 ?_
        refine k_toi (y := nI ((3 * k) + 0)) (nI_add _ _) ?_
        refine lv_iload hx hb dM_line_158 (lv_at hl 0 rfl) ?_
        refine k_iast hx hb hK hP hD hS 2 rfl (k := (3 * k) + 0) (v := v67) (by omega) (by decide) dM_line_160 (fun H locs hP hD hS => ?_)
        have hP : va_P (gD G) vC [(qm, .inr (6, [.int (nI th), .int (nI ul), .ref xt, .int (nI z67), .ref xh, .ref xi, .ref xl, .ref xo, .ref xg, .ref xd, .int (zB ld), .ref xs, .int (nI stt), .int (nI sts), .int (nI drw), .ref xn, .ref xb, .ref xv, .int (nI bd), .int (nI rd)])), (xt, aI G 400 tx), (xg, aI G 300 (va_up fg ((3 * k) + 0) v67))] H := hP
        have hD : va_D A [(qm, .inr (6, [.int (nI th), .int (nI ul), .ref xt, .int (nI z67), .ref xh, .ref xi, .ref xl, .ref xo, .ref xg, .ref xd, .int (zB ld), .ref xs, .int (nI stt), .int (nI sts), .int (nI drw), .ref xn, .ref xb, .ref xv, .int (nI bd), .int (nI rd)])), (xt, aI G 400 tx), (xg, aI G 300 (va_up fg ((3 * k) + 0) v67))] := hD
        refine lv_iinc (v := nI 1) (lv' := [(4, .int (nI 1)), (6, .int (nI v67)), (5, .int (nI 0)), (0, .ref qm), (1, .int (nI 4)), (2, .int (nI k)), (3, .int (nI 3))]) hx hb dM_line_161 hl (k := 2) rfl (nI_add _ 1) (by decide) rfl (fun ls hl => ?_)
        refine lv_goto (tgt := 3) hx hb dM_line_164 rfl ?_
        refine lv_iload hx hb dM_line_3 (lv_at hl 0 rfl) ?_
        refine lv_iload_n hx hb dM_line_5 rfl (lv_at hl 6 rfl) ?_
        refine lv_icmp_ge (tgt := 167) hx hb dM_line_6 rfl (fun h6 => (by revert h6; first | decide | exact fun z => absurd z (by decide) | exact fun z => z.elim (by decide))) (fun _ => ?_)
        refine lv_iload_n hx hb dM_line_9 rfl (lv_at hl 4 rfl) ?_
        refine lv_iconst (v := nI 2) hx hb dM_line_10 (by decide) ?_
        refine lv_icmp_ne (tgt := 33) hx hb dM_line_11 rfl (fun _ => ?_) (fun h11 => (by revert h11; first | decide | exact fun z => absurd z (by decide) | exact fun z => z.elim (by decide)))
        refine lv_iconst (v := nI 0) hx hb dM_line_33 (by decide) ?_
        refine lv_istore (lv' := [(5, .int (nI 0)), (4, .int (nI 1)), (6, .int (nI v67)), (0, .ref qm), (1, .int (nI 4)), (2, .int (nI k)), (3, .int (nI 3))]) hx hb dM_line_34 hl (by decide) rfl (fun ls hl => ?_)
        refine lv_iload hx hb dM_line_36 (lv_at hl 1 rfl) ?_
        refine lv_if_le (tgt := 57) hx hb dM_line_38 rfl (fun h38 => (by revert h38; first | decide | exact fun z => absurd z (by decide) | exact fun z => z.elim (by decide))) (fun _ => ?_)
        refine lv_iload hx hb dM_line_41 (lv_at hl 0 rfl) ?_
        refine lv_if_ne (tgt := 57) hx hb dM_line_43 rfl (fun h43 => (by revert h43; first | decide | exact fun z => absurd z (by decide) | exact fun z => z.elim (by decide))) (fun _ => ?_)
        refine lv_aload_n hx hb dM_line_46 rfl (lv_at hl 3 rfl) ?_
        refine lv_bipush (v := nI 32) hx hb dM_line_47 (by decide) ?_
        refine k_i (ws2 := fun u => [(qm, .inr (6, [.int (nI th), .int (nI ul), .ref xt, .int (nI (u)), .ref xh, .ref xi, .ref xl, .ref xo, .ref xg, .ref xd, .int (zB ld), .ref xs, .int (nI stt), .int (nI sts), .int (nI drw), .ref xn, .ref xb, .ref xv, .int (nI bd), .int (nI rd)])), (xt, aI G 400 tx), (xg, aI G 300 (va_up fg ((3 * k) + 0) v67))]) (wr := [(xg, aI G 300 (va_up fg ((3 * k) + 0) v67))]) (k_runV (n := 1) (As := [.int (nI 32)]) (rest := []) hx hb hml hown htb hP hD hK hS hA hE (k_M_eat l G H.size qm xt xh xi xl xo xg xd xs xn xb xv th ul z67 ld stt sts drw bd rd tx 32 (show ul ≤ 400 from by omega) (show z67 ≤ ul from by omega) (show ∀ j, tx j < 128 from by omega) (show 0 < 32 ∧ 32 < 128 from by omega)) b760 b762 s31 b7 b763 (by decide +kernel) rfl rfl ⟨by rw [hRf]; exact Nat.le_of_ble_eq_true rfl, by rw [hRl]; exact Nat.le_of_ble_eq_true rfl⟩ [0, 1] rfl (by decide) 0 rfl rfl rfl rfl hl.1 rfl (Nat.le_of_ble_eq_true rfl) dM_line_49 ⟨Nat.zero_le _, Nat.zero_le _⟩) hP hD hS hA [0, 1] [2] [1, 2, 0] rfl rfl (by decide) (by decide) (fun u => rfl) (by decide) (fun r u H locs hw hP hD hS => ?_)
        rcases hw with ⟨hc49_e, hc49_b, rfl, rfl⟩ | ⟨hc49_e, rfl, rfl⟩
        · skip
          have hP : va_P (gD G) vC [(qm, .inr (6, [.int (nI th), .int (nI ul), .ref xt, .int (nI (z67 + 1)), .ref xh, .ref xi, .ref xl, .ref xo, .ref xg, .ref xd, .int (zB ld), .ref xs, .int (nI stt), .int (nI sts), .int (nI drw), .ref xn, .ref xb, .ref xv, .int (nI bd), .int (nI rd)])), (xt, aI G 400 tx), (xg, aI G 300 (va_up fg ((3 * k) + 0) v67))] H := hP
          have hD : va_D A [(qm, .inr (6, [.int (nI th), .int (nI ul), .ref xt, .int (nI (z67 + 1)), .ref xh, .ref xi, .ref xl, .ref xo, .ref xg, .ref xd, .int (zB ld), .ref xs, .int (nI stt), .int (nI sts), .int (nI drw), .ref xn, .ref xb, .ref xv, .int (nI bd), .int (nI rd)])), (xt, aI G 400 tx), (xg, aI G 300 (va_up fg ((3 * k) + 0) v67))] := hD
          refine lv_if_ne (tgt := 57) hx hb dM_line_52 rfl (fun _ => ?_) (fun h52 => (by revert h52; first | decide | exact fun z => absurd z (by decide) | exact fun z => z.elim (by decide)))
          refine lv_iload hx hb dM_line_57 (lv_at hl 0 rfl) ?_
          refine lv_if_eq (tgt := 66) hx hb dM_line_59 rfl (fun _ => ?_) (fun h59 => (by revert h59; first | decide | exact fun z => absurd z (by decide) | exact fun z => z.elim (by decide)))
          refine lv_aload_n hx hb dM_line_66 rfl (lv_at hl 3 rfl) ?_
          refine k_i (ws2 := fun u => [(qm, .inr (6, [.int (nI th), .int (nI ul), .ref xt, .int (nI (u)), .ref xh, .ref xi, .ref xl, .ref xo, .ref xg, .ref xd, .int (zB ld), .ref xs, .int (nI stt), .int (nI sts), .int (nI drw), .ref xn, .ref xb, .ref xv, .int (nI bd), .int (nI rd)])), (xt, aI G 400 tx), (xg, aI G 300 (va_up fg ((3 * k) + 0) v67))]) (wr := [(xg, aI G 300 (va_up fg ((3 * k) + 0) v67))]) (k_runV (n := 0) (As := []) (rest := []) hx hb hml hown htb hP hD hK hS hA hE (k_M_number l G H.size qm xt xh xi xl xo xg xd xs xn xb xv th ul (z67 + 1) ld stt sts drw bd rd tx (show ul ≤ 400 from by omega) (show (z67 + 1) ≤ ul from by omega) (show ∀ j, tx j < 128 from by omega)) b772 b774 s34 b7 b775 (by decide +kernel) rfl rfl ⟨by rw [hRf]; exact Nat.le_of_ble_eq_true rfl, by rw [hRl]; exact Nat.le_of_ble_eq_true rfl⟩ [0, 1] rfl (by decide) 0 rfl rfl rfl rfl hl.1 rfl (Nat.le_of_ble_eq_true rfl) dM_line_67 ⟨Nat.zero_le _, Nat.zero_le _⟩) hP hD hS hA [0, 1] [2] [1, 2, 0] rfl rfl (by decide) (by decide) (fun u => rfl) (by decide) (fun r u H locs hw hP hD hS => ?_)
          rcases hw with ⟨v67_2, z67_2, hc67_2_e, hc67_2_b, rfl, rfl⟩ | ⟨z67_2, hc67_2_e, hc67_2_b, rfl, rfl⟩
          · skip
            have hP : va_P (gD G) vC [(qm, .inr (6, [.int (nI th), .int (nI ul), .ref xt, .int (nI z67_2), .ref xh, .ref xi, .ref xl, .ref xo, .ref xg, .ref xd, .int (zB ld), .ref xs, .int (nI stt), .int (nI sts), .int (nI drw), .ref xn, .ref xb, .ref xv, .int (nI bd), .int (nI rd)])), (xt, aI G 400 tx), (xg, aI G 300 (va_up fg ((3 * k) + 0) v67))] H := hP
            have hD : va_D A [(qm, .inr (6, [.int (nI th), .int (nI ul), .ref xt, .int (nI z67_2), .ref xh, .ref xi, .ref xl, .ref xo, .ref xg, .ref xd, .int (zB ld), .ref xs, .int (nI stt), .int (nI sts), .int (nI drw), .ref xn, .ref xb, .ref xv, .int (nI bd), .int (nI rd)])), (xt, aI G 400 tx), (xg, aI G 300 (va_up fg ((3 * k) + 0) v67))] := hD
            refine lv_istore (lv' := [(6, .int (nI v67_2)), (5, .int (nI 0)), (4, .int (nI 1)), (0, .ref qm), (1, .int (nI 4)), (2, .int (nI k)), (3, .int (nI 3))]) hx hb dM_line_70 hl (by decide) rfl (fun ls hl => ?_)
            refine lv_iload hx hb dM_line_72 (lv_at hl 0 rfl) ?_
            refine lv_if_ge (tgt := 79) hx hb dM_line_74 rfl (fun h74 => ?_) (fun h74 => ?_)
            · have h74 : 0 ≤ v67_2 := (nI_leI (a := 0) (b := v67_2) (by omega) (by omega)).mp h74
              refine lv_iload_n hx hb dM_line_79 rfl (lv_at hl 4 rfl) ?_
              refine lv_if_ne (tgt := 95) hx hb dM_line_80 rfl (fun _ => ?_) (fun h80 => (by revert h80; first | decide | exact fun z => absurd z (by decide) | exact fun z => z.elim (by decide)))
              refine lv_iload_n hx hb dM_line_95 rfl (lv_at hl 4 rfl) ?_
              refine lv_iconst (v := nI 1) hx hb dM_line_96 (by decide) ?_
              refine lv_icmp_ne (tgt := 111) hx hb dM_line_97 rfl (fun _ => ?_) (fun h97 => (by revert h97; first | decide | exact fun z => absurd z (by decide) | exact fun z => z.elim (by decide)))
              refine lv_iload_n hx hb dM_line_111 rfl (lv_at hl 4 rfl) ?_
              refine lv_iconst (v := nI 2) hx hb dM_line_112 (by decide) ?_
              refine lv_icmp_ne (tgt := 132) hx hb dM_line_113 rfl (fun _ => ?_) (fun h113 => (by revert h113; first | decide | exact fun z => absurd z (by decide) | exact fun z => z.elim (by decide)))
              refine lv_iload_n hx hb dM_line_132 rfl (lv_at hl 4 rfl) ?_
              refine lv_iconst (v := nI 3) hx hb dM_line_133 (by decide) ?_
              refine lv_icmp_ne (tgt := 148) hx hb dM_line_134 rfl (fun _ => ?_) (fun h134 => (by revert h134; first | decide | exact fun z => absurd z (by decide) | exact fun z => z.elim (by decide)))
              refine lv_aload_n hx hb dM_line_148 rfl (lv_at hl 3 rfl) ?_
              refine va_get (D := gD G) (ci := 6) (v := .ref xg) (C := "CircuitProverModel") (T := TM) (N := 20) hx hb htb inM hown hK hP 0 rfl rfl 8 (by decide) (htb _ b679) (fun _ h9 => h9) rfl dM_line_149 ?_
              refine lv_iconst (v := nI 3) hx hb dM_line_152 (by decide) ?_
              refine lv_iload_n hx hb dM_line_153 rfl (lv_at hl 5 rfl) ?_
              refine lv_imul hx hb dM_line_154 ?_
              refine k_toi (y := nI (3 * k)) (pk_mul _ _) ?_
              refine lv_iload hx hb dM_line_155 (lv_at hl 2 rfl) ?_
              refine lv_iadd hx hb dM_line_157 ?_
              refine k_toi (y := nI ((3 * k) + 1)) (nI_add _ _) ?_
              refine lv_iload hx hb dM_line_158 (lv_at hl 0 rfl) ?_
              refine k_iast hx hb hK hP hD hS 2 rfl (k := (3 * k) + 1) (v := v67_2) (by omega) (by decide) dM_line_160 (fun H locs hP hD hS => ?_)
              have hP : va_P (gD G) vC [(qm, .inr (6, [.int (nI th), .int (nI ul), .ref xt, .int (nI z67_2), .ref xh, .ref xi, .ref xl, .ref xo, .ref xg, .ref xd, .int (zB ld), .ref xs, .int (nI stt), .int (nI sts), .int (nI drw), .ref xn, .ref xb, .ref xv, .int (nI bd), .int (nI rd)])), (xt, aI G 400 tx), (xg, aI G 300 (va_up (va_up fg ((3 * k) + 0) v67) ((3 * k) + 1) v67_2))] H := hP
              have hD : va_D A [(qm, .inr (6, [.int (nI th), .int (nI ul), .ref xt, .int (nI z67_2), .ref xh, .ref xi, .ref xl, .ref xo, .ref xg, .ref xd, .int (zB ld), .ref xs, .int (nI stt), .int (nI sts), .int (nI drw), .ref xn, .ref xb, .ref xv, .int (nI bd), .int (nI rd)])), (xt, aI G 400 tx), (xg, aI G 300 (va_up (va_up fg ((3 * k) + 0) v67) ((3 * k) + 1) v67_2))] := hD
              refine lv_iinc (v := nI 2) (lv' := [(4, .int (nI 2)), (6, .int (nI v67_2)), (5, .int (nI 0)), (0, .ref qm), (1, .int (nI 4)), (2, .int (nI k)), (3, .int (nI 3))]) hx hb dM_line_161 hl (k := 2) rfl (nI_add _ 1) (by decide) rfl (fun ls hl => ?_)
              refine lv_goto (tgt := 3) hx hb dM_line_164 rfl ?_
              refine lv_iload hx hb dM_line_3 (lv_at hl 0 rfl) ?_
              refine lv_iload_n hx hb dM_line_5 rfl (lv_at hl 6 rfl) ?_
              refine lv_icmp_ge (tgt := 167) hx hb dM_line_6 rfl (fun h6 => (by revert h6; first | decide | exact fun z => absurd z (by decide) | exact fun z => z.elim (by decide))) (fun _ => ?_)
              refine lv_iload_n hx hb dM_line_9 rfl (lv_at hl 4 rfl) ?_
              refine lv_iconst (v := nI 2) hx hb dM_line_10 (by decide) ?_
              refine lv_icmp_ne (tgt := 33) hx hb dM_line_11 rfl (fun _ => ?_) (fun h11 => (by revert h11; first | decide | exact fun z => absurd z (by decide) | exact fun z => z.elim (by decide)))
              refine lv_iconst (v := nI 0) hx hb dM_line_33 (by decide) ?_
              refine lv_istore (lv' := [(5, .int (nI 0)), (4, .int (nI 2)), (6, .int (nI v67_2)), (0, .ref qm), (1, .int (nI 4)), (2, .int (nI k)), (3, .int (nI 3))]) hx hb dM_line_34 hl (by decide) rfl (fun ls hl => ?_)
              refine lv_iload hx hb dM_line_36 (lv_at hl 1 rfl) ?_
              refine lv_if_le (tgt := 57) hx hb dM_line_38 rfl (fun h38 => (by revert h38; first | decide | exact fun z => absurd z (by decide) | exact fun z => z.elim (by decide))) (fun _ => ?_)
              refine lv_iload hx hb dM_line_41 (lv_at hl 0 rfl) ?_
              refine lv_if_ne (tgt := 57) hx hb dM_line_43 rfl (fun h43 => (by revert h43; first | decide | exact fun z => absurd z (by decide) | exact fun z => z.elim (by decide))) (fun _ => ?_)
              refine lv_aload_n hx hb dM_line_46 rfl (lv_at hl 3 rfl) ?_
              refine lv_bipush (v := nI 32) hx hb dM_line_47 (by decide) ?_
              refine k_i (ws2 := fun u => [(qm, .inr (6, [.int (nI th), .int (nI ul), .ref xt, .int (nI (u)), .ref xh, .ref xi, .ref xl, .ref xo, .ref xg, .ref xd, .int (zB ld), .ref xs, .int (nI stt), .int (nI sts), .int (nI drw), .ref xn, .ref xb, .ref xv, .int (nI bd), .int (nI rd)])), (xt, aI G 400 tx), (xg, aI G 300 (va_up (va_up fg ((3 * k) + 0) v67) ((3 * k) + 1) v67_2))]) (wr := [(xg, aI G 300 (va_up (va_up fg ((3 * k) + 0) v67) ((3 * k) + 1) v67_2))]) (k_runV (n := 1) (As := [.int (nI 32)]) (rest := []) hx hb hml hown htb hP hD hK hS hA hE (k_M_eat l G H.size qm xt xh xi xl xo xg xd xs xn xb xv th ul z67_2 ld stt sts drw bd rd tx 32 (show ul ≤ 400 from by omega) (show z67_2 ≤ ul from by omega) (show ∀ j, tx j < 128 from by omega) (show 0 < 32 ∧ 32 < 128 from by omega)) b760 b762 s31 b7 b763 (by decide +kernel) rfl rfl ⟨by rw [hRf]; exact Nat.le_of_ble_eq_true rfl, by rw [hRl]; exact Nat.le_of_ble_eq_true rfl⟩ [0, 1] rfl (by decide) 0 rfl rfl rfl rfl hl.1 rfl (Nat.le_of_ble_eq_true rfl) dM_line_49 ⟨Nat.zero_le _, Nat.zero_le _⟩) hP hD hS hA [0, 1] [2] [1, 2, 0] rfl rfl (by decide) (by decide) (fun u => rfl) (by decide) (fun r u H locs hw hP hD hS => ?_)
              rcases hw with ⟨hc49_2_e, hc49_2_b, rfl, rfl⟩ | ⟨hc49_2_e, rfl, rfl⟩
              · skip
                have hP : va_P (gD G) vC [(qm, .inr (6, [.int (nI th), .int (nI ul), .ref xt, .int (nI (z67_2 + 1)), .ref xh, .ref xi, .ref xl, .ref xo, .ref xg, .ref xd, .int (zB ld), .ref xs, .int (nI stt), .int (nI sts), .int (nI drw), .ref xn, .ref xb, .ref xv, .int (nI bd), .int (nI rd)])), (xt, aI G 400 tx), (xg, aI G 300 (va_up (va_up fg ((3 * k) + 0) v67) ((3 * k) + 1) v67_2))] H := hP
                have hD : va_D A [(qm, .inr (6, [.int (nI th), .int (nI ul), .ref xt, .int (nI (z67_2 + 1)), .ref xh, .ref xi, .ref xl, .ref xo, .ref xg, .ref xd, .int (zB ld), .ref xs, .int (nI stt), .int (nI sts), .int (nI drw), .ref xn, .ref xb, .ref xv, .int (nI bd), .int (nI rd)])), (xt, aI G 400 tx), (xg, aI G 300 (va_up (va_up fg ((3 * k) + 0) v67) ((3 * k) + 1) v67_2))] := hD
                refine lv_if_ne (tgt := 57) hx hb dM_line_52 rfl (fun _ => ?_) (fun h52 => (by revert h52; first | decide | exact fun z => absurd z (by decide) | exact fun z => z.elim (by decide)))
                refine lv_iload hx hb dM_line_57 (lv_at hl 0 rfl) ?_
                refine lv_if_eq (tgt := 66) hx hb dM_line_59 rfl (fun _ => ?_) (fun h59 => (by revert h59; first | decide | exact fun z => absurd z (by decide) | exact fun z => z.elim (by decide)))
                refine lv_aload_n hx hb dM_line_66 rfl (lv_at hl 3 rfl) ?_
                refine k_i (ws2 := fun u => [(qm, .inr (6, [.int (nI th), .int (nI ul), .ref xt, .int (nI (u)), .ref xh, .ref xi, .ref xl, .ref xo, .ref xg, .ref xd, .int (zB ld), .ref xs, .int (nI stt), .int (nI sts), .int (nI drw), .ref xn, .ref xb, .ref xv, .int (nI bd), .int (nI rd)])), (xt, aI G 400 tx), (xg, aI G 300 (va_up (va_up fg ((3 * k) + 0) v67) ((3 * k) + 1) v67_2))]) (wr := [(xg, aI G 300 (va_up (va_up fg ((3 * k) + 0) v67) ((3 * k) + 1) v67_2))]) (k_runV (n := 0) (As := []) (rest := []) hx hb hml hown htb hP hD hK hS hA hE (k_M_number l G H.size qm xt xh xi xl xo xg xd xs xn xb xv th ul (z67_2 + 1) ld stt sts drw bd rd tx (show ul ≤ 400 from by omega) (show (z67_2 + 1) ≤ ul from by omega) (show ∀ j, tx j < 128 from by omega)) b772 b774 s34 b7 b775 (by decide +kernel) rfl rfl ⟨by rw [hRf]; exact Nat.le_of_ble_eq_true rfl, by rw [hRl]; exact Nat.le_of_ble_eq_true rfl⟩ [0, 1] rfl (by decide) 0 rfl rfl rfl rfl hl.1 rfl (Nat.le_of_ble_eq_true rfl) dM_line_67 ⟨Nat.zero_le _, Nat.zero_le _⟩) hP hD hS hA [0, 1] [2] [1, 2, 0] rfl rfl (by decide) (by decide) (fun u => rfl) (by decide) (fun r u H locs hw hP hD hS => ?_)
                rcases hw with ⟨v67_3, z67_3, hc67_3_e, hc67_3_b, rfl, rfl⟩ | ⟨z67_3, hc67_3_e, hc67_3_b, rfl, rfl⟩
                · skip
                  have hP : va_P (gD G) vC [(qm, .inr (6, [.int (nI th), .int (nI ul), .ref xt, .int (nI z67_3), .ref xh, .ref xi, .ref xl, .ref xo, .ref xg, .ref xd, .int (zB ld), .ref xs, .int (nI stt), .int (nI sts), .int (nI drw), .ref xn, .ref xb, .ref xv, .int (nI bd), .int (nI rd)])), (xt, aI G 400 tx), (xg, aI G 300 (va_up (va_up fg ((3 * k) + 0) v67) ((3 * k) + 1) v67_2))] H := hP
                  have hD : va_D A [(qm, .inr (6, [.int (nI th), .int (nI ul), .ref xt, .int (nI z67_3), .ref xh, .ref xi, .ref xl, .ref xo, .ref xg, .ref xd, .int (zB ld), .ref xs, .int (nI stt), .int (nI sts), .int (nI drw), .ref xn, .ref xb, .ref xv, .int (nI bd), .int (nI rd)])), (xt, aI G 400 tx), (xg, aI G 300 (va_up (va_up fg ((3 * k) + 0) v67) ((3 * k) + 1) v67_2))] := hD
                  refine lv_istore (lv' := [(6, .int (nI v67_3)), (5, .int (nI 0)), (4, .int (nI 2)), (0, .ref qm), (1, .int (nI 4)), (2, .int (nI k)), (3, .int (nI 3))]) hx hb dM_line_70 hl (by decide) rfl (fun ls hl => ?_)
                  refine lv_iload hx hb dM_line_72 (lv_at hl 0 rfl) ?_
                  refine lv_if_ge (tgt := 79) hx hb dM_line_74 rfl (fun h74 => ?_) (fun h74 => ?_)
                  · have h74 : 0 ≤ v67_3 := (nI_leI (a := 0) (b := v67_3) (by omega) (by omega)).mp h74
                    refine lv_iload_n hx hb dM_line_79 rfl (lv_at hl 4 rfl) ?_
                    refine lv_if_ne (tgt := 95) hx hb dM_line_80 rfl (fun _ => ?_) (fun h80 => (by revert h80; first | decide | exact fun z => absurd z (by decide) | exact fun z => z.elim (by decide)))
                    refine lv_iload_n hx hb dM_line_95 rfl (lv_at hl 4 rfl) ?_
                    refine lv_iconst (v := nI 1) hx hb dM_line_96 (by decide) ?_
                    refine lv_icmp_ne (tgt := 111) hx hb dM_line_97 rfl (fun _ => ?_) (fun h97 => (by revert h97; first | decide | exact fun z => absurd z (by decide) | exact fun z => z.elim (by decide)))
                    refine lv_iload_n hx hb dM_line_111 rfl (lv_at hl 4 rfl) ?_
                    refine lv_iconst (v := nI 2) hx hb dM_line_112 (by decide) ?_
                    refine lv_icmp_ne (tgt := 132) hx hb dM_line_113 rfl (fun _ => ?_) (fun h113 => (by revert h113; first | decide | exact fun z => absurd z (by decide) | exact fun z => z.elim (by decide)))
                    refine lv_iload_n hx hb dM_line_132 rfl (lv_at hl 4 rfl) ?_
                    refine lv_iconst (v := nI 3) hx hb dM_line_133 (by decide) ?_
                    refine lv_icmp_ne (tgt := 148) hx hb dM_line_134 rfl (fun _ => ?_) (fun h134 => (by revert h134; first | decide | exact fun z => absurd z (by decide) | exact fun z => z.elim (by decide)))
                    refine lv_aload_n hx hb dM_line_148 rfl (lv_at hl 3 rfl) ?_
                    refine va_get (D := gD G) (ci := 6) (v := .ref xg) (C := "CircuitProverModel") (T := TM) (N := 20) hx hb htb inM hown hK hP 0 rfl rfl 8 (by decide) (htb _ b679) (fun _ h9 => h9) rfl dM_line_149 ?_
                    refine lv_iconst (v := nI 3) hx hb dM_line_152 (by decide) ?_
                    refine lv_iload_n hx hb dM_line_153 rfl (lv_at hl 5 rfl) ?_
                    refine lv_imul hx hb dM_line_154 ?_
                    refine k_toi (y := nI (3 * k)) (pk_mul _ _) ?_
                    refine lv_iload hx hb dM_line_155 (lv_at hl 2 rfl) ?_
                    refine lv_iadd hx hb dM_line_157 ?_
                    refine k_toi (y := nI ((3 * k) + 2)) (nI_add _ _) ?_
                    refine lv_iload hx hb dM_line_158 (lv_at hl 0 rfl) ?_
                    refine k_iast hx hb hK hP hD hS 2 rfl (k := (3 * k) + 2) (v := v67_3) (by omega) (by decide) dM_line_160 (fun H locs hP hD hS => ?_)
                    have hP : va_P (gD G) vC [(qm, .inr (6, [.int (nI th), .int (nI ul), .ref xt, .int (nI z67_3), .ref xh, .ref xi, .ref xl, .ref xo, .ref xg, .ref xd, .int (zB ld), .ref xs, .int (nI stt), .int (nI sts), .int (nI drw), .ref xn, .ref xb, .ref xv, .int (nI bd), .int (nI rd)])), (xt, aI G 400 tx), (xg, aI G 300 (va_up (va_up (va_up fg ((3 * k) + 0) v67) ((3 * k) + 1) v67_2) ((3 * k) + 2) v67_3))] H := hP
                    have hD : va_D A [(qm, .inr (6, [.int (nI th), .int (nI ul), .ref xt, .int (nI z67_3), .ref xh, .ref xi, .ref xl, .ref xo, .ref xg, .ref xd, .int (zB ld), .ref xs, .int (nI stt), .int (nI sts), .int (nI drw), .ref xn, .ref xb, .ref xv, .int (nI bd), .int (nI rd)])), (xt, aI G 400 tx), (xg, aI G 300 (va_up (va_up (va_up fg ((3 * k) + 0) v67) ((3 * k) + 1) v67_2) ((3 * k) + 2) v67_3))] := hD
                    refine lv_iinc (v := nI 3) (lv' := [(4, .int (nI 3)), (6, .int (nI v67_3)), (5, .int (nI 0)), (0, .ref qm), (1, .int (nI 4)), (2, .int (nI k)), (3, .int (nI 3))]) hx hb dM_line_161 hl (k := 2) rfl (nI_add _ 1) (by decide) rfl (fun ls hl => ?_)
                    refine lv_goto (tgt := 3) hx hb dM_line_164 rfl ?_
                    refine lv_iload hx hb dM_line_3 (lv_at hl 0 rfl) ?_
                    refine lv_iload_n hx hb dM_line_5 rfl (lv_at hl 6 rfl) ?_
                    refine lv_icmp_ge (tgt := 167) hx hb dM_line_6 rfl (fun _ => ?_) (fun h6 => (by revert h6; first | decide | exact fun z => absurd z (by decide) | exact fun z => z.elim (by decide)))
                    refine lv_aload_n hx hb dM_line_167 rfl (lv_at hl 3 rfl) ?_
                    refine lv_bipush (v := nI 10) hx hb dM_line_168 (by decide) ?_
                    refine k_i (ws2 := fun u => [(qm, .inr (6, [.int (nI th), .int (nI ul), .ref xt, .int (nI (u)), .ref xh, .ref xi, .ref xl, .ref xo, .ref xg, .ref xd, .int (zB ld), .ref xs, .int (nI stt), .int (nI sts), .int (nI drw), .ref xn, .ref xb, .ref xv, .int (nI bd), .int (nI rd)])), (xt, aI G 400 tx), (xg, aI G 300 (va_up (va_up (va_up fg ((3 * k) + 0) v67) ((3 * k) + 1) v67_2) ((3 * k) + 2) v67_3))]) (wr := [(xg, aI G 300 (va_up (va_up (va_up fg ((3 * k) + 0) v67) ((3 * k) + 1) v67_2) ((3 * k) + 2) v67_3))]) (k_runV (n := 1) (As := [.int (nI 10)]) (rest := []) hx hb hml hown htb hP hD hK hS hA hE (k_M_eat l G H.size qm xt xh xi xl xo xg xd xs xn xb xv th ul z67_3 ld stt sts drw bd rd tx 10 (show ul ≤ 400 from by omega) (show z67_3 ≤ ul from by omega) (show ∀ j, tx j < 128 from by omega) (show 0 < 10 ∧ 10 < 128 from by omega)) b760 b762 s31 b7 b763 (by decide +kernel) rfl rfl ⟨by rw [hRf]; exact Nat.le_of_ble_eq_true rfl, by rw [hRl]; exact Nat.le_of_ble_eq_true rfl⟩ [0, 1] rfl (by decide) 0 rfl rfl rfl rfl hl.1 rfl (Nat.le_of_ble_eq_true rfl) dM_line_170 ⟨Nat.zero_le _, Nat.zero_le _⟩) hP hD hS hA [0, 1] [2] [1, 2, 0] rfl rfl (by decide) (by decide) (fun u => rfl) (by decide) (fun r u H locs hw hP hD hS => ?_)
                    rcases hw with ⟨hc170_e, hc170_b, rfl, rfl⟩ | ⟨hc170_e, rfl, rfl⟩
                    · skip
                      have hP : va_P (gD G) vC [(qm, .inr (6, [.int (nI th), .int (nI ul), .ref xt, .int (nI (z67_3 + 1)), .ref xh, .ref xi, .ref xl, .ref xo, .ref xg, .ref xd, .int (zB ld), .ref xs, .int (nI stt), .int (nI sts), .int (nI drw), .ref xn, .ref xb, .ref xv, .int (nI bd), .int (nI rd)])), (xt, aI G 400 tx), (xg, aI G 300 (va_up (va_up (va_up fg ((3 * k) + 0) v67) ((3 * k) + 1) v67_2) ((3 * k) + 2) v67_3))] H := hP
                      have hD : va_D A [(qm, .inr (6, [.int (nI th), .int (nI ul), .ref xt, .int (nI (z67_3 + 1)), .ref xh, .ref xi, .ref xl, .ref xo, .ref xg, .ref xd, .int (zB ld), .ref xs, .int (nI stt), .int (nI sts), .int (nI drw), .ref xn, .ref xb, .ref xv, .int (nI bd), .int (nI rd)])), (xt, aI G 400 tx), (xg, aI G 300 (va_up (va_up (va_up fg ((3 * k) + 0) v67) ((3 * k) + 1) v67_2) ((3 * k) + 2) v67_3))] := hD
                      -- end 0
                      rw [← hQ]
                      exact k_iret hx hb hr hlocks (by decide) (u := ((z67_3 + 1), va_up (va_up (va_up fg ((3 * k) + 0) v67) ((3 * k) + 1) v67_2) ((3 * k) + 2) v67_3)) (Or.inl ⟨[v67, v67_2, v67_3], _, _, (mR_exF (T := (lk tx ul)) 2 pt).symm.trans ((mr_0 hc67_e).trans (congrArg (pre [v67]) ((mr_k hc49_e hc67_2_e).trans (congrArg (pre [v67_2]) ((mr_k hc49_2_e hc67_3_e).trans (congrArg (pre [v67_3]) (mr_z hc170_e))))))), up3.1, up3.2, hc170_b, rfl, rfl⟩) hP hD hK hS dM_line_173
                    · skip
                      have hP : va_P (gD G) vC [(qm, .inr (6, [.int (nI th), .int (nI ul), .ref xt, .int (nI z67_3), .ref xh, .ref xi, .ref xl, .ref xo, .ref xg, .ref xd, .int (zB ld), .ref xs, .int (nI stt), .int (nI sts), .int (nI drw), .ref xn, .ref xb, .ref xv, .int (nI bd), .int (nI rd)])), (xt, aI G 400 tx), (xg, aI G 300 (va_up (va_up (va_up fg ((3 * k) + 0) v67) ((3 * k) + 1) v67_2) ((3 * k) + 2) v67_3))] H := hP
                      have hD : va_D A [(qm, .inr (6, [.int (nI th), .int (nI ul), .ref xt, .int (nI z67_3), .ref xh, .ref xi, .ref xl, .ref xo, .ref xg, .ref xd, .int (zB ld), .ref xs, .int (nI stt), .int (nI sts), .int (nI drw), .ref xn, .ref xb, .ref xv, .int (nI bd), .int (nI rd)])), (xt, aI G 400 tx), (xg, aI G 300 (va_up (va_up (va_up fg ((3 * k) + 0) v67) ((3 * k) + 1) v67_2) ((3 * k) + 2) v67_3))] := hD
                      -- end 1
                      rw [← hQ]
                      exact k_iret hx hb hr hlocks (by decide) (u := (z67_3, va_up (va_up (va_up fg ((3 * k) + 0) v67) ((3 * k) + 1) v67_2) ((3 * k) + 2) v67_3)) (Or.inr ⟨_, _, (mR_exF (T := (lk tx ul)) 2 pt).symm.trans ((mr_0 hc67_e).trans (congrArg (pre [v67]) ((mr_k hc49_e hc67_2_e).trans (congrArg (pre [v67_2]) ((mr_k hc49_2_e hc67_3_e).trans (congrArg (pre [v67_3]) (mr_zn hc170_e))))))), by omega, rfl, rfl⟩) hP hD hK hS dM_line_173
                  · have h74 : v67_3 < 0 := Nat.lt_of_not_le (fun z => h74 ((nI_leI (a := 0) (b := v67_3) (by omega) (by omega)).mpr z))
                    exfalso; omega
                · skip
                  have hP : va_P (gD G) vC [(qm, .inr (6, [.int (nI th), .int (nI ul), .ref xt, .int (nI z67_3), .ref xh, .ref xi, .ref xl, .ref xo, .ref xg, .ref xd, .int (zB ld), .ref xs, .int (nI stt), .int (nI sts), .int (nI drw), .ref xn, .ref xb, .ref xv, .int (nI bd), .int (nI rd)])), (xt, aI G 400 tx), (xg, aI G 300 (va_up (va_up fg ((3 * k) + 0) v67) ((3 * k) + 1) v67_2))] H := hP
                  have hD : va_D A [(qm, .inr (6, [.int (nI th), .int (nI ul), .ref xt, .int (nI z67_3), .ref xh, .ref xi, .ref xl, .ref xo, .ref xg, .ref xd, .int (zB ld), .ref xs, .int (nI stt), .int (nI sts), .int (nI drw), .ref xn, .ref xb, .ref xv, .int (nI bd), .int (nI rd)])), (xt, aI G 400 tx), (xg, aI G 300 (va_up (va_up fg ((3 * k) + 0) v67) ((3 * k) + 1) v67_2))] := hD
                  refine lv_istore (lv' := [(6, .int (-1)), (5, .int (nI 0)), (4, .int (nI 2)), (0, .ref qm), (1, .int (nI 4)), (2, .int (nI k)), (3, .int (nI 3))]) hx hb dM_line_70 hl (by decide) rfl (fun ls hl => ?_)
                  refine lv_iload hx hb dM_line_72 (lv_at hl 0 rfl) ?_
                  refine lv_if_ge (tgt := 79) hx hb dM_line_74 rfl (fun h74 => (by revert h74; first | decide | exact fun z => absurd z (by decide) | exact fun z => z.elim (by decide))) (fun _ => ?_)
                  refine lv_iconst (v := nI 0) hx hb dM_line_77 (by decide) ?_
                  -- end 2
                  rw [← hQ]
                  exact k_iret hx hb hr hlocks (by decide) (u := (z67_3, va_up (va_up fg ((3 * k) + 0) v67) ((3 * k) + 1) v67_2)) (Or.inr ⟨_, _, (mR_exF (T := (lk tx ul)) 2 pt).symm.trans ((mr_0 hc67_e).trans (congrArg (pre [v67]) ((mr_k hc49_e hc67_2_e).trans (congrArg (pre [v67_2]) (mr_kn hc49_2_e hc67_3_e))))), by omega, rfl, rfl⟩) hP hD hK hS dM_line_78
              · skip
                have hP : va_P (gD G) vC [(qm, .inr (6, [.int (nI th), .int (nI ul), .ref xt, .int (nI z67_2), .ref xh, .ref xi, .ref xl, .ref xo, .ref xg, .ref xd, .int (zB ld), .ref xs, .int (nI stt), .int (nI sts), .int (nI drw), .ref xn, .ref xb, .ref xv, .int (nI bd), .int (nI rd)])), (xt, aI G 400 tx), (xg, aI G 300 (va_up (va_up fg ((3 * k) + 0) v67) ((3 * k) + 1) v67_2))] H := hP
                have hD : va_D A [(qm, .inr (6, [.int (nI th), .int (nI ul), .ref xt, .int (nI z67_2), .ref xh, .ref xi, .ref xl, .ref xo, .ref xg, .ref xd, .int (zB ld), .ref xs, .int (nI stt), .int (nI sts), .int (nI drw), .ref xn, .ref xb, .ref xv, .int (nI bd), .int (nI rd)])), (xt, aI G 400 tx), (xg, aI G 300 (va_up (va_up fg ((3 * k) + 0) v67) ((3 * k) + 1) v67_2))] := hD
                refine lv_if_ne (tgt := 57) hx hb dM_line_52 rfl (fun h52 => (by revert h52; first | decide | exact fun z => absurd z (by decide) | exact fun z => z.elim (by decide))) (fun _ => ?_)
                refine lv_iconst (v := nI 0) hx hb dM_line_55 (by decide) ?_
                -- end 3
                rw [← hQ]
                exact k_iret hx hb hr hlocks (by decide) (u := (z67_2, va_up (va_up fg ((3 * k) + 0) v67) ((3 * k) + 1) v67_2)) (Or.inr ⟨_, _, (mR_exF (T := (lk tx ul)) 2 pt).symm.trans ((mr_0 hc67_e).trans (congrArg (pre [v67]) ((mr_k hc49_e hc67_2_e).trans (congrArg (pre [v67_2]) (mr_ks hc49_2_e (fun q => Bool.noConfusion q)))))), by omega, rfl, rfl⟩) hP hD hK hS dM_line_56
            · have h74 : v67_2 < 0 := Nat.lt_of_not_le (fun z => h74 ((nI_leI (a := 0) (b := v67_2) (by omega) (by omega)).mpr z))
              exfalso; omega
          · skip
            have hP : va_P (gD G) vC [(qm, .inr (6, [.int (nI th), .int (nI ul), .ref xt, .int (nI z67_2), .ref xh, .ref xi, .ref xl, .ref xo, .ref xg, .ref xd, .int (zB ld), .ref xs, .int (nI stt), .int (nI sts), .int (nI drw), .ref xn, .ref xb, .ref xv, .int (nI bd), .int (nI rd)])), (xt, aI G 400 tx), (xg, aI G 300 (va_up fg ((3 * k) + 0) v67))] H := hP
            have hD : va_D A [(qm, .inr (6, [.int (nI th), .int (nI ul), .ref xt, .int (nI z67_2), .ref xh, .ref xi, .ref xl, .ref xo, .ref xg, .ref xd, .int (zB ld), .ref xs, .int (nI stt), .int (nI sts), .int (nI drw), .ref xn, .ref xb, .ref xv, .int (nI bd), .int (nI rd)])), (xt, aI G 400 tx), (xg, aI G 300 (va_up fg ((3 * k) + 0) v67))] := hD
            refine lv_istore (lv' := [(6, .int (-1)), (5, .int (nI 0)), (4, .int (nI 1)), (0, .ref qm), (1, .int (nI 4)), (2, .int (nI k)), (3, .int (nI 3))]) hx hb dM_line_70 hl (by decide) rfl (fun ls hl => ?_)
            refine lv_iload hx hb dM_line_72 (lv_at hl 0 rfl) ?_
            refine lv_if_ge (tgt := 79) hx hb dM_line_74 rfl (fun h74 => (by revert h74; first | decide | exact fun z => absurd z (by decide) | exact fun z => z.elim (by decide))) (fun _ => ?_)
            refine lv_iconst (v := nI 0) hx hb dM_line_77 (by decide) ?_
            -- end 4
            rw [← hQ]
            exact k_iret hx hb hr hlocks (by decide) (u := (z67_2, va_up fg ((3 * k) + 0) v67)) (Or.inr ⟨_, _, (mR_exF (T := (lk tx ul)) 2 pt).symm.trans ((mr_0 hc67_e).trans (congrArg (pre [v67]) (mr_kn hc49_e hc67_2_e))), by omega, rfl, rfl⟩) hP hD hK hS dM_line_78
        · skip
          have hP : va_P (gD G) vC [(qm, .inr (6, [.int (nI th), .int (nI ul), .ref xt, .int (nI z67), .ref xh, .ref xi, .ref xl, .ref xo, .ref xg, .ref xd, .int (zB ld), .ref xs, .int (nI stt), .int (nI sts), .int (nI drw), .ref xn, .ref xb, .ref xv, .int (nI bd), .int (nI rd)])), (xt, aI G 400 tx), (xg, aI G 300 (va_up fg ((3 * k) + 0) v67))] H := hP
          have hD : va_D A [(qm, .inr (6, [.int (nI th), .int (nI ul), .ref xt, .int (nI z67), .ref xh, .ref xi, .ref xl, .ref xo, .ref xg, .ref xd, .int (zB ld), .ref xs, .int (nI stt), .int (nI sts), .int (nI drw), .ref xn, .ref xb, .ref xv, .int (nI bd), .int (nI rd)])), (xt, aI G 400 tx), (xg, aI G 300 (va_up fg ((3 * k) + 0) v67))] := hD
          refine lv_if_ne (tgt := 57) hx hb dM_line_52 rfl (fun h52 => (by revert h52; first | decide | exact fun z => absurd z (by decide) | exact fun z => z.elim (by decide))) (fun _ => ?_)
          refine lv_iconst (v := nI 0) hx hb dM_line_55 (by decide) ?_
          -- end 5
          rw [← hQ]
          exact k_iret hx hb hr hlocks (by decide) (u := (z67, va_up fg ((3 * k) + 0) v67)) (Or.inr ⟨_, _, (mR_exF (T := (lk tx ul)) 2 pt).symm.trans ((mr_0 hc67_e).trans (congrArg (pre [v67]) (mr_ks hc49_e (fun q => Bool.noConfusion q)))), by omega, rfl, rfl⟩) hP hD hK hS dM_line_56
      · have h74 : v67 < 0 := Nat.lt_of_not_le (fun z => h74 ((nI_leI (a := 0) (b := v67) (by omega) (by omega)).mpr z))
        exfalso; omega
    · skip
      have hP : va_P (gD G) vC [(qm, .inr (6, [.int (nI th), .int (nI ul), .ref xt, .int (nI z67), .ref xh, .ref xi, .ref xl, .ref xo, .ref xg, .ref xd, .int (zB ld), .ref xs, .int (nI stt), .int (nI sts), .int (nI drw), .ref xn, .ref xb, .ref xv, .int (nI bd), .int (nI rd)])), (xt, aI G 400 tx), (xg, aI G 300 fg)] H := hP
      have hD : va_D A [(qm, .inr (6, [.int (nI th), .int (nI ul), .ref xt, .int (nI z67), .ref xh, .ref xi, .ref xl, .ref xo, .ref xg, .ref xd, .int (zB ld), .ref xs, .int (nI stt), .int (nI sts), .int (nI drw), .ref xn, .ref xb, .ref xv, .int (nI bd), .int (nI rd)])), (xt, aI G 400 tx), (xg, aI G 300 fg)] := hD
      refine lv_istore (lv' := [(6, .int (-1)), (5, .int (nI 0)), (4, .int (nI 0)), (0, .ref qm), (1, .int (nI 4)), (2, .int (nI k)), (3, .int (nI 3))]) hx hb dM_line_70 hl (by decide) rfl (fun ls hl => ?_)
      refine lv_iload hx hb dM_line_72 (lv_at hl 0 rfl) ?_
      refine lv_if_ge (tgt := 79) hx hb dM_line_74 rfl (fun h74 => (by revert h74; first | decide | exact fun z => absurd z (by decide) | exact fun z => z.elim (by decide))) (fun _ => ?_)
      refine lv_iconst (v := nI 0) hx hb dM_line_77 (by decide) ?_
      -- end 6
      rw [← hQ]
      exact k_iret hx hb hr hlocks (by decide) (u := (z67, fg)) (Or.inr ⟨_, _, (mR_exF (T := (lk tx ul)) 2 pt).symm.trans (mr_0n hc67_e), by omega, rfl, rfl⟩) hP hD hK hS dM_line_78
  rw [hH, hlc] at hgo
  exact hgo
