theorem ex_some {T : Nat → Nat} {p q n : Nat} {l : List Nat} (h : lnF T 5 p = some (l, q)) (hl : l.length = n) : exF T n p = some (l, q) := by rw [← hl]; exact (lnF_ex h).1
theorem ex_none1 {T : Nat → Nat} {p n : Nat} (h : lnF T 5 p = none) (hn : n ≤ 5) : exF T n p = none := by
  cases e : exF T n p with
  | none => rfl
  | some z =>
    obtain ⟨l, q⟩ := z
    rw [(exF_ln e hn).1] at h
    cases h
theorem ex_none2 {T : Nat → Nat} {p q n : Nat} {l : List Nat} (h : lnF T 5 p = some (l, q)) (hl : ¬ l.length = n) (hn : n ≤ 5) : exF T n p = none := by
  cases e : exF T n p with
  | none => rfl
  | some z =>
    obtain ⟨l', q'⟩ := z
    obtain ⟨a, b⟩ := exF_ln e hn
    rw [a] at h
    cases h
    exact absurd b hl
theorem hd_s {T : Nat → Nat} {l : List Nat} {q : Nat} (h : hdO T = some (l, q)) (c : Nat) : hd T c = l.getD c 0 := by unfold hd; rw [h]
theorem e0_s {T : Nat → Nat} {l : List Nat} {q : Nat} (h : hdO T = some (l, q)) : e0 T = q := by unfold e0; rw [h]
theorem no_ln1 {T : Nat → Nat} {k n : Nat} (hk : k < hd T 1) (h : exF T 1 (pos (exF T 1) (e0 T) k) = none) : ¬ circOK T n := fun hc => okl_not hk h hc.1.2.1
theorem no_ln2 {T : Nat → Nat} {k n : Nat} (hk : k < hd T 2) (h : laF T (pos (laF T) (e1 T) k) = none) : ¬ circOK T n := fun hc => okl_not hk h hc.1.2.2.1
theorem no_ln3 {T : Nat → Nat} {k n : Nat} (hk : k < hd T 3) (h : exF T 1 (pos (exF T 1) (e2 T) k) = none) : ¬ circOK T n := fun hc => okl_not hk h hc.1.2.2.2.1
theorem no_ln4 {T : Nat → Nat} {k n : Nat} (hk : k < hd T 4) (h : exF T 3 (pos (exF T 3) (e3 T) k) = none) : ¬ circOK T n := fun hc => okl_not hk h hc.1.2.2.2.2.1
theorem la_none1 {T : Nat → Nat} {p : Nat} (h : lnF T 5 p = none) : laF T p = none := by unfold laF; rw [h]
theorem la_none2 {T : Nat → Nat} {p q : Nat} {l : List Nat} (h : lnF T 5 p = some (l, q)) (h2 : ¬ l.length = 2) (h3 : ¬ l.length = 3) : laF T p = none := by
  unfold laF; rw [h]; dsimp only; rw [if_neg h2, if_neg h3]
theorem la_2 {T : Nat → Nat} {p q : Nat} {l : List Nat} (h : lnF T 5 p = some (l, q)) (h2 : l.length = 2) : laF T p = some (l ++ [0], q) := by
  unfold laF; rw [h]; dsimp only; rw [if_pos h2]
theorem la_3 {T : Nat → Nat} {p q : Nat} {l : List Nat} (h : lnF T 5 p = some (l, q)) (h3 : l.length = 3) : laF T p = some (l, q) := by
  unfold laF; rw [h]; dsimp only; rw [if_neg (by omega), if_pos h3]
set_option maxRecDepth 100000 in
set_option maxHeartbeats 4000000 in
theorem k_N_readHeader (l : Launch) (G : GG) (sz : Nat) (qn : Nat) (n1 : Nat) (n2 : Nat) (n3 : Nat) (n4 : Nat) (n5 : Nat) (n6 : Nat) (n7 : Nat) (n8 : Nat) (n9 : Nat) (n10 : Nat) (sa : Nat) (ol : Nat) (hh : Nat → Nat) (df : Nat → Bool) (mt : Nat → Bool) (ig : Nat → Bool) (gl : Nat → Nat) (gr : Nat → Nat) (iv : Nat → Nat) (lv : Nat → Nat) (ln : Nat → Nat) (q : Nat) (a1 : Nat) (a2 : Nat) (tx : Nat → Nat) (nm : Nat → Nat) (us : Nat) (pl : Nat) (hus : us ≤ 400) (hpl : pl ≤ us) (htx : ∀ j, tx j < 128) (hp0 : pl = 0) : Ki l yN_readHeader cN_readHeader 3 .boolean 3 64 G [.ref qn, .ref q] [(qn, .inr (3, [.ref n1, .ref n2, .ref n3, .ref n4, .ref n5, .ref n6, .ref n7, .ref n8, .ref n9, .int (nI sa), .int (nI ol), .ref n10])), (n1, aI G 5 hh), (n2, aZ G 50 df), (n3, aZ G 50 mt), (n4, aZ G 50 ig), (n5, aI G 50 gl), (n6, aI G 50 gr), (n7, aI G 3 iv), (n8, aI G 6 lv), (n9, aI G 6 ln), (q, .inr (4, [.ref a1, .ref a2, .int (nI us), .int (nI pl)])), (a1, aB G 400 tx), (a2, aI G 5 nm)] sz (fun (r : Int32) (u : (Nat → Nat) × (Nat → Nat) × Nat) => (∃ (li : List Nat), ∃ (z : Nat), ∃ (hn : Nat → Nat), ∃ (nn : Nat → Nat), hdO (lk tx us) = some (li, z) ∧ (∀ c, c < 5 → hn c = hd (lk tx us) c) ∧ z ≤ us ∧ nI 1 = r ∧ (hn, nn, z) = u) ∨ (∃ (z : Nat), ∃ (nn : Nat → Nat), hdO (lk tx us) = none ∧ z ≤ us ∧ nI 0 = r ∧ (hh, nn, z) = u)) (fun (u : (Nat → Nat) × (Nat → Nat) × Nat) => [(qn, .inr (3, [.ref n1, .ref n2, .ref n3, .ref n4, .ref n5, .ref n6, .ref n7, .ref n8, .ref n9, .int (nI sa), .int (nI ol), .ref n10])), (n1, aI G 5 u.1), (n2, aZ G 50 df), (n3, aZ G 50 mt), (n4, aZ G 50 ig), (n5, aI G 50 gl), (n6, aI G 50 gr), (n7, aI G 3 iv), (n8, aI G 6 lv), (n9, aI G 6 ln), (q, .inr (4, [.ref a1, .ref a2, .int (nI us), .int (nI u.2.2)])), (a1, aB G 400 tx), (a2, aI G 5 u.2.1)]) := by
  refine Met.ofW (cc := cN_readHeader) (maxL := 3) (ret := (some .boolean)) (by decide) rfl ?_
  intro p e s m args below meth c s₁ B hml hv
  obtain ⟨hav, hsz, hP, hK, hD0, hE⟩ := hv
  have hx := B.exec
  have hb := B.bytes
  have hr := B.returns
  have htb : ∀ w ∈ TB, w.before args s = true := fun w h => atoms_spec (ws := Cond.code yN_readHeader cN_readHeader 3 (some .boolean) :: TB) B.pre w (List.mem_cons_of_mem _ h)
  have hown : s.vm.findClass "CircuitProver$Netlist" = some m.cls := findClass_of_methodNamed B.named
  have hlocks := B.notSynchronized
  subst hsz
  have hD := hD0.self (sz := s.heap.size)
  clear hD0
  generalize hRm : (headSpec (Cond.code yN_readHeader cN_readHeader 3 (some .boolean) :: TB) { frames := 3, cells := 0, slots := 0, locals := 64 }).room = R
  have hRf : R.frames = 3 := by rw [← hRm]; rfl
  have hRl : R.locals = 64 := by rw [← hRm]; rfl
  have hRc : R.cells = 0 := by rw [← hRm]; rfl
  have hRs : R.slots = 0 := by rw [← hRm]; rfl
  clear hRm
  generalize hAe : va_A [(qn, .inr (3, [.ref n1, .ref n2, .ref n3, .ref n4, .ref n5, .ref n6, .ref n7, .ref n8, .ref n9, .int (nI sa), .int (nI ol), .ref n10])), (n1, aI G 5 hh), (n2, aZ G 50 df), (n3, aZ G 50 mt), (n4, aZ G 50 ig), (n5, aI G 50 gl), (n6, aI G 50 gr), (n7, aI G 3 iv), (n8, aI G 6 lv), (n9, aI G 6 ln), (q, .inr (4, [.ref a1, .ref a2, .int (nI us), .int (nI pl)])), (a1, aB G 400 tx), (a2, aI G 5 nm)] s.heap.size = A at hD hE ⊢
  have hA : ∀ q : Nat, s.heap.size ≤ q → A q := fun q h => by rw [← hAe]; exact Or.inr h
  clear hAe
  have hS : va_S A s.heap s.heap [] := va_S.rf
  have hl := lv_entry ([.ref qn, .ref q]) (n := 3) (Nat.le_of_ble_eq_true rfl)
  have hent := lg_entry_eq m ([.ref qn, .ref q]) 3
  rw [← hav] at hent
  rw [hent]
  clear hent hav
  generalize (lg_sl ([.ref qn, .ref q]) ++ List.replicate (3 - (lg_sl ([.ref qn, .ref q])).length) Slot.unset).toArray = ls at hl ⊢
  have hl : lv_has ls 3 [(0, .ref qn), (1, .ref q)] := hl
  generalize hQ : MQ below _ args s 0 0 _ = Q
  have hP : va_P (gD G) vC [(qn, .inr (3, [.ref n1, .ref n2, .ref n3, .ref n4, .ref n5, .ref n6, .ref n7, .ref n8, .ref n9, .int (nI sa), .int (nI ol), .ref n10])), (n1, aI G 5 hh), (n2, aZ G 50 df), (n3, aZ G 50 mt), (n4, aZ G 50 ig), (n5, aI G 50 gl), (n6, aI G 50 gr), (n7, aI G 3 iv), (n8, aI G 6 lv), (n9, aI G 6 ln), (q, .inr (4, [.ref a1, .ref a2, .int (nI us), .int (nI pl)])), (a1, aB G 400 tx), (a2, aI G 5 nm)] s.heap := hP
  obtain ⟨H, hH⟩ : ∃ H : Heap, H = s.heap := ⟨_, rfl⟩
  obtain ⟨locs, hlc⟩ : ∃ L : List Loc, L = [] := ⟨_, rfl⟩
  have hS : va_S A s.heap H locs := by rw [hH, hlc]; exact hS
  have hP : va_P (gD G) vC [(qn, .inr (3, [.ref n1, .ref n2, .ref n3, .ref n4, .ref n5, .ref n6, .ref n7, .ref n8, .ref n9, .int (nI sa), .int (nI ol), .ref n10])), (n1, aI G 5 hh), (n2, aZ G 50 df), (n3, aZ G 50 mt), (n4, aZ G 50 ig), (n5, aI G 50 gl), (n6, aI G 50 gr), (n7, aI G 3 iv), (n8, aI G 6 lv), (n9, aI G 6 ln), (q, .inr (4, [.ref a1, .ref a2, .int (nI us), .int (nI pl)])), (a1, aB G 400 tx), (a2, aI G 5 nm)] H := by rw [hH]; exact hP
  have hgo : W p l e R s m args below meth c H locs 0 0 Q (F0 m 0 ls []) := by
    clear hH hlc
    refine lv_aload_n hx hb dN_readHeader_0 rfl (lv_at hl 1 rfl) ?_
    refine lv_bipush (v := nI 97) hx hb dN_readHeader_1 (by decide) ?_
    refine k_i (ws2 := fun u => [(qn, .inr (3, [.ref n1, .ref n2, .ref n3, .ref n4, .ref n5, .ref n6, .ref n7, .ref n8, .ref n9, .int (nI sa), .int (nI ol), .ref n10])), (n1, aI G 5 hh), (n2, aZ G 50 df), (n3, aZ G 50 mt), (n4, aZ G 50 ig), (n5, aI G 50 gl), (n6, aI G 50 gr), (n7, aI G 3 iv), (n8, aI G 6 lv), (n9, aI G 6 ln), (q, .inr (4, [.ref a1, .ref a2, .int (nI us), .int (nI (u))])), (a1, aB G 400 tx), (a2, aI G 5 nm)]) (wr := [(qn, .inr (3, [.ref n1, .ref n2, .ref n3, .ref n4, .ref n5, .ref n6, .ref n7, .ref n8, .ref n9, .int (nI sa), .int (nI ol), .ref n10])), (n1, aI G 5 hh), (n2, aZ G 50 df), (n3, aZ G 50 mt), (n4, aZ G 50 ig), (n5, aI G 50 gl), (n6, aI G 50 gr), (n7, aI G 3 iv), (n8, aI G 6 lv), (n9, aI G 6 ln)]) (k_runV (n := 1) (As := [.int (nI 97)]) (rest := []) hx hb hml hown htb hP hD hK hS hA hE (k_T_skip l G H.size q a1 a2 tx nm us pl 97 (show us ≤ 400 from by omega) (show pl ≤ us from by omega) (show ∀ j, tx j < 128 from by omega) (show 0 < 97 ∧ 97 < 128 from by omega)) b254 b255 b256 b2 b257 (by decide +kernel) rfl rfl ⟨by rw [hRf]; exact Nat.le_of_ble_eq_true rfl, by rw [hRl]; exact Nat.le_of_ble_eq_true rfl⟩ [10, 11, 12] rfl (by decide) 10 rfl rfl rfl rfl hl.1 rfl (Nat.le_of_ble_eq_true rfl) dN_readHeader_3 ⟨Nat.zero_le _, Nat.zero_le _⟩) hP hD hS hA [10, 11, 12] [0, 1, 2, 3, 4, 5, 6, 7, 8, 9] [0, 1, 2, 3, 4, 5, 6, 7, 8, 9, 10, 11, 12] rfl rfl (by decide) (by decide) (fun u => rfl) (by decide) (fun r u H locs hw hP hD hS => ?_)
    rcases hw with ⟨hc3_e, rfl, rfl⟩ | ⟨hc3_e, rfl, rfl⟩
    · skip
      have hP : va_P (gD G) vC [(qn, .inr (3, [.ref n1, .ref n2, .ref n3, .ref n4, .ref n5, .ref n6, .ref n7, .ref n8, .ref n9, .int (nI sa), .int (nI ol), .ref n10])), (n1, aI G 5 hh), (n2, aZ G 50 df), (n3, aZ G 50 mt), (n4, aZ G 50 ig), (n5, aI G 50 gl), (n6, aI G 50 gr), (n7, aI G 3 iv), (n8, aI G 6 lv), (n9, aI G 6 ln), (q, .inr (4, [.ref a1, .ref a2, .int (nI us), .int (nI (pl + 1))])), (a1, aB G 400 tx), (a2, aI G 5 nm)] H := hP
      have hD : va_D A [(qn, .inr (3, [.ref n1, .ref n2, .ref n3, .ref n4, .ref n5, .ref n6, .ref n7, .ref n8, .ref n9, .int (nI sa), .int (nI ol), .ref n10])), (n1, aI G 5 hh), (n2, aZ G 50 df), (n3, aZ G 50 mt), (n4, aZ G 50 ig), (n5, aI G 50 gl), (n6, aI G 50 gr), (n7, aI G 3 iv), (n8, aI G 6 lv), (n9, aI G 6 ln), (q, .inr (4, [.ref a1, .ref a2, .int (nI us), .int (nI (pl + 1))])), (a1, aB G 400 tx), (a2, aI G 5 nm)] := hD
      have hi3 := lk_in (tx := tx) (us := us) (p := pl) (by omega)
      refine lv_if_eq (tgt := 40) hx hb dN_readHeader_6 rfl (fun h6 => (by revert h6; first | decide | exact fun z => absurd z (by decide) | exact fun z => z.elim (by decide))) (fun _ => ?_)
      refine lv_aload_n hx hb dN_readHeader_9 rfl (lv_at hl 1 rfl) ?_
      refine lv_bipush (v := nI 97) hx hb dN_readHeader_10 (by decide) ?_
      refine k_i (ws2 := fun u => [(qn, .inr (3, [.ref n1, .ref n2, .ref n3, .ref n4, .ref n5, .ref n6, .ref n7, .ref n8, .ref n9, .int (nI sa), .int (nI ol), .ref n10])), (n1, aI G 5 hh), (n2, aZ G 50 df), (n3, aZ G 50 mt), (n4, aZ G 50 ig), (n5, aI G 50 gl), (n6, aI G 50 gr), (n7, aI G 3 iv), (n8, aI G 6 lv), (n9, aI G 6 ln), (q, .inr (4, [.ref a1, .ref a2, .int (nI us), .int (nI (u))])), (a1, aB G 400 tx), (a2, aI G 5 nm)]) (wr := [(qn, .inr (3, [.ref n1, .ref n2, .ref n3, .ref n4, .ref n5, .ref n6, .ref n7, .ref n8, .ref n9, .int (nI sa), .int (nI ol), .ref n10])), (n1, aI G 5 hh), (n2, aZ G 50 df), (n3, aZ G 50 mt), (n4, aZ G 50 ig), (n5, aI G 50 gl), (n6, aI G 50 gr), (n7, aI G 3 iv), (n8, aI G 6 lv), (n9, aI G 6 ln)]) (k_runV (n := 1) (As := [.int (nI 97)]) (rest := []) hx hb hml hown htb hP hD hK hS hA hE (k_T_skip l G H.size q a1 a2 tx nm us (pl + 1) 97 (show us ≤ 400 from by omega) (show (pl + 1) ≤ us from by omega) (show ∀ j, tx j < 128 from by omega) (show 0 < 97 ∧ 97 < 128 from by omega)) b254 b255 b256 b2 b257 (by decide +kernel) rfl rfl ⟨by rw [hRf]; exact Nat.le_of_ble_eq_true rfl, by rw [hRl]; exact Nat.le_of_ble_eq_true rfl⟩ [10, 11, 12] rfl (by decide) 10 rfl rfl rfl rfl hl.1 rfl (Nat.le_of_ble_eq_true rfl) dN_readHeader_12 ⟨Nat.zero_le _, Nat.zero_le _⟩) hP hD hS hA [10, 11, 12] [0, 1, 2, 3, 4, 5, 6, 7, 8, 9] [0, 1, 2, 3, 4, 5, 6, 7, 8, 9, 10, 11, 12] rfl rfl (by decide) (by decide) (fun u => rfl) (by decide) (fun r u H locs hw hP hD hS => ?_)
      rcases hw with ⟨hc12_e, rfl, rfl⟩ | ⟨hc12_e, rfl, rfl⟩
      · skip
        have hP : va_P (gD G) vC [(qn, .inr (3, [.ref n1, .ref n2, .ref n3, .ref n4, .ref n5, .ref n6, .ref n7, .ref n8, .ref n9, .int (nI sa), .int (nI ol), .ref n10])), (n1, aI G 5 hh), (n2, aZ G 50 df), (n3, aZ G 50 mt), (n4, aZ G 50 ig), (n5, aI G 50 gl), (n6, aI G 50 gr), (n7, aI G 3 iv), (n8, aI G 6 lv), (n9, aI G 6 ln), (q, .inr (4, [.ref a1, .ref a2, .int (nI us), .int (nI ((pl + 1) + 1))])), (a1, aB G 400 tx), (a2, aI G 5 nm)] H := hP
        have hD : va_D A [(qn, .inr (3, [.ref n1, .ref n2, .ref n3, .ref n4, .ref n5, .ref n6, .ref n7, .ref n8, .ref n9, .int (nI sa), .int (nI ol), .ref n10])), (n1, aI G 5 hh), (n2, aZ G 50 df), (n3, aZ G 50 mt), (n4, aZ G 50 ig), (n5, aI G 50 gl), (n6, aI G 50 gr), (n7, aI G 3 iv), (n8, aI G 6 lv), (n9, aI G 6 ln), (q, .inr (4, [.ref a1, .ref a2, .int (nI us), .int (nI ((pl + 1) + 1))])), (a1, aB G 400 tx), (a2, aI G 5 nm)] := hD
        have hi12 := lk_in (tx := tx) (us := us) (p := pl + 1) (by omega)
        refine lv_if_eq (tgt := 40) hx hb dN_readHeader_15 rfl (fun h15 => (by revert h15; first | decide | exact fun z => absurd z (by decide) | exact fun z => z.elim (by decide))) (fun _ => ?_)
        refine lv_aload_n hx hb dN_readHeader_18 rfl (lv_at hl 1 rfl) ?_
        refine lv_bipush (v := nI 103) hx hb dN_readHeader_19 (by decide) ?_
        refine k_i (ws2 := fun u => [(qn, .inr (3, [.ref n1, .ref n2, .ref n3, .ref n4, .ref n5, .ref n6, .ref n7, .ref n8, .ref n9, .int (nI sa), .int (nI ol), .ref n10])), (n1, aI G 5 hh), (n2, aZ G 50 df), (n3, aZ G 50 mt), (n4, aZ G 50 ig), (n5, aI G 50 gl), (n6, aI G 50 gr), (n7, aI G 3 iv), (n8, aI G 6 lv), (n9, aI G 6 ln), (q, .inr (4, [.ref a1, .ref a2, .int (nI us), .int (nI (u))])), (a1, aB G 400 tx), (a2, aI G 5 nm)]) (wr := [(qn, .inr (3, [.ref n1, .ref n2, .ref n3, .ref n4, .ref n5, .ref n6, .ref n7, .ref n8, .ref n9, .int (nI sa), .int (nI ol), .ref n10])), (n1, aI G 5 hh), (n2, aZ G 50 df), (n3, aZ G 50 mt), (n4, aZ G 50 ig), (n5, aI G 50 gl), (n6, aI G 50 gr), (n7, aI G 3 iv), (n8, aI G 6 lv), (n9, aI G 6 ln)]) (k_runV (n := 1) (As := [.int (nI 103)]) (rest := []) hx hb hml hown htb hP hD hK hS hA hE (k_T_skip l G H.size q a1 a2 tx nm us ((pl + 1) + 1) 103 (show us ≤ 400 from by omega) (show ((pl + 1) + 1) ≤ us from by omega) (show ∀ j, tx j < 128 from by omega) (show 0 < 103 ∧ 103 < 128 from by omega)) b254 b255 b256 b2 b257 (by decide +kernel) rfl rfl ⟨by rw [hRf]; exact Nat.le_of_ble_eq_true rfl, by rw [hRl]; exact Nat.le_of_ble_eq_true rfl⟩ [10, 11, 12] rfl (by decide) 10 rfl rfl rfl rfl hl.1 rfl (Nat.le_of_ble_eq_true rfl) dN_readHeader_21 ⟨Nat.zero_le _, Nat.zero_le _⟩) hP hD hS hA [10, 11, 12] [0, 1, 2, 3, 4, 5, 6, 7, 8, 9] [0, 1, 2, 3, 4, 5, 6, 7, 8, 9, 10, 11, 12] rfl rfl (by decide) (by decide) (fun u => rfl) (by decide) (fun r u H locs hw hP hD hS => ?_)
        rcases hw with ⟨hc21_e, rfl, rfl⟩ | ⟨hc21_e, rfl, rfl⟩
        · skip
          have hP : va_P (gD G) vC [(qn, .inr (3, [.ref n1, .ref n2, .ref n3, .ref n4, .ref n5, .ref n6, .ref n7, .ref n8, .ref n9, .int (nI sa), .int (nI ol), .ref n10])), (n1, aI G 5 hh), (n2, aZ G 50 df), (n3, aZ G 50 mt), (n4, aZ G 50 ig), (n5, aI G 50 gl), (n6, aI G 50 gr), (n7, aI G 3 iv), (n8, aI G 6 lv), (n9, aI G 6 ln), (q, .inr (4, [.ref a1, .ref a2, .int (nI us), .int (nI (((pl + 1) + 1) + 1))])), (a1, aB G 400 tx), (a2, aI G 5 nm)] H := hP
          have hD : va_D A [(qn, .inr (3, [.ref n1, .ref n2, .ref n3, .ref n4, .ref n5, .ref n6, .ref n7, .ref n8, .ref n9, .int (nI sa), .int (nI ol), .ref n10])), (n1, aI G 5 hh), (n2, aZ G 50 df), (n3, aZ G 50 mt), (n4, aZ G 50 ig), (n5, aI G 50 gl), (n6, aI G 50 gr), (n7, aI G 3 iv), (n8, aI G 6 lv), (n9, aI G 6 ln), (q, .inr (4, [.ref a1, .ref a2, .int (nI us), .int (nI (((pl + 1) + 1) + 1))])), (a1, aB G 400 tx), (a2, aI G 5 nm)] := hD
          have hi21 := lk_in (tx := tx) (us := us) (p := pl + 1 + 1) (by omega)
          refine lv_if_eq (tgt := 40) hx hb dN_readHeader_24 rfl (fun h24 => (by revert h24; first | decide | exact fun z => absurd z (by decide) | exact fun z => z.elim (by decide))) (fun _ => ?_)
          refine lv_aload_n hx hb dN_readHeader_27 rfl (lv_at hl 1 rfl) ?_
          refine lv_bipush (v := nI 32) hx hb dN_readHeader_28 (by decide) ?_
          refine k_i (ws2 := fun u => [(qn, .inr (3, [.ref n1, .ref n2, .ref n3, .ref n4, .ref n5, .ref n6, .ref n7, .ref n8, .ref n9, .int (nI sa), .int (nI ol), .ref n10])), (n1, aI G 5 hh), (n2, aZ G 50 df), (n3, aZ G 50 mt), (n4, aZ G 50 ig), (n5, aI G 50 gl), (n6, aI G 50 gr), (n7, aI G 3 iv), (n8, aI G 6 lv), (n9, aI G 6 ln), (q, .inr (4, [.ref a1, .ref a2, .int (nI us), .int (nI (u))])), (a1, aB G 400 tx), (a2, aI G 5 nm)]) (wr := [(qn, .inr (3, [.ref n1, .ref n2, .ref n3, .ref n4, .ref n5, .ref n6, .ref n7, .ref n8, .ref n9, .int (nI sa), .int (nI ol), .ref n10])), (n1, aI G 5 hh), (n2, aZ G 50 df), (n3, aZ G 50 mt), (n4, aZ G 50 ig), (n5, aI G 50 gl), (n6, aI G 50 gr), (n7, aI G 3 iv), (n8, aI G 6 lv), (n9, aI G 6 ln)]) (k_runV (n := 1) (As := [.int (nI 32)]) (rest := []) hx hb hml hown htb hP hD hK hS hA hE (k_T_skip l G H.size q a1 a2 tx nm us (((pl + 1) + 1) + 1) 32 (show us ≤ 400 from by omega) (show (((pl + 1) + 1) + 1) ≤ us from by omega) (show ∀ j, tx j < 128 from by omega) (show 0 < 32 ∧ 32 < 128 from by omega)) b254 b255 b256 b2 b257 (by decide +kernel) rfl rfl ⟨by rw [hRf]; exact Nat.le_of_ble_eq_true rfl, by rw [hRl]; exact Nat.le_of_ble_eq_true rfl⟩ [10, 11, 12] rfl (by decide) 10 rfl rfl rfl rfl hl.1 rfl (Nat.le_of_ble_eq_true rfl) dN_readHeader_30 ⟨Nat.zero_le _, Nat.zero_le _⟩) hP hD hS hA [10, 11, 12] [0, 1, 2, 3, 4, 5, 6, 7, 8, 9] [0, 1, 2, 3, 4, 5, 6, 7, 8, 9, 10, 11, 12] rfl rfl (by decide) (by decide) (fun u => rfl) (by decide) (fun r u H locs hw hP hD hS => ?_)
          rcases hw with ⟨hc30_e, rfl, rfl⟩ | ⟨hc30_e, rfl, rfl⟩
          · skip
            have hP : va_P (gD G) vC [(qn, .inr (3, [.ref n1, .ref n2, .ref n3, .ref n4, .ref n5, .ref n6, .ref n7, .ref n8, .ref n9, .int (nI sa), .int (nI ol), .ref n10])), (n1, aI G 5 hh), (n2, aZ G 50 df), (n3, aZ G 50 mt), (n4, aZ G 50 ig), (n5, aI G 50 gl), (n6, aI G 50 gr), (n7, aI G 3 iv), (n8, aI G 6 lv), (n9, aI G 6 ln), (q, .inr (4, [.ref a1, .ref a2, .int (nI us), .int (nI ((((pl + 1) + 1) + 1) + 1))])), (a1, aB G 400 tx), (a2, aI G 5 nm)] H := hP
            have hD : va_D A [(qn, .inr (3, [.ref n1, .ref n2, .ref n3, .ref n4, .ref n5, .ref n6, .ref n7, .ref n8, .ref n9, .int (nI sa), .int (nI ol), .ref n10])), (n1, aI G 5 hh), (n2, aZ G 50 df), (n3, aZ G 50 mt), (n4, aZ G 50 ig), (n5, aI G 50 gl), (n6, aI G 50 gr), (n7, aI G 3 iv), (n8, aI G 6 lv), (n9, aI G 6 ln), (q, .inr (4, [.ref a1, .ref a2, .int (nI us), .int (nI ((((pl + 1) + 1) + 1) + 1))])), (a1, aB G 400 tx), (a2, aI G 5 nm)] := hD
            have hi30 := lk_in (tx := tx) (us := us) (p := pl + 1 + 1 + 1) (by omega)
            refine lv_if_eq (tgt := 40) hx hb dN_readHeader_33 rfl (fun h33 => (by revert h33; first | decide | exact fun z => absurd z (by decide) | exact fun z => z.elim (by decide))) (fun _ => ?_)
            refine lv_iconst (v := nI 1) hx hb dN_readHeader_36 (by decide) ?_
            refine lv_goto (tgt := 41) hx hb dN_readHeader_37 rfl ?_
            refine lv_istore_n (lv' := [(2, .int (nI 1)), (0, .ref qn), (1, .ref q)]) hx hb dN_readHeader_41 rfl hl (by decide) rfl (fun ls hl => ?_)
            refine lv_iload_n hx hb dN_readHeader_42 rfl (lv_at hl 0 rfl) ?_
            refine lv_if_eq (tgt := 54) hx hb dN_readHeader_43 rfl (fun h43 => (by revert h43; first | decide | exact fun z => absurd z (by decide) | exact fun z => z.elim (by decide))) (fun _ => ?_)
            refine lv_aload_n hx hb dN_readHeader_46 rfl (lv_at hl 2 rfl) ?_
            refine k_i (ws2 := fun u => [(qn, .inr (3, [.ref n1, .ref n2, .ref n3, .ref n4, .ref n5, .ref n6, .ref n7, .ref n8, .ref n9, .int (nI sa), .int (nI ol), .ref n10])), (n1, aI G 5 hh), (n2, aZ G 50 df), (n3, aZ G 50 mt), (n4, aZ G 50 ig), (n5, aI G 50 gl), (n6, aI G 50 gr), (n7, aI G 3 iv), (n8, aI G 6 lv), (n9, aI G 6 ln), (q, .inr (4, [.ref a1, .ref a2, .int (nI us), .int (nI (u.2))])), (a1, aB G 400 tx), (a2, aI G 5 (u.1))]) (wr := [(qn, .inr (3, [.ref n1, .ref n2, .ref n3, .ref n4, .ref n5, .ref n6, .ref n7, .ref n8, .ref n9, .int (nI sa), .int (nI ol), .ref n10])), (n1, aI G 5 hh), (n2, aZ G 50 df), (n3, aZ G 50 mt), (n4, aZ G 50 ig), (n5, aI G 50 gl), (n6, aI G 50 gr), (n7, aI G 3 iv), (n8, aI G 6 lv), (n9, aI G 6 ln)]) (k_runV (n := 0) (As := []) (rest := []) hx hb hml hown htb hP hD hK hS hA hE (k_T_readLine l G H.size q a1 a2 tx nm us ((((pl + 1) + 1) + 1) + 1) (show us ≤ 400 from by omega) (show ((((pl + 1) + 1) + 1) + 1) ≤ us from by omega) (show ∀ j, tx j < 128 from by omega)) b258 b259 b260 b2 b261 (by decide +kernel) rfl rfl ⟨by rw [hRf]; exact Nat.le_of_ble_eq_true rfl, by rw [hRl]; exact Nat.le_of_ble_eq_true rfl⟩ [10, 11, 12] rfl (by decide) 10 rfl rfl rfl rfl hl.1 rfl (Nat.le_of_ble_eq_true rfl) dN_readHeader_47 ⟨Nat.zero_le _, Nat.zero_le _⟩) hP hD hS hA [10, 11, 12] [0, 1, 2, 3, 4, 5, 6, 7, 8, 9] [0, 1, 2, 3, 4, 5, 6, 7, 8, 9, 10, 11, 12] rfl rfl (by decide) (by decide) (fun u => rfl) (by decide) (fun r u H locs hw hP hD hS => ?_)
            rcases hw with ⟨li47, z47, nn47, hc47_e, hc47_a, rfl, rfl⟩ | ⟨z47, nn47, hc47_e, hc47_b, rfl, rfl⟩
            · skip
              have hP : va_P (gD G) vC [(qn, .inr (3, [.ref n1, .ref n2, .ref n3, .ref n4, .ref n5, .ref n6, .ref n7, .ref n8, .ref n9, .int (nI sa), .int (nI ol), .ref n10])), (n1, aI G 5 hh), (n2, aZ G 50 df), (n3, aZ G 50 mt), (n4, aZ G 50 ig), (n5, aI G 50 gl), (n6, aI G 50 gr), (n7, aI G 3 iv), (n8, aI G 6 lv), (n9, aI G 6 ln), (q, .inr (4, [.ref a1, .ref a2, .int (nI us), .int (nI z47)])), (a1, aB G 400 tx), (a2, aI G 5 nn47)] H := hP
              have hD : va_D A [(qn, .inr (3, [.ref n1, .ref n2, .ref n3, .ref n4, .ref n5, .ref n6, .ref n7, .ref n8, .ref n9, .int (nI sa), .int (nI ol), .ref n10])), (n1, aI G 5 hh), (n2, aZ G 50 df), (n3, aZ G 50 mt), (n4, aZ G 50 ig), (n5, aI G 50 gl), (n6, aI G 50 gr), (n7, aI G 3 iv), (n8, aI G 6 lv), (n9, aI G 6 ln), (q, .inr (4, [.ref a1, .ref a2, .int (nI us), .int (nI z47)])), (a1, aB G 400 tx), (a2, aI G 5 nn47)] := hD
              have hx47 := lnF_ex hc47_e
              have hz47 := lnF_le hc47_e
              refine lv_iconst (v := nI 5) hx hb dN_readHeader_50 (by decide) ?_
              refine lv_icmp_eq (tgt := 56) hx hb dN_readHeader_51 rfl (fun h51 => ?_) (fun h51 => ?_)
              · have h51 : li47.length = 5 := (nI_eq (a := li47.length) (b := 5) (by omega) (by omega)).mp h51
                refine lv_aload_n hx hb dN_readHeader_56 rfl (lv_at hl 2 rfl) ?_
                refine va_getN (D := gD G) (ci := 4) (v := .ref a2) (C := "CircuitProver$Text") (T := TT) (N := 4) hx hb htb inT hown hK hP 10 rfl rfl 1 (by decide) (va_Nw.use rfl (hE.nw n34)) (fun _ h9 => h9) rfl dN_readHeader_57 ?_
                refine lv_iconst (v := nI 0) hx hb dN_readHeader_60 (by decide) ?_
                refine lv_aload_n hx hb dN_readHeader_61 rfl (lv_at hl 1 rfl) ?_
                refine va_get (D := gD G) (ci := 3) (v := .ref n1) (C := "CircuitProver$Netlist") (T := TN) (N := 12) hx hb htb inN hown hK hP 0 rfl rfl 0 (by decide) (htb _ b55) (fun _ h9 => h9) rfl dN_readHeader_62 ?_
                refine lv_iconst (v := nI 0) hx hb dN_readHeader_65 (by decide) ?_
                refine lv_iconst (v := nI 5) hx hb dN_readHeader_66 (by decide) ?_
                refine k_copy hx hb hml hl.1 hown htb b271 b273 b272 b8 hK hP hD hS 12 1 rfl rfl (by decide) (by decide) (by decide) (by rw [hRf]; exact Nat.le_of_ble_eq_true rfl) (by rw [hRl]; decide) dN_readHeader_67 (fun H locs hP hD hS => ?_)
                have hP : va_P (gD G) vC [(qn, .inr (3, [.ref n1, .ref n2, .ref n3, .ref n4, .ref n5, .ref n6, .ref n7, .ref n8, .ref n9, .int (nI sa), .int (nI ol), .ref n10])), (n1, aI G 5 (va_cpy nn47 hh 0 0 5)), (n2, aZ G 50 df), (n3, aZ G 50 mt), (n4, aZ G 50 ig), (n5, aI G 50 gl), (n6, aI G 50 gr), (n7, aI G 3 iv), (n8, aI G 6 lv), (n9, aI G 6 ln), (q, .inr (4, [.ref a1, .ref a2, .int (nI us), .int (nI z47)])), (a1, aB G 400 tx), (a2, aI G 5 nn47)] H := hP
                have hD : va_D A [(qn, .inr (3, [.ref n1, .ref n2, .ref n3, .ref n4, .ref n5, .ref n6, .ref n7, .ref n8, .ref n9, .int (nI sa), .int (nI ol), .ref n10])), (n1, aI G 5 (va_cpy nn47 hh 0 0 5)), (n2, aZ G 50 df), (n3, aZ G 50 mt), (n4, aZ G 50 ig), (n5, aI G 50 gl), (n6, aI G 50 gr), (n7, aI G 3 iv), (n8, aI G 6 lv), (n9, aI G 6 ln), (q, .inr (4, [.ref a1, .ref a2, .int (nI us), .int (nI z47)])), (a1, aB G 400 tx), (a2, aI G 5 nn47)] := hD
                have hfin : ∀ c, c < 5 → va_cpy nn47 hh 0 0 5 c = hd (lk tx us) c := by
                  intro c hc
                  have q0 := hc3_e
                  have q1 := hc12_e
                  have q2 := hc21_e
                  have q3 := hc30_e
                  have q4 := ex_some hc47_e h51
                  rw [hp0] at q0 q1 q2 q3 q4
                  have q5 : hdO (lk tx us) = some (li47, z47) := by unfold hdO; rw [if_pos ⟨q0, q1, q2, q3⟩]; exact q4
                  rw [pk_cpy_in (by omega) (by omega), hd_s q5, Nat.zero_add, Nat.sub_zero]
                  exact hc47_a c (by omega)
                refine lv_iconst (v := nI 1) hx hb dN_readHeader_70 (by decide) ?_
                -- end 0
                rw [← hQ]
                exact k_iret hx hb hr hlocks (by decide) (u := (va_cpy nn47 hh 0 0 5, nn47, z47)) (Or.inl ⟨li47, _, _, _, by (have q0 := hc3_e); (have q1 := hc12_e); (have q2 := hc21_e); (have q3 := hc30_e); (have q4 := ex_some hc47_e h51); rw [hp0] at q0 q1 q2 q3 q4; (unfold hdO); rw [if_pos ⟨q0, q1, q2, q3⟩]; exact q4, hfin, hz47, rfl, rfl⟩) hP hD hK hS dN_readHeader_71
              · have h51 : ¬ li47.length = 5 := fun z => h51 ((nI_eq (a := li47.length) (b := 5) (by omega) (by omega)).mpr z)
                refine lv_iconst (v := nI 0) hx hb dN_readHeader_54 (by decide) ?_
                -- end 1
                rw [← hQ]
                exact k_iret hx hb hr hlocks (by decide) (u := (hh, nn47, z47)) (Or.inr ⟨_, _, by (have q4 := ex_none2 hc47_e h51 (by decide)); rw [hp0] at q4; (unfold hdO); by_cases q : lk tx us 0 = 97 ∧ lk tx us 1 = 97 ∧ lk tx us 2 = 103 ∧ lk tx us 3 = 32; (rw [if_pos q]; exact q4); (rw [if_neg q]), hz47, rfl, rfl⟩) hP hD hK hS dN_readHeader_55
            · skip
              have hP : va_P (gD G) vC [(qn, .inr (3, [.ref n1, .ref n2, .ref n3, .ref n4, .ref n5, .ref n6, .ref n7, .ref n8, .ref n9, .int (nI sa), .int (nI ol), .ref n10])), (n1, aI G 5 hh), (n2, aZ G 50 df), (n3, aZ G 50 mt), (n4, aZ G 50 ig), (n5, aI G 50 gl), (n6, aI G 50 gr), (n7, aI G 3 iv), (n8, aI G 6 lv), (n9, aI G 6 ln), (q, .inr (4, [.ref a1, .ref a2, .int (nI us), .int (nI z47)])), (a1, aB G 400 tx), (a2, aI G 5 nn47)] H := hP
              have hD : va_D A [(qn, .inr (3, [.ref n1, .ref n2, .ref n3, .ref n4, .ref n5, .ref n6, .ref n7, .ref n8, .ref n9, .int (nI sa), .int (nI ol), .ref n10])), (n1, aI G 5 hh), (n2, aZ G 50 df), (n3, aZ G 50 mt), (n4, aZ G 50 ig), (n5, aI G 50 gl), (n6, aI G 50 gr), (n7, aI G 3 iv), (n8, aI G 6 lv), (n9, aI G 6 ln), (q, .inr (4, [.ref a1, .ref a2, .int (nI us), .int (nI z47)])), (a1, aB G 400 tx), (a2, aI G 5 nn47)] := hD
              refine lv_iconst (v := nI 5) hx hb dN_readHeader_50 (by decide) ?_
              refine lv_icmp_eq (tgt := 56) hx hb dN_readHeader_51 rfl (fun h51 => (by revert h51; first | decide | exact fun z => absurd z (by decide) | exact fun z => z.elim (by decide))) (fun _ => ?_)
              refine lv_iconst (v := nI 0) hx hb dN_readHeader_54 (by decide) ?_
              -- end 2
              rw [← hQ]
              exact k_iret hx hb hr hlocks (by decide) (u := (hh, nn47, z47)) (Or.inr ⟨_, _, by (have q4 := ex_none1 (n := 5) hc47_e (by decide)); rw [hp0] at q4; (unfold hdO); by_cases q : lk tx us 0 = 97 ∧ lk tx us 1 = 97 ∧ lk tx us 2 = 103 ∧ lk tx us 3 = 32; (rw [if_pos q]; exact q4); (rw [if_neg q]), hc47_b, rfl, rfl⟩) hP hD hK hS dN_readHeader_55
          · skip
            have hP : va_P (gD G) vC [(qn, .inr (3, [.ref n1, .ref n2, .ref n3, .ref n4, .ref n5, .ref n6, .ref n7, .ref n8, .ref n9, .int (nI sa), .int (nI ol), .ref n10])), (n1, aI G 5 hh), (n2, aZ G 50 df), (n3, aZ G 50 mt), (n4, aZ G 50 ig), (n5, aI G 50 gl), (n6, aI G 50 gr), (n7, aI G 3 iv), (n8, aI G 6 lv), (n9, aI G 6 ln), (q, .inr (4, [.ref a1, .ref a2, .int (nI us), .int (nI (((pl + 1) + 1) + 1))])), (a1, aB G 400 tx), (a2, aI G 5 nm)] H := hP
            have hD : va_D A [(qn, .inr (3, [.ref n1, .ref n2, .ref n3, .ref n4, .ref n5, .ref n6, .ref n7, .ref n8, .ref n9, .int (nI sa), .int (nI ol), .ref n10])), (n1, aI G 5 hh), (n2, aZ G 50 df), (n3, aZ G 50 mt), (n4, aZ G 50 ig), (n5, aI G 50 gl), (n6, aI G 50 gr), (n7, aI G 3 iv), (n8, aI G 6 lv), (n9, aI G 6 ln), (q, .inr (4, [.ref a1, .ref a2, .int (nI us), .int (nI (((pl + 1) + 1) + 1))])), (a1, aB G 400 tx), (a2, aI G 5 nm)] := hD
            refine lv_if_eq (tgt := 40) hx hb dN_readHeader_33 rfl (fun _ => ?_) (fun h33 => (by revert h33; first | decide | exact fun z => absurd z (by decide) | exact fun z => z.elim (by decide)))
            refine lv_iconst (v := nI 0) hx hb dN_readHeader_40 (by decide) ?_
            refine lv_istore_n (lv' := [(2, .int (nI 0)), (0, .ref qn), (1, .ref q)]) hx hb dN_readHeader_41 rfl hl (by decide) rfl (fun ls hl => ?_)
            refine lv_iload_n hx hb dN_readHeader_42 rfl (lv_at hl 0 rfl) ?_
            refine lv_if_eq (tgt := 54) hx hb dN_readHeader_43 rfl (fun _ => ?_) (fun h43 => (by revert h43; first | decide | exact fun z => absurd z (by decide) | exact fun z => z.elim (by decide)))
            refine lv_iconst (v := nI 0) hx hb dN_readHeader_54 (by decide) ?_
            -- end 3
            rw [← hQ]
            exact k_iret hx hb hr hlocks (by decide) (u := (hh, nm, (((pl + 1) + 1) + 1))) (Or.inr ⟨_, _, by (have q0 := hc30_e); rw [hp0] at q0; (unfold hdO); rw [if_neg (fun q => q0 q.2.2.2)], by omega, rfl, rfl⟩) hP hD hK hS dN_readHeader_55
        · skip
          have hP : va_P (gD G) vC [(qn, .inr (3, [.ref n1, .ref n2, .ref n3, .ref n4, .ref n5, .ref n6, .ref n7, .ref n8, .ref n9, .int (nI sa), .int (nI ol), .ref n10])), (n1, aI G 5 hh), (n2, aZ G 50 df), (n3, aZ G 50 mt), (n4, aZ G 50 ig), (n5, aI G 50 gl), (n6, aI G 50 gr), (n7, aI G 3 iv), (n8, aI G 6 lv), (n9, aI G 6 ln), (q, .inr (4, [.ref a1, .ref a2, .int (nI us), .int (nI ((pl + 1) + 1))])), (a1, aB G 400 tx), (a2, aI G 5 nm)] H := hP
          have hD : va_D A [(qn, .inr (3, [.ref n1, .ref n2, .ref n3, .ref n4, .ref n5, .ref n6, .ref n7, .ref n8, .ref n9, .int (nI sa), .int (nI ol), .ref n10])), (n1, aI G 5 hh), (n2, aZ G 50 df), (n3, aZ G 50 mt), (n4, aZ G 50 ig), (n5, aI G 50 gl), (n6, aI G 50 gr), (n7, aI G 3 iv), (n8, aI G 6 lv), (n9, aI G 6 ln), (q, .inr (4, [.ref a1, .ref a2, .int (nI us), .int (nI ((pl + 1) + 1))])), (a1, aB G 400 tx), (a2, aI G 5 nm)] := hD
          refine lv_if_eq (tgt := 40) hx hb dN_readHeader_24 rfl (fun _ => ?_) (fun h24 => (by revert h24; first | decide | exact fun z => absurd z (by decide) | exact fun z => z.elim (by decide)))
          refine lv_iconst (v := nI 0) hx hb dN_readHeader_40 (by decide) ?_
          refine lv_istore_n (lv' := [(2, .int (nI 0)), (0, .ref qn), (1, .ref q)]) hx hb dN_readHeader_41 rfl hl (by decide) rfl (fun ls hl => ?_)
          refine lv_iload_n hx hb dN_readHeader_42 rfl (lv_at hl 0 rfl) ?_
          refine lv_if_eq (tgt := 54) hx hb dN_readHeader_43 rfl (fun _ => ?_) (fun h43 => (by revert h43; first | decide | exact fun z => absurd z (by decide) | exact fun z => z.elim (by decide)))
          refine lv_iconst (v := nI 0) hx hb dN_readHeader_54 (by decide) ?_
          -- end 4
          rw [← hQ]
          exact k_iret hx hb hr hlocks (by decide) (u := (hh, nm, ((pl + 1) + 1))) (Or.inr ⟨_, _, by (have q0 := hc21_e); rw [hp0] at q0; (unfold hdO); rw [if_neg (fun q => q0 q.2.2.1)], by omega, rfl, rfl⟩) hP hD hK hS dN_readHeader_55
      · skip
        have hP : va_P (gD G) vC [(qn, .inr (3, [.ref n1, .ref n2, .ref n3, .ref n4, .ref n5, .ref n6, .ref n7, .ref n8, .ref n9, .int (nI sa), .int (nI ol), .ref n10])), (n1, aI G 5 hh), (n2, aZ G 50 df), (n3, aZ G 50 mt), (n4, aZ G 50 ig), (n5, aI G 50 gl), (n6, aI G 50 gr), (n7, aI G 3 iv), (n8, aI G 6 lv), (n9, aI G 6 ln), (q, .inr (4, [.ref a1, .ref a2, .int (nI us), .int (nI (pl + 1))])), (a1, aB G 400 tx), (a2, aI G 5 nm)] H := hP
        have hD : va_D A [(qn, .inr (3, [.ref n1, .ref n2, .ref n3, .ref n4, .ref n5, .ref n6, .ref n7, .ref n8, .ref n9, .int (nI sa), .int (nI ol), .ref n10])), (n1, aI G 5 hh), (n2, aZ G 50 df), (n3, aZ G 50 mt), (n4, aZ G 50 ig), (n5, aI G 50 gl), (n6, aI G 50 gr), (n7, aI G 3 iv), (n8, aI G 6 lv), (n9, aI G 6 ln), (q, .inr (4, [.ref a1, .ref a2, .int (nI us), .int (nI (pl + 1))])), (a1, aB G 400 tx), (a2, aI G 5 nm)] := hD
        refine lv_if_eq (tgt := 40) hx hb dN_readHeader_15 rfl (fun _ => ?_) (fun h15 => (by revert h15; first | decide | exact fun z => absurd z (by decide) | exact fun z => z.elim (by decide)))
        refine lv_iconst (v := nI 0) hx hb dN_readHeader_40 (by decide) ?_
        refine lv_istore_n (lv' := [(2, .int (nI 0)), (0, .ref qn), (1, .ref q)]) hx hb dN_readHeader_41 rfl hl (by decide) rfl (fun ls hl => ?_)
        refine lv_iload_n hx hb dN_readHeader_42 rfl (lv_at hl 0 rfl) ?_
        refine lv_if_eq (tgt := 54) hx hb dN_readHeader_43 rfl (fun _ => ?_) (fun h43 => (by revert h43; first | decide | exact fun z => absurd z (by decide) | exact fun z => z.elim (by decide)))
        refine lv_iconst (v := nI 0) hx hb dN_readHeader_54 (by decide) ?_
        -- end 5
        rw [← hQ]
        exact k_iret hx hb hr hlocks (by decide) (u := (hh, nm, (pl + 1))) (Or.inr ⟨_, _, by (have q0 := hc12_e); rw [hp0] at q0; (unfold hdO); rw [if_neg (fun q => q0 q.2.1)], by omega, rfl, rfl⟩) hP hD hK hS dN_readHeader_55
    · skip
      have hP : va_P (gD G) vC [(qn, .inr (3, [.ref n1, .ref n2, .ref n3, .ref n4, .ref n5, .ref n6, .ref n7, .ref n8, .ref n9, .int (nI sa), .int (nI ol), .ref n10])), (n1, aI G 5 hh), (n2, aZ G 50 df), (n3, aZ G 50 mt), (n4, aZ G 50 ig), (n5, aI G 50 gl), (n6, aI G 50 gr), (n7, aI G 3 iv), (n8, aI G 6 lv), (n9, aI G 6 ln), (q, .inr (4, [.ref a1, .ref a2, .int (nI us), .int (nI pl)])), (a1, aB G 400 tx), (a2, aI G 5 nm)] H := hP
      have hD : va_D A [(qn, .inr (3, [.ref n1, .ref n2, .ref n3, .ref n4, .ref n5, .ref n6, .ref n7, .ref n8, .ref n9, .int (nI sa), .int (nI ol), .ref n10])), (n1, aI G 5 hh), (n2, aZ G 50 df), (n3, aZ G 50 mt), (n4, aZ G 50 ig), (n5, aI G 50 gl), (n6, aI G 50 gr), (n7, aI G 3 iv), (n8, aI G 6 lv), (n9, aI G 6 ln), (q, .inr (4, [.ref a1, .ref a2, .int (nI us), .int (nI pl)])), (a1, aB G 400 tx), (a2, aI G 5 nm)] := hD
      refine lv_if_eq (tgt := 40) hx hb dN_readHeader_6 rfl (fun _ => ?_) (fun h6 => (by revert h6; first | decide | exact fun z => absurd z (by decide) | exact fun z => z.elim (by decide)))
      refine lv_iconst (v := nI 0) hx hb dN_readHeader_40 (by decide) ?_
      refine lv_istore_n (lv' := [(2, .int (nI 0)), (0, .ref qn), (1, .ref q)]) hx hb dN_readHeader_41 rfl hl (by decide) rfl (fun ls hl => ?_)
      refine lv_iload_n hx hb dN_readHeader_42 rfl (lv_at hl 0 rfl) ?_
      refine lv_if_eq (tgt := 54) hx hb dN_readHeader_43 rfl (fun _ => ?_) (fun h43 => (by revert h43; first | decide | exact fun z => absurd z (by decide) | exact fun z => z.elim (by decide)))
      refine lv_iconst (v := nI 0) hx hb dN_readHeader_54 (by decide) ?_
      -- end 6
      rw [← hQ]
      exact k_iret hx hb hr hlocks (by decide) (u := (hh, nm, pl)) (Or.inr ⟨_, _, by (have q0 := hc3_e); rw [hp0] at q0; (unfold hdO); rw [if_neg (fun q => q0 q.1)], by omega, rfl, rfl⟩) hP hD hK hS dN_readHeader_55
  rw [hH, hlc] at hgo
  exact hgo
set_option maxRecDepth 100000 in
set_option maxHeartbeats 4000000 in
theorem k_N_readInputs (l : Launch) (G : GG) (sz : Nat) (qn : Nat) (n1 : Nat) (n2 : Nat) (n3 : Nat) (n4 : Nat) (n5 : Nat) (n6 : Nat) (n7 : Nat) (n8 : Nat) (n9 : Nat) (n10 : Nat) (sa : Nat) (ol : Nat) (hh : Nat → Nat) (df : Nat → Bool) (mt : Nat → Bool) (ig : Nat → Bool) (gl : Nat → Nat) (gr : Nat → Nat) (iv : Nat → Nat) (lv : Nat → Nat) (ln : Nat → Nat) (q : Nat) (a1 : Nat) (a2 : Nat) (tx : Nat → Nat) (nm : Nat → Nat) (us : Nat) (pl : Nat) (hus : us ≤ 400) (hpl : pl ≤ us) (htx : ∀ j, tx j < 128) (hH : ∀ c, c < 5 → hh c = hd (lk tx us) c) (hp : pl = e0 (lk tx us)) (hN : nS (lk tx us) 0 0 0 0 df mt ig gl gr iv lv ln sa ol) : Ki l yN_readInputs cN_readInputs 3 .boolean 3 64 G [.ref qn, .ref q] [(qn, .inr (3, [.ref n1, .ref n2, .ref n3, .ref n4, .ref n5, .ref n6, .ref n7, .ref n8, .ref n9, .int (nI sa), .int (nI ol), .ref n10])), (n1, aI G 5 hh), (n2, aZ G 50 df), (n3, aZ G 50 mt), (n4, aZ G 50 ig), (n5, aI G 50 gl), (n6, aI G 50 gr), (n7, aI G 3 iv), (n8, aI G 6 lv), (n9, aI G 6 ln), (q, .inr (4, [.ref a1, .ref a2, .int (nI us), .int (nI pl)])), (a1, aB G 400 tx), (a2, aI G 5 nm)] sz (fun (r : Int32) (u : (Nat → Bool) × (Nat → Nat) × (Nat → Nat) × Nat) => (∃ (d1 : Nat → Bool), ∃ (i1 : Nat → Nat), ∃ (nn : Nat → Nat), ∃ (z : Nat), okl (exF (lk tx us) 1) (e0 (lk tx us)) (hd (lk tx us) 1) ∧ nS (lk tx us) (hd (lk tx us) 1) 0 0 0 d1 mt ig gl gr i1 lv ln sa ol ∧ z = e1 (lk tx us) ∧ z ≤ us ∧ nI 1 = r ∧ (d1, i1, nn, z) = u) ∨ (∃ (d1 : Nat → Bool), ∃ (i1 : Nat → Nat), ∃ (nn : Nat → Nat), ∃ (z : Nat), ¬ circOK (lk tx us) us ∧ z ≤ us ∧ nI 0 = r ∧ (d1, i1, nn, z) = u)) (fun (u : (Nat → Bool) × (Nat → Nat) × (Nat → Nat) × Nat) => [(qn, .inr (3, [.ref n1, .ref n2, .ref n3, .ref n4, .ref n5, .ref n6, .ref n7, .ref n8, .ref n9, .int (nI sa), .int (nI ol), .ref n10])), (n1, aI G 5 hh), (n2, aZ G 50 u.1), (n3, aZ G 50 mt), (n4, aZ G 50 ig), (n5, aI G 50 gl), (n6, aI G 50 gr), (n7, aI G 3 u.2.1), (n8, aI G 6 lv), (n9, aI G 6 ln), (q, .inr (4, [.ref a1, .ref a2, .int (nI us), .int (nI u.2.2.2)])), (a1, aB G 400 tx), (a2, aI G 5 u.2.2.1)]) := by
  refine Met.ofW (cc := cN_readInputs) (maxL := 3) (ret := (some .boolean)) (by decide) rfl ?_
  intro p e s m args below meth c s₁ B hml hv
  obtain ⟨hav, hsz, hP, hK, hD0, hE⟩ := hv
  have hx := B.exec
  have hb := B.bytes
  have hr := B.returns
  have htb : ∀ w ∈ TB, w.before args s = true := fun w h => atoms_spec (ws := Cond.code yN_readInputs cN_readInputs 3 (some .boolean) :: TB) B.pre w (List.mem_cons_of_mem _ h)
  have hown : s.vm.findClass "CircuitProver$Netlist" = some m.cls := findClass_of_methodNamed B.named
  have hlocks := B.notSynchronized
  subst hsz
  have hD := hD0.self (sz := s.heap.size)
  clear hD0
  generalize hRm : (headSpec (Cond.code yN_readInputs cN_readInputs 3 (some .boolean) :: TB) { frames := 3, cells := 0, slots := 0, locals := 64 }).room = R
  have hRf : R.frames = 3 := by rw [← hRm]; rfl
  have hRl : R.locals = 64 := by rw [← hRm]; rfl
  have hRc : R.cells = 0 := by rw [← hRm]; rfl
  have hRs : R.slots = 0 := by rw [← hRm]; rfl
  clear hRm
  generalize hAe : va_A [(qn, .inr (3, [.ref n1, .ref n2, .ref n3, .ref n4, .ref n5, .ref n6, .ref n7, .ref n8, .ref n9, .int (nI sa), .int (nI ol), .ref n10])), (n1, aI G 5 hh), (n2, aZ G 50 df), (n3, aZ G 50 mt), (n4, aZ G 50 ig), (n5, aI G 50 gl), (n6, aI G 50 gr), (n7, aI G 3 iv), (n8, aI G 6 lv), (n9, aI G 6 ln), (q, .inr (4, [.ref a1, .ref a2, .int (nI us), .int (nI pl)])), (a1, aB G 400 tx), (a2, aI G 5 nm)] s.heap.size = A at hD hE ⊢
  have hA : ∀ q : Nat, s.heap.size ≤ q → A q := fun q h => by rw [← hAe]; exact Or.inr h
  clear hAe
  have hS : va_S A s.heap s.heap [] := va_S.rf
  have hl := lv_entry ([.ref qn, .ref q]) (n := 3) (Nat.le_of_ble_eq_true rfl)
  have hent := lg_entry_eq m ([.ref qn, .ref q]) 3
  rw [← hav] at hent
  rw [hent]
  clear hent hav
  generalize (lg_sl ([.ref qn, .ref q]) ++ List.replicate (3 - (lg_sl ([.ref qn, .ref q])).length) Slot.unset).toArray = ls at hl ⊢
  have hl : lv_has ls 3 [(0, .ref qn), (1, .ref q)] := hl
  generalize hQ : MQ below _ args s 0 0 _ = Q
  have hP : va_P (gD G) vC [(qn, .inr (3, [.ref n1, .ref n2, .ref n3, .ref n4, .ref n5, .ref n6, .ref n7, .ref n8, .ref n9, .int (nI sa), .int (nI ol), .ref n10])), (n1, aI G 5 hh), (n2, aZ G 50 df), (n3, aZ G 50 mt), (n4, aZ G 50 ig), (n5, aI G 50 gl), (n6, aI G 50 gr), (n7, aI G 3 iv), (n8, aI G 6 lv), (n9, aI G 6 ln), (q, .inr (4, [.ref a1, .ref a2, .int (nI us), .int (nI pl)])), (a1, aB G 400 tx), (a2, aI G 5 nm)] s.heap := hP
  obtain ⟨H, hH⟩ : ∃ H : Heap, H = s.heap := ⟨_, rfl⟩
  obtain ⟨locs, hlc⟩ : ∃ L : List Loc, L = [] := ⟨_, rfl⟩
  have hS : va_S A s.heap H locs := by rw [hH, hlc]; exact hS
  have hP : va_P (gD G) vC [(qn, .inr (3, [.ref n1, .ref n2, .ref n3, .ref n4, .ref n5, .ref n6, .ref n7, .ref n8, .ref n9, .int (nI sa), .int (nI ol), .ref n10])), (n1, aI G 5 hh), (n2, aZ G 50 df), (n3, aZ G 50 mt), (n4, aZ G 50 ig), (n5, aI G 50 gl), (n6, aI G 50 gr), (n7, aI G 3 iv), (n8, aI G 6 lv), (n9, aI G 6 ln), (q, .inr (4, [.ref a1, .ref a2, .int (nI us), .int (nI pl)])), (a1, aB G 400 tx), (a2, aI G 5 nm)] H := by rw [hH]; exact hP
  have hgo : W p l e R s m args below meth c H locs 0 0 Q (F0 m 0 ls []) := by
    clear hH hlc
    refine lv_iconst (v := nI 0) hx hb dN_readInputs_0 (by decide) ?_
    refine lv_istore_n (lv' := [(2, .int (nI 0)), (0, .ref qn), (1, .ref q)]) hx hb dN_readInputs_1 rfl hl (by decide) rfl (fun ls hl => ?_)
    have loop2 : ∀ (n : Nat) (k : Nat) (nw : Nat → Nat) (pw : Nat) (dw : Nat → Bool) (iw : Nat → Nat) (H : Heap) (locs : List Loc) (ls : Array Slot), hh 1 - k < n → (k ≤ hd (lk tx us) 1) → (pw = pos (exF (lk tx us) 1) (e0 (lk tx us)) k) → (pw ≤ us) → (okl (exF (lk tx us) 1) (e0 (lk tx us)) k) → (nS (lk tx us) k 0 0 0 dw mt ig gl gr iw lv ln sa ol) → va_P (gD G) vC [(qn, .inr (3, [.ref n1, .ref n2, .ref n3, .ref n4, .ref n5, .ref n6, .ref n7, .ref n8, .ref n9, .int (nI sa), .int (nI ol), .ref n10])), (n1, aI G 5 hh), (n2, aZ G 50 dw), (n3, aZ G 50 mt), (n4, aZ G 50 ig), (n5, aI G 50 gl), (n6, aI G 50 gr), (n7, aI G 3 iw), (n8, aI G 6 lv), (n9, aI G 6 ln), (q, .inr (4, [.ref a1, .ref a2, .int (nI us), .int (nI pw)])), (a1, aB G 400 tx), (a2, aI G 5 nw)] H → va_D A [(qn, .inr (3, [.ref n1, .ref n2, .ref n3, .ref n4, .ref n5, .ref n6, .ref n7, .ref n8, .ref n9, .int (nI sa), .int (nI ol), .ref n10])), (n1, aI G 5 hh), (n2, aZ G 50 dw), (n3, aZ G 50 mt), (n4, aZ G 50 ig), (n5, aI G 50 gl), (n6, aI G 50 gr), (n7, aI G 3 iw), (n8, aI G 6 lv), (n9, aI G 6 ln), (q, .inr (4, [.ref a1, .ref a2, .int (nI us), .int (nI pw)])), (a1, aB G 400 tx), (a2, aI G 5 nw)] → va_S A s.heap H locs → lv_has ls 3 [(0, .ref qn), (1, .ref q), (2, .int (nI k))] → W p l e R s m args below meth c H locs 0 0 Q (F0 m 2 ls []) := by
      intro n
      induction n with
      | zero => intro k nw pw dw iw H locs ls hmu; omega
      | succ n ih =>
        intro k nw pw dw iw H locs ls hmu hk hpw hpu ho hs hP hD hS hl
        have ih2 := ih
        clear ih
        have g0 := hH 0 (by omega)
        have g1 := hH 1 (by omega)
        have g2 := hH 2 (by omega)
        have g3 := hH 3 (by omega)
        have g4 := hH 4 (by omega)
        have t0 := hd_lt (lk tx us) 0
        have t1 := hd_lt (lk tx us) 1
        have t2 := hd_lt (lk tx us) 2
        have t3 := hd_lt (lk tx us) 3
        have t4 := hd_lt (lk tx us) 4
        refine lv_iload_n hx hb dN_readInputs_2 rfl (lv_at hl 2 rfl) ?_
        refine lv_aload_n hx hb dN_readInputs_3 rfl (lv_at hl 0 rfl) ?_
        refine va_get (D := gD G) (ci := 3) (v := .ref n1) (C := "CircuitProver$Netlist") (T := TN) (N := 12) hx hb htb inN hown hK hP 0 rfl rfl 0 (by decide) (htb _ b55) (fun _ h9 => h9) rfl dN_readInputs_4 ?_
        refine lv_iconst (v := nI 1) hx hb dN_readInputs_7 (by decide) ?_
        refine k_iald hx hb hK hP 1 rfl (k := 1) (by omega) (by decide) dN_readInputs_8 ?_
        refine lv_icmp_ge (tgt := 60) hx hb dN_readInputs_9 rfl (fun h9 => ?_) (fun h9 => ?_)
        · have h9 : hh 1 ≤ k := (nI_leI (a := hh 1) (b := k) (by omega) (by omega)).mp h9
          refine lv_iconst (v := nI 1) hx hb dN_readInputs_60 (by decide) ?_
          -- end 0
          rw [← hQ]
          exact k_iret hx hb hr hlocks (by decide) (u := (dw, iw, nw, pw)) (Or.inl ⟨dw, iw, nw, pw, by rw [show hd (lk tx us) 1 = k by omega]; exact ho, by rw [show hd (lk tx us) 1 = k by omega]; exact hs, by unfold e1; rw [show hd (lk tx us) 1 = k by omega]; exact hpw, hpu, rfl, rfl⟩) hP hD hK hS dN_readInputs_61
        · have h9 : k < hh 1 := Nat.lt_of_not_le (fun z => h9 ((nI_leI (a := hh 1) (b := k) (by omega) (by omega)).mpr z))
          refine lv_aload_n hx hb dN_readInputs_12 rfl (lv_at hl 1 rfl) ?_
          refine k_i (ws2 := fun u => [(qn, .inr (3, [.ref n1, .ref n2, .ref n3, .ref n4, .ref n5, .ref n6, .ref n7, .ref n8, .ref n9, .int (nI sa), .int (nI ol), .ref n10])), (n1, aI G 5 hh), (n2, aZ G 50 dw), (n3, aZ G 50 mt), (n4, aZ G 50 ig), (n5, aI G 50 gl), (n6, aI G 50 gr), (n7, aI G 3 iw), (n8, aI G 6 lv), (n9, aI G 6 ln), (q, .inr (4, [.ref a1, .ref a2, .int (nI us), .int (nI (u.2))])), (a1, aB G 400 tx), (a2, aI G 5 (u.1))]) (wr := [(qn, .inr (3, [.ref n1, .ref n2, .ref n3, .ref n4, .ref n5, .ref n6, .ref n7, .ref n8, .ref n9, .int (nI sa), .int (nI ol), .ref n10])), (n1, aI G 5 hh), (n2, aZ G 50 dw), (n3, aZ G 50 mt), (n4, aZ G 50 ig), (n5, aI G 50 gl), (n6, aI G 50 gr), (n7, aI G 3 iw), (n8, aI G 6 lv), (n9, aI G 6 ln)]) (k_runV (n := 0) (As := []) (rest := []) hx hb hml hown htb hP hD hK hS hA hE (k_T_readLine l G H.size q a1 a2 tx nw us pw (show us ≤ 400 from by omega) (show pw ≤ us from by omega) (show ∀ j, tx j < 128 from by omega)) b258 b259 b260 b2 b261 (by decide +kernel) rfl rfl ⟨by rw [hRf]; exact Nat.le_of_ble_eq_true rfl, by rw [hRl]; exact Nat.le_of_ble_eq_true rfl⟩ [10, 11, 12] rfl (by decide) 10 rfl rfl rfl rfl hl.1 rfl (Nat.le_of_ble_eq_true rfl) dN_readInputs_13 ⟨Nat.zero_le _, Nat.zero_le _⟩) hP hD hS hA [10, 11, 12] [0, 1, 2, 3, 4, 5, 6, 7, 8, 9] [0, 1, 2, 3, 4, 5, 6, 7, 8, 9, 10, 11, 12] rfl rfl (by decide) (by decide) (fun u => rfl) (by decide) (fun r u H locs hw hP hD hS => ?_)
          rcases hw with ⟨li13, z13, nn13, hc13_e, hc13_a, rfl, rfl⟩ | ⟨z13, nn13, hc13_e, hc13_b, rfl, rfl⟩
          · skip
            have hP : va_P (gD G) vC [(qn, .inr (3, [.ref n1, .ref n2, .ref n3, .ref n4, .ref n5, .ref n6, .ref n7, .ref n8, .ref n9, .int (nI sa), .int (nI ol), .ref n10])), (n1, aI G 5 hh), (n2, aZ G 50 dw), (n3, aZ G 50 mt), (n4, aZ G 50 ig), (n5, aI G 50 gl), (n6, aI G 50 gr), (n7, aI G 3 iw), (n8, aI G 6 lv), (n9, aI G 6 ln), (q, .inr (4, [.ref a1, .ref a2, .int (nI us), .int (nI z13)])), (a1, aB G 400 tx), (a2, aI G 5 nn13)] H := hP
            have hD : va_D A [(qn, .inr (3, [.ref n1, .ref n2, .ref n3, .ref n4, .ref n5, .ref n6, .ref n7, .ref n8, .ref n9, .int (nI sa), .int (nI ol), .ref n10])), (n1, aI G 5 hh), (n2, aZ G 50 dw), (n3, aZ G 50 mt), (n4, aZ G 50 ig), (n5, aI G 50 gl), (n6, aI G 50 gr), (n7, aI G 3 iw), (n8, aI G 6 lv), (n9, aI G 6 ln), (q, .inr (4, [.ref a1, .ref a2, .int (nI us), .int (nI z13)])), (a1, aB G 400 tx), (a2, aI G 5 nn13)] := hD
            have hx13 := lnF_ex hc13_e
            have hz13 := lnF_le hc13_e
            refine lv_iconst (v := nI 1) hx hb dN_readInputs_16 (by decide) ?_
            refine lv_icmp_ne (tgt := 33) hx hb dN_readInputs_17 rfl (fun h17 => ?_) (fun h17 => ?_)
            · have h17 : ¬ li13.length = 1 := fun z => h17 ((nI_eq (a := li13.length) (b := 1) (by omega) (by omega)).mpr z)
              refine lv_iconst (v := nI 0) hx hb dN_readInputs_33 (by decide) ?_
              -- end 1
              rw [← hQ]
              exact k_iret hx hb hr hlocks (by decide) (u := (dw, iw, nn13, z13)) (Or.inr ⟨_, _, _, _, no_ln1 (k := k) (by omega) (by rw [← hpw]; exact ex_none2 hc13_e h17 (by decide)), hz13, rfl, rfl⟩) hP hD hK hS dN_readInputs_34
            · have h17 : li13.length = 1 := (nI_eq (a := li13.length) (b := 1) (by omega) (by omega)).mp h17
              have hLn : exF (lk tx us) 1 (pos (exF (lk tx us) 1) (e0 (lk tx us)) k) = some (li13, z13) := by rw [← hpw]; exact ex_some hc13_e h17
              have hx0 : nn13 0 = xin (lk tx us) k := by unfold xin; rw [vl_s hLn]; exact hc13_a 0 (by omega)
              have hxl := xin_lt (lk tx us) k
              refine lv_aload_n hx hb dN_readInputs_20 rfl (lv_at hl 0 rfl) ?_
              refine lv_aload_n hx hb dN_readInputs_21 rfl (lv_at hl 1 rfl) ?_
              refine va_getN (D := gD G) (ci := 4) (v := .ref a2) (C := "CircuitProver$Text") (T := TT) (N := 4) hx hb htb inT hown hK hP 10 rfl rfl 1 (by decide) (va_Nw.use rfl (hE.nw n34)) (fun _ h9 => h9) rfl dN_readInputs_22 ?_
              refine lv_iconst (v := nI 0) hx hb dN_readInputs_25 (by decide) ?_
              refine k_iald hx hb hK hP 12 rfl (k := 0) (by omega) (by decide) dN_readInputs_26 ?_
              refine k_i (ws2 := fun u => [(qn, .inr (3, [.ref n1, .ref n2, .ref n3, .ref n4, .ref n5, .ref n6, .ref n7, .ref n8, .ref n9, .int (nI sa), .int (nI ol), .ref n10])), (n1, aI G 5 hh), (n2, aZ G 50 (u)), (n3, aZ G 50 mt), (n4, aZ G 50 ig), (n5, aI G 50 gl), (n6, aI G 50 gr), (n7, aI G 3 iw), (n8, aI G 6 lv), (n9, aI G 6 ln), (q, .inr (4, [.ref a1, .ref a2, .int (nI us), .int (nI z13)])), (a1, aB G 400 tx), (a2, aI G 5 nn13)]) (wr := [(n3, aZ G 50 mt), (n4, aZ G 50 ig), (n5, aI G 50 gl), (n6, aI G 50 gr), (n7, aI G 3 iw), (n8, aI G 6 lv), (n9, aI G 6 ln), (q, .inr (4, [.ref a1, .ref a2, .int (nI us), .int (nI z13)])), (a1, aB G 400 tx), (a2, aI G 5 nn13)]) (k_runV (n := 1) (As := [.int (nI (nn13 0))]) (rest := []) hx hb hml hown htb hP hD hK hS hA hE (k_N_define l G H.size qn n1 n2 n3 n4 n5 n6 n7 n8 n9 n10 sa ol hh dw (nn13 0) (show (nn13 0) < 100 from by omega) (show hh 0 < 100 from by omega)) b278 b280 s5 b3 b281 (by decide +kernel) rfl rfl ⟨by rw [hRf]; exact Nat.le_of_ble_eq_true rfl, by rw [hRl]; exact Nat.le_of_ble_eq_true rfl⟩ [0, 1, 2] rfl (by decide) 0 rfl rfl rfl rfl hl.1 rfl (Nat.le_of_ble_eq_true rfl) dN_readInputs_27 ⟨Nat.zero_le _, Nat.zero_le _⟩) hP hD hS hA [0, 1, 2] [3, 4, 5, 6, 7, 8, 9, 10, 11, 12] [10, 11, 12, 0, 1, 2, 3, 4, 5, 6, 7, 8, 9] rfl rfl (by decide) (by decide) (fun u => rfl) (by decide) (fun r u H locs hw hP hD hS => ?_)
              rcases hw with ⟨hc27_e, rfl, rfl⟩ | ⟨hc27_e, rfl, rfl⟩
              · skip
                have hP : va_P (gD G) vC [(qn, .inr (3, [.ref n1, .ref n2, .ref n3, .ref n4, .ref n5, .ref n6, .ref n7, .ref n8, .ref n9, .int (nI sa), .int (nI ol), .ref n10])), (n1, aI G 5 hh), (n2, aZ G 50 (va_up dw ((nn13 0) / 2) true)), (n3, aZ G 50 mt), (n4, aZ G 50 ig), (n5, aI G 50 gl), (n6, aI G 50 gr), (n7, aI G 3 iw), (n8, aI G 6 lv), (n9, aI G 6 ln), (q, .inr (4, [.ref a1, .ref a2, .int (nI us), .int (nI z13)])), (a1, aB G 400 tx), (a2, aI G 5 nn13)] H := hP
                have hD : va_D A [(qn, .inr (3, [.ref n1, .ref n2, .ref n3, .ref n4, .ref n5, .ref n6, .ref n7, .ref n8, .ref n9, .int (nI sa), .int (nI ol), .ref n10])), (n1, aI G 5 hh), (n2, aZ G 50 (va_up dw ((nn13 0) / 2) true)), (n3, aZ G 50 mt), (n4, aZ G 50 ig), (n5, aI G 50 gl), (n6, aI G 50 gr), (n7, aI G 3 iw), (n8, aI G 6 lv), (n9, aI G 6 ln), (q, .inr (4, [.ref a1, .ref a2, .int (nI us), .int (nI z13)])), (a1, aB G 400 tx), (a2, aI G 5 nn13)] := hD
                refine lv_if_ne (tgt := 35) hx hb dN_readInputs_30 rfl (fun _ => ?_) (fun h30 => (by revert h30; first | decide | exact fun z => absurd z (by decide) | exact fun z => z.elim (by decide)))
                have hdG : dGood (lk tx us) dw (xin (lk tx us) k) := by (have q := hc27_e); rw [hx0, g0] at q; exact q
                refine lv_iload_n hx hb dN_readInputs_35 rfl (lv_at hl 2 rfl) ?_
                refine lv_iconst (v := nI 3) hx hb dN_readInputs_36 (by decide) ?_
                refine lv_icmp_ge (tgt := 54) hx hb dN_readInputs_37 rfl (fun h37 => ?_) (fun h37 => ?_)
                · have h37 : 3 ≤ k := (nI_leI (a := 3) (b := k) (by omega) (by omega)).mp h37
                  refine lv_iinc (v := nI (k + 1)) (lv' := [(2, .int (nI (k + 1))), (0, .ref qn), (1, .ref q)]) hx hb dN_readInputs_54 hl (k := 2) rfl (nI_add _ 1) (by decide) rfl (fun ls hl => ?_)
                  refine lv_goto (tgt := 2) hx hb dN_readInputs_57 rfl ?_
                  have hl : lv_has ls 3 [(0, .ref qn), (1, .ref q), (2, .int (nI (k + 1)))] := lv_sub hl [1, 2, 0] rfl
                  exact ih2 (k + 1) nn13 z13 (va_up dw ((nn13 0) / 2) true) iw _ _ _ (by omega) (by omega) ((pos_s hLn).symm) (by omega) (okl_s ho hLn) (by rw [hx0]; first | exact nS_in (by omega) hs hdG (fun j h1 h2 => va_up_ne _ _ (by omega)) (fun _ => va_up_self _ _ _) | exact nS_in (by omega) hs hdG (fun j h1 h2 => rfl) (fun h => by omega)) hP hD hS hl
                · have h37 : k < 3 := Nat.lt_of_not_le (fun z => h37 ((nI_leI (a := 3) (b := k) (by omega) (by omega)).mpr z))
                  refine lv_aload_n hx hb dN_readInputs_40 rfl (lv_at hl 0 rfl) ?_
                  refine va_get (D := gD G) (ci := 3) (v := .ref n7) (C := "CircuitProver$Netlist") (T := TN) (N := 12) hx hb htb inN hown hK hP 0 rfl rfl 6 (by decide) (htb _ b62) (fun _ h9 => h9) rfl dN_readInputs_41 ?_
                  refine lv_iload_n hx hb dN_readInputs_44 rfl (lv_at hl 2 rfl) ?_
                  refine lv_aload_n hx hb dN_readInputs_45 rfl (lv_at hl 1 rfl) ?_
                  refine va_getN (D := gD G) (ci := 4) (v := .ref a2) (C := "CircuitProver$Text") (T := TT) (N := 4) hx hb htb inT hown hK hP 10 rfl rfl 1 (by decide) (va_Nw.use rfl (hE.nw n34)) (fun _ h9 => h9) rfl dN_readInputs_46 ?_
                  refine lv_iconst (v := nI 0) hx hb dN_readInputs_49 (by decide) ?_
                  refine k_iald hx hb hK hP 12 rfl (k := 0) (by omega) (by decide) dN_readInputs_50 ?_
                  refine lv_iconst (v := nI 1) hx hb dN_readInputs_51 (by decide) ?_
                  refine lv_ishr hx hb dN_readInputs_52 ?_
                  refine k_toi (y := nI ((nn13 0) / 2)) (pk_shrN (by omega) _ 1 (by decide)) ?_
                  refine k_iast hx hb hK hP hD hS 7 rfl (k := k) (v := (nn13 0) / 2) (by omega) (by decide) dN_readInputs_53 (fun H locs hP hD hS => ?_)
                  have hP : va_P (gD G) vC [(qn, .inr (3, [.ref n1, .ref n2, .ref n3, .ref n4, .ref n5, .ref n6, .ref n7, .ref n8, .ref n9, .int (nI sa), .int (nI ol), .ref n10])), (n1, aI G 5 hh), (n2, aZ G 50 (va_up dw ((nn13 0) / 2) true)), (n3, aZ G 50 mt), (n4, aZ G 50 ig), (n5, aI G 50 gl), (n6, aI G 50 gr), (n7, aI G 3 (va_up iw k ((nn13 0) / 2))), (n8, aI G 6 lv), (n9, aI G 6 ln), (q, .inr (4, [.ref a1, .ref a2, .int (nI us), .int (nI z13)])), (a1, aB G 400 tx), (a2, aI G 5 nn13)] H := hP
                  have hD : va_D A [(qn, .inr (3, [.ref n1, .ref n2, .ref n3, .ref n4, .ref n5, .ref n6, .ref n7, .ref n8, .ref n9, .int (nI sa), .int (nI ol), .ref n10])), (n1, aI G 5 hh), (n2, aZ G 50 (va_up dw ((nn13 0) / 2) true)), (n3, aZ G 50 mt), (n4, aZ G 50 ig), (n5, aI G 50 gl), (n6, aI G 50 gr), (n7, aI G 3 (va_up iw k ((nn13 0) / 2))), (n8, aI G 6 lv), (n9, aI G 6 ln), (q, .inr (4, [.ref a1, .ref a2, .int (nI us), .int (nI z13)])), (a1, aB G 400 tx), (a2, aI G 5 nn13)] := hD
                  refine lv_iinc (v := nI (k + 1)) (lv' := [(2, .int (nI (k + 1))), (0, .ref qn), (1, .ref q)]) hx hb dN_readInputs_54 hl (k := 2) rfl (nI_add _ 1) (by decide) rfl (fun ls hl => ?_)
                  refine lv_goto (tgt := 2) hx hb dN_readInputs_57 rfl ?_
                  have hl : lv_has ls 3 [(0, .ref qn), (1, .ref q), (2, .int (nI (k + 1)))] := lv_sub hl [1, 2, 0] rfl
                  exact ih2 (k + 1) nn13 z13 (va_up dw ((nn13 0) / 2) true) (va_up iw k ((nn13 0) / 2)) _ _ _ (by omega) (by omega) ((pos_s hLn).symm) (by omega) (okl_s ho hLn) (by rw [hx0]; first | exact nS_in (by omega) hs hdG (fun j h1 h2 => va_up_ne _ _ (by omega)) (fun _ => va_up_self _ _ _) | exact nS_in (by omega) hs hdG (fun j h1 h2 => rfl) (fun h => by omega)) hP hD hS hl
              · skip
                have hP : va_P (gD G) vC [(qn, .inr (3, [.ref n1, .ref n2, .ref n3, .ref n4, .ref n5, .ref n6, .ref n7, .ref n8, .ref n9, .int (nI sa), .int (nI ol), .ref n10])), (n1, aI G 5 hh), (n2, aZ G 50 dw), (n3, aZ G 50 mt), (n4, aZ G 50 ig), (n5, aI G 50 gl), (n6, aI G 50 gr), (n7, aI G 3 iw), (n8, aI G 6 lv), (n9, aI G 6 ln), (q, .inr (4, [.ref a1, .ref a2, .int (nI us), .int (nI z13)])), (a1, aB G 400 tx), (a2, aI G 5 nn13)] H := hP
                have hD : va_D A [(qn, .inr (3, [.ref n1, .ref n2, .ref n3, .ref n4, .ref n5, .ref n6, .ref n7, .ref n8, .ref n9, .int (nI sa), .int (nI ol), .ref n10])), (n1, aI G 5 hh), (n2, aZ G 50 dw), (n3, aZ G 50 mt), (n4, aZ G 50 ig), (n5, aI G 50 gl), (n6, aI G 50 gr), (n7, aI G 3 iw), (n8, aI G 6 lv), (n9, aI G 6 ln), (q, .inr (4, [.ref a1, .ref a2, .int (nI us), .int (nI z13)])), (a1, aB G 400 tx), (a2, aI G 5 nn13)] := hD
                refine lv_if_ne (tgt := 35) hx hb dN_readInputs_30 rfl (fun h30 => (by revert h30; first | decide | exact fun z => absurd z (by decide) | exact fun z => z.elim (by decide))) (fun _ => ?_)
                refine lv_iconst (v := nI 0) hx hb dN_readInputs_33 (by decide) ?_
                -- end 2
                rw [← hQ]
                exact k_iret hx hb hr hlocks (by decide) (u := (dw, iw, nn13, z13)) (Or.inr ⟨_, _, _, _, no_in (by omega) hs (fun q => hc27_e (by unfold dGood at q; rw [hx0, g0]; exact q)), hz13, rfl, rfl⟩) hP hD hK hS dN_readInputs_34
          · skip
            have hP : va_P (gD G) vC [(qn, .inr (3, [.ref n1, .ref n2, .ref n3, .ref n4, .ref n5, .ref n6, .ref n7, .ref n8, .ref n9, .int (nI sa), .int (nI ol), .ref n10])), (n1, aI G 5 hh), (n2, aZ G 50 dw), (n3, aZ G 50 mt), (n4, aZ G 50 ig), (n5, aI G 50 gl), (n6, aI G 50 gr), (n7, aI G 3 iw), (n8, aI G 6 lv), (n9, aI G 6 ln), (q, .inr (4, [.ref a1, .ref a2, .int (nI us), .int (nI z13)])), (a1, aB G 400 tx), (a2, aI G 5 nn13)] H := hP
            have hD : va_D A [(qn, .inr (3, [.ref n1, .ref n2, .ref n3, .ref n4, .ref n5, .ref n6, .ref n7, .ref n8, .ref n9, .int (nI sa), .int (nI ol), .ref n10])), (n1, aI G 5 hh), (n2, aZ G 50 dw), (n3, aZ G 50 mt), (n4, aZ G 50 ig), (n5, aI G 50 gl), (n6, aI G 50 gr), (n7, aI G 3 iw), (n8, aI G 6 lv), (n9, aI G 6 ln), (q, .inr (4, [.ref a1, .ref a2, .int (nI us), .int (nI z13)])), (a1, aB G 400 tx), (a2, aI G 5 nn13)] := hD
            refine lv_iconst (v := nI 1) hx hb dN_readInputs_16 (by decide) ?_
            refine lv_icmp_ne (tgt := 33) hx hb dN_readInputs_17 rfl (fun _ => ?_) (fun h17 => (by revert h17; first | decide | exact fun z => absurd z (by decide) | exact fun z => z.elim (by decide)))
            refine lv_iconst (v := nI 0) hx hb dN_readInputs_33 (by decide) ?_
            -- end 3
            rw [← hQ]
            exact k_iret hx hb hr hlocks (by decide) (u := (dw, iw, nn13, z13)) (Or.inr ⟨_, _, _, _, no_ln1 (k := k) (by omega) (by rw [← hpw]; exact ex_none1 hc13_e (by decide)), hc13_b, rfl, rfl⟩) hP hD hK hS dN_readInputs_34
    have hl : lv_has ls 3 [(0, .ref qn), (1, .ref q), (2, .int (nI 0))] := lv_sub hl [1, 2, 0] rfl
    have g0 := hH 0 (by omega)
    have g1 := hH 1 (by omega)
    have g2 := hH 2 (by omega)
    have g3 := hH 3 (by omega)
    have g4 := hH 4 (by omega)
    have t0 := hd_lt (lk tx us) 0
    have t1 := hd_lt (lk tx us) 1
    have t2 := hd_lt (lk tx us) 2
    have t3 := hd_lt (lk tx us) 3
    have t4 := hd_lt (lk tx us) 4
    exact loop2 (hh 1 - 0 + 1) 0 nm pl df iv _ _ _ (by omega) (by omega) hp hpl (fun j hj => absurd hj (Nat.not_lt_zero j)) hN hP hD hS hl
  rw [hH, hlc] at hgo
  exact hgo
