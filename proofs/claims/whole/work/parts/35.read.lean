theorem la_vals3 {T : Nat → Nat} {p k z : Nat} {l : List Nat} {nn : Nat → Nat} (hp : p = pos (laF T) (e1 T) k) (h : lnF T 5 p = some (l, z)) (hl : l.length = 3) (ha : ∀ j, j < l.length → nn j = l.getD j 0) :
    laF T (pos (laF T) (e1 T) k) = some (l, z) ∧ nn 0 = xla T k 0 ∧ nn 1 = xla T k 1 ∧ nn 2 = xla T k 2 := by
  have h1 : laF T (pos (laF T) (e1 T) k) = some (l, z) := by rw [← hp]; exact la_3 h hl
  refine ⟨h1, ?_, ?_, ?_⟩ <;> (unfold xla; rw [vl_s h1]; exact ha _ (by omega))
theorem la_vals2 {T : Nat → Nat} {p k z : Nat} {l : List Nat} {nn : Nat → Nat} (hp : p = pos (laF T) (e1 T) k) (h : lnF T 5 p = some (l, z)) (hl : l.length = 2) (ha : ∀ j, j < l.length → nn j = l.getD j 0) :
    laF T (pos (laF T) (e1 T) k) = some (l ++ [0], z) ∧ nn 0 = xla T k 0 ∧ nn 1 = xla T k 1 ∧ 0 = xla T k 2 := by
  have h1 : laF T (pos (laF T) (e1 T) k) = some (l ++ [0], z) := by rw [← hp]; exact la_2 h hl
  refine ⟨h1, ?_, ?_, ?_⟩
  · unfold xla; rw [vl_s h1, getD_ap (by omega)]; exact ha _ (by omega)
  · unfold xla; rw [vl_s h1, getD_ap (by omega)]; exact ha _ (by omega)
  · unfold xla; rw [vl_s h1, ← hl, getD_last]
theorem shl_b {a k : Nat} (ha : a < 2) (hk : k < 6) : a * 2 ^ k < 2 ^ 32 := by
  have h1 : 2 ^ k < 2 ^ 6 := Nat.pow_lt_pow_right (by decide) hk
  rcases (show a = 0 ∨ a = 1 by omega) with rfl | rfl
  · omega
  · omega
theorem ga_vals {T : Nat → Nat} {p k z : Nat} {l : List Nat} {nn : Nat → Nat} (hp : p = pos (exF T 3) (e3 T) k) (h : lnF T 5 p = some (l, z)) (hl : l.length = 3) (ha : ∀ j, j < l.length → nn j = l.getD j 0) :
    exF T 3 (pos (exF T 3) (e3 T) k) = some (l, z) ∧ nn 0 = xga T k 0 ∧ nn 1 = xga T k 1 ∧ nn 2 = xga T k 2 := by
  have h1 : exF T 3 (pos (exF T 3) (e3 T) k) = some (l, z) := by rw [← hp]; exact ex_some h hl
  refine ⟨h1, ?_, ?_, ?_⟩ <;> (unfold xga; rw [vl_s h1]; exact ha _ (by omega))
set_option maxRecDepth 100000 in
set_option maxHeartbeats 4000000 in
theorem k_N_readLatches (l : Launch) (G : GG) (sz : Nat) (qn : Nat) (n1 : Nat) (n2 : Nat) (n3 : Nat) (n4 : Nat) (n5 : Nat) (n6 : Nat) (n7 : Nat) (n8 : Nat) (n9 : Nat) (n10 : Nat) (sa : Nat) (ol : Nat) (hh : Nat → Nat) (df : Nat → Bool) (mt : Nat → Bool) (ig : Nat → Bool) (gl : Nat → Nat) (gr : Nat → Nat) (iv : Nat → Nat) (lv : Nat → Nat) (ln : Nat → Nat) (q : Nat) (a1 : Nat) (a2 : Nat) (tx : Nat → Nat) (nm : Nat → Nat) (us : Nat) (pl : Nat) (hus : us ≤ 400) (hpl : pl ≤ us) (htx : ∀ j, tx j < 128) (hH : ∀ c, c < 5 → hh c = hd (lk tx us) c) (hp : pl = e1 (lk tx us)) (hN : nS (lk tx us) (hd (lk tx us) 1) 0 0 0 df mt ig gl gr iv lv ln sa ol) : Ki l yN_readLatches cN_readLatches 5 .boolean 3 64 G [.ref qn, .ref q] [(qn, .inr (3, [.ref n1, .ref n2, .ref n3, .ref n4, .ref n5, .ref n6, .ref n7, .ref n8, .ref n9, .int (nI sa), .int (nI ol), .ref n10])), (n1, aI G 5 hh), (n2, aZ G 50 df), (n3, aZ G 50 mt), (n4, aZ G 50 ig), (n5, aI G 50 gl), (n6, aI G 50 gr), (n7, aI G 3 iv), (n8, aI G 6 lv), (n9, aI G 6 ln), (q, .inr (4, [.ref a1, .ref a2, .int (nI us), .int (nI pl)])), (a1, aB G 400 tx), (a2, aI G 5 nm)] sz (fun (r : Int32) (u : (Nat → Bool) × (Nat → Bool) × (Nat → Nat) × (Nat → Nat) × Nat × (Nat → Nat) × Nat) => (∃ (d1 : Nat → Bool), ∃ (m1 : Nat → Bool), ∃ (l1 : Nat → Nat), ∃ (x1 : Nat → Nat), ∃ (s1 : Nat), ∃ (nn : Nat → Nat), ∃ (z : Nat), okl (laF (lk tx us)) (e1 (lk tx us)) (hd (lk tx us) 2) ∧ nS (lk tx us) (hd (lk tx us) 1) (hd (lk tx us) 2) 0 0 d1 m1 ig gl gr iv l1 x1 s1 ol ∧ z = e2 (lk tx us) ∧ z ≤ us ∧ nI 1 = r ∧ (d1, m1, l1, x1, s1, nn, z) = u) ∨ (∃ (d1 : Nat → Bool), ∃ (m1 : Nat → Bool), ∃ (l1 : Nat → Nat), ∃ (x1 : Nat → Nat), ∃ (s1 : Nat), ∃ (nn : Nat → Nat), ∃ (z : Nat), ¬ circOK (lk tx us) us ∧ z ≤ us ∧ nI 0 = r ∧ (d1, m1, l1, x1, s1, nn, z) = u)) (fun (u : (Nat → Bool) × (Nat → Bool) × (Nat → Nat) × (Nat → Nat) × Nat × (Nat → Nat) × Nat) => [(qn, .inr (3, [.ref n1, .ref n2, .ref n3, .ref n4, .ref n5, .ref n6, .ref n7, .ref n8, .ref n9, .int (nI u.2.2.2.2.1), .int (nI ol), .ref n10])), (n1, aI G 5 hh), (n2, aZ G 50 u.1), (n3, aZ G 50 u.2.1), (n4, aZ G 50 ig), (n5, aI G 50 gl), (n6, aI G 50 gr), (n7, aI G 3 iv), (n8, aI G 6 u.2.2.1), (n9, aI G 6 u.2.2.2.1), (q, .inr (4, [.ref a1, .ref a2, .int (nI us), .int (nI u.2.2.2.2.2.2)])), (a1, aB G 400 tx), (a2, aI G 5 u.2.2.2.2.2.1)]) := by
  refine Met.ofW (cc := cN_readLatches) (maxL := 5) (ret := (some .boolean)) (by decide) rfl ?_
  intro p e s m args below meth c s₁ B hml hv
  obtain ⟨hav, hsz, hP, hK, hD0, hE⟩ := hv
  have hx := B.exec
  have hb := B.bytes
  have hr := B.returns
  have htb : ∀ w ∈ TB, w.before args s = true := fun w h => atoms_spec (ws := Cond.code yN_readLatches cN_readLatches 5 (some .boolean) :: TB) B.pre w (List.mem_cons_of_mem _ h)
  have hown : s.vm.findClass "CircuitProver$Netlist" = some m.cls := findClass_of_methodNamed B.named
  have hlocks := B.notSynchronized
  subst hsz
  have hD := hD0.self (sz := s.heap.size)
  clear hD0
  generalize hRm : (headSpec (Cond.code yN_readLatches cN_readLatches 5 (some .boolean) :: TB) { frames := 3, cells := 0, slots := 0, locals := 64 }).room = R
  have hRf : R.frames = 3 := by rw [← hRm]; rfl
  have hRl : R.locals = 64 := by rw [← hRm]; rfl
  have hRc : R.cells = 0 := by rw [← hRm]; rfl
  have hRs : R.slots = 0 := by rw [← hRm]; rfl
  clear hRm
  generalize hAe : va_A [(qn, .inr (3, [.ref n1, .ref n2, .ref n3, .ref n4, .ref n5, .ref n6, .ref n7, .ref n8, .ref n9, .int (nI sa), .int (nI ol), .ref n10])), (n1, aI G 5 hh), (n2, aZ G 50 df), (n3, aZ G 50 mt), (n4, aZ G 50 ig), (n5, aI G 50 gl), (n6, aI G 50 gr), (n7, aI G 3 iv), (n8, aI G 6 lv), (n9, aI G 6 ln), (q, .inr (4, [.ref a1, .ref a2, .int (nI us), .int (nI pl)])), (a1, aB G 400 tx), (a2, aI G 5 nm)] s.heap.size = A at hD hE ⊢
  have hA : ∀ q : Nat, s.heap.size ≤ q → A q := fun q h => by rw [← hAe]; exact Or.inr h
  clear hAe
  have hS : va_S A s.heap s.heap [] := va_S.rf
  have hl := lv_entry ([.ref qn, .ref q]) (n := 5) (Nat.le_of_ble_eq_true rfl)
  have hent := lg_entry_eq m ([.ref qn, .ref q]) 5
  rw [← hav] at hent
  rw [hent]
  clear hent hav
  generalize (lg_sl ([.ref qn, .ref q]) ++ List.replicate (5 - (lg_sl ([.ref qn, .ref q])).length) Slot.unset).toArray = ls at hl ⊢
  have hl : lv_has ls 5 [(0, .ref qn), (1, .ref q)] := hl
  generalize hQ : MQ below _ args s 0 0 _ = Q
  have hP : va_P (gD G) vC [(qn, .inr (3, [.ref n1, .ref n2, .ref n3, .ref n4, .ref n5, .ref n6, .ref n7, .ref n8, .ref n9, .int (nI sa), .int (nI ol), .ref n10])), (n1, aI G 5 hh), (n2, aZ G 50 df), (n3, aZ G 50 mt), (n4, aZ G 50 ig), (n5, aI G 50 gl), (n6, aI G 50 gr), (n7, aI G 3 iv), (n8, aI G 6 lv), (n9, aI G 6 ln), (q, .inr (4, [.ref a1, .ref a2, .int (nI us), .int (nI pl)])), (a1, aB G 400 tx), (a2, aI G 5 nm)] s.heap := hP
  obtain ⟨H, hH⟩ : ∃ H : Heap, H = s.heap := ⟨_, rfl⟩
  obtain ⟨locs, hlc⟩ : ∃ L : List Loc, L = [] := ⟨_, rfl⟩
  have hS : va_S A s.heap H locs := by rw [hH, hlc]; exact hS
  have hP : va_P (gD G) vC [(qn, .inr (3, [.ref n1, .ref n2, .ref n3, .ref n4, .ref n5, .ref n6, .ref n7, .ref n8, .ref n9, .int (nI sa), .int (nI ol), .ref n10])), (n1, aI G 5 hh), (n2, aZ G 50 df), (n3, aZ G 50 mt), (n4, aZ G 50 ig), (n5, aI G 50 gl), (n6, aI G 50 gr), (n7, aI G 3 iv), (n8, aI G 6 lv), (n9, aI G 6 ln), (q, .inr (4, [.ref a1, .ref a2, .int (nI us), .int (nI pl)])), (a1, aB G 400 tx), (a2, aI G 5 nm)] H := by rw [hH]; exact hP
  have hgo : W p l e R s m args below meth c H locs 0 0 Q (F0 m 0 ls []) := by
    clear hH hlc
    refine lv_iconst (v := nI 0) hx hb dN_readLatches_0 (by decide) ?_
    refine lv_istore_n (lv' := [(2, .int (nI 0)), (0, .ref qn), (1, .ref q)]) hx hb dN_readLatches_1 rfl hl (by decide) rfl (fun ls hl => ?_)
    have loop2 : ∀ (n : Nat) (k : Nat) (nw : Nat → Nat) (pw : Nat) (dw : Nat → Bool) (mw : Nat → Bool) (lw : Nat → Nat) (xw : Nat → Nat) (sw : Nat) (H : Heap) (locs : List Loc) (ls : Array Slot), hh 2 - k < n → (k ≤ hd (lk tx us) 2) → (pw = pos (laF (lk tx us)) (e1 (lk tx us)) k) → (pw ≤ us) → (okl (laF (lk tx us)) (e1 (lk tx us)) k) → (nS (lk tx us) (hd (lk tx us) 1) k 0 0 dw mw ig gl gr iv lw xw sw ol) → va_P (gD G) vC [(qn, .inr (3, [.ref n1, .ref n2, .ref n3, .ref n4, .ref n5, .ref n6, .ref n7, .ref n8, .ref n9, .int (nI sw), .int (nI ol), .ref n10])), (n1, aI G 5 hh), (n2, aZ G 50 dw), (n3, aZ G 50 mw), (n4, aZ G 50 ig), (n5, aI G 50 gl), (n6, aI G 50 gr), (n7, aI G 3 iv), (n8, aI G 6 lw), (n9, aI G 6 xw), (q, .inr (4, [.ref a1, .ref a2, .int (nI us), .int (nI pw)])), (a1, aB G 400 tx), (a2, aI G 5 nw)] H → va_D A [(qn, .inr (3, [.ref n1, .ref n2, .ref n3, .ref n4, .ref n5, .ref n6, .ref n7, .ref n8, .ref n9, .int (nI sw), .int (nI ol), .ref n10])), (n1, aI G 5 hh), (n2, aZ G 50 dw), (n3, aZ G 50 mw), (n4, aZ G 50 ig), (n5, aI G 50 gl), (n6, aI G 50 gr), (n7, aI G 3 iv), (n8, aI G 6 lw), (n9, aI G 6 xw), (q, .inr (4, [.ref a1, .ref a2, .int (nI us), .int (nI pw)])), (a1, aB G 400 tx), (a2, aI G 5 nw)] → va_S A s.heap H locs → lv_has ls 5 [(0, .ref qn), (1, .ref q), (2, .int (nI k))] → W p l e R s m args below meth c H locs 0 0 Q (F0 m 2 ls []) := by
      intro n
      induction n with
      | zero => intro k nw pw dw mw lw xw sw H locs ls hmu; omega
      | succ n ih =>
        intro k nw pw dw mw lw xw sw H locs ls hmu hk hpw hpu ho hs hP hD hS hl
        have ih2 := ih
        clear ih
        have g0 := hH 0 (by omega)
        have g1 := hH 1 (by omega)
        have g2 := hH 2 (by omega)
        have g3 := hH 3 (by omega)
        have g4 := hH 4 (by omega)
        have t0 := hd_lt (lk tx us) 0
        have t1 := hd_lt (lk tx us) 1
        have t2 := hd_lt (lk tx us) 2
        have t3 := hd_lt (lk tx us) 3
        have t4 := hd_lt (lk tx us) 4
        refine lv_iload_n hx hb dN_readLatches_2 rfl (lv_at hl 2 rfl) ?_
        refine lv_aload_n hx hb dN_readLatches_3 rfl (lv_at hl 0 rfl) ?_
        refine va_get (D := gD G) (ci := 3) (v := .ref n1) (C := "CircuitProver$Netlist") (T := TN) (N := 12) hx hb htb inN hown hK hP 0 rfl rfl 0 (by decide) (htb _ b55) (fun _ h9 => h9) rfl dN_readLatches_4 ?_
        refine lv_iconst (v := nI 2) hx hb dN_readLatches_7 (by decide) ?_
        refine k_iald hx hb hK hP 1 rfl (k := 2) (by omega) (by decide) dN_readLatches_8 ?_
        refine lv_icmp_ge (tgt := 131) hx hb dN_readLatches_9 rfl (fun h9 => ?_) (fun h9 => ?_)
        · have h9 : hh 2 ≤ k := (nI_leI (a := hh 2) (b := k) (by omega) (by omega)).mp h9
          refine lv_iconst (v := nI 1) hx hb dN_readLatches_131 (by decide) ?_
          -- end 0
          rw [← hQ]
          exact k_iret hx hb hr hlocks (by decide) (u := (dw, mw, lw, xw, sw, nw, pw)) (Or.inl ⟨dw, mw, lw, xw, sw, nw, pw, by rw [show hd (lk tx us) 2 = k by omega]; exact ho, by rw [show hd (lk tx us) 2 = k by omega]; exact hs, by unfold e2; rw [show hd (lk tx us) 2 = k by omega]; exact hpw, hpu, rfl, rfl⟩) hP hD hK hS dN_readLatches_132
        · have h9 : k < hh 2 := Nat.lt_of_not_le (fun z => h9 ((nI_leI (a := hh 2) (b := k) (by omega) (by omega)).mpr z))
          refine lv_aload_n hx hb dN_readLatches_12 rfl (lv_at hl 1 rfl) ?_
          refine k_i (ws2 := fun u => [(qn, .inr (3, [.ref n1, .ref n2, .ref n3, .ref n4, .ref n5, .ref n6, .ref n7, .ref n8, .ref n9, .int (nI sw), .int (nI ol), .ref n10])), (n1, aI G 5 hh), (n2, aZ G 50 dw), (n3, aZ G 50 mw), (n4, aZ G 50 ig), (n5, aI G 50 gl), (n6, aI G 50 gr), (n7, aI G 3 iv), (n8, aI G 6 lw), (n9, aI G 6 xw), (q, .inr (4, [.ref a1, .ref a2, .int (nI us), .int (nI (u.2))])), (a1, aB G 400 tx), (a2, aI G 5 (u.1))]) (wr := [(qn, .inr (3, [.ref n1, .ref n2, .ref n3, .ref n4, .ref n5, .ref n6, .ref n7, .ref n8, .ref n9, .int (nI sw), .int (nI ol), .ref n10])), (n1, aI G 5 hh), (n2, aZ G 50 dw), (n3, aZ G 50 mw), (n4, aZ G 50 ig), (n5, aI G 50 gl), (n6, aI G 50 gr), (n7, aI G 3 iv), (n8, aI G 6 lw), (n9, aI G 6 xw)]) (k_runV (n := 0) (As := []) (rest := []) hx hb hml hown htb hP hD hK hS hA hE (k_T_readLine l G H.size q a1 a2 tx nw us pw (show us ≤ 400 from by omega) (show pw ≤ us from by omega) (show ∀ j, tx j < 128 from by omega)) b258 b259 b260 b2 b261 (by decide +kernel) rfl rfl ⟨by rw [hRf]; exact Nat.le_of_ble_eq_true rfl, by rw [hRl]; exact Nat.le_of_ble_eq_true rfl⟩ [10, 11, 12] rfl (by decide) 10 rfl rfl rfl rfl hl.1 rfl (Nat.le_of_ble_eq_true rfl) dN_readLatches_13 ⟨Nat.zero_le _, Nat.zero_le _⟩) hP hD hS hA [10, 11, 12] [0, 1, 2, 3, 4, 5, 6, 7, 8, 9] [0, 1, 2, 3, 4, 5, 6, 7, 8, 9, 10, 11, 12] rfl rfl (by decide) (by decide) (fun u => rfl) (by decide) (fun r u H locs hw hP hD hS => ?_)
          rcases hw with ⟨li13, z13, nn13, hc13_e, hc13_a, rfl, rfl⟩ | ⟨z13, nn13, hc13_e, hc13_b, rfl, rfl⟩
          · skip
            have hP : va_P (gD G) vC [(qn, .inr (3, [.ref n1, .ref n2, .ref n3, .ref n4, .ref n5, .ref n6, .ref n7, .ref n8, .ref n9, .int (nI sw), .int (nI ol), .ref n10])), (n1, aI G 5 hh), (n2, aZ G 50 dw), (n3, aZ G 50 mw), (n4, aZ G 50 ig), (n5, aI G 50 gl), (n6, aI G 50 gr), (n7, aI G 3 iv), (n8, aI G 6 lw), (n9, aI G 6 xw), (q, .inr (4, [.ref a1, .ref a2, .int (nI us), .int (nI z13)])), (a1, aB G 400 tx), (a2, aI G 5 nn13)] H := hP
            have hD : va_D A [(qn, .inr (3, [.ref n1, .ref n2, .ref n3, .ref n4, .ref n5, .ref n6, .ref n7, .ref n8, .ref n9, .int (nI sw), .int (nI ol), .ref n10])), (n1, aI G 5 hh), (n2, aZ G 50 dw), (n3, aZ G 50 mw), (n4, aZ G 50 ig), (n5, aI G 50 gl), (n6, aI G 50 gr), (n7, aI G 3 iv), (n8, aI G 6 lw), (n9, aI G 6 xw), (q, .inr (4, [.ref a1, .ref a2, .int (nI us), .int (nI z13)])), (a1, aB G 400 tx), (a2, aI G 5 nn13)] := hD
            have hx13 := lnF_ex hc13_e
            have hz13 := lnF_le hc13_e
            refine lv_istore_n (lv' := [(3, .int (nI li13.length)), (0, .ref qn), (1, .ref q), (2, .int (nI k))]) hx hb dN_readLatches_16 rfl hl (by decide) rfl (fun ls hl => ?_)
            refine lv_iload_n hx hb dN_readLatches_17 rfl (lv_at hl 0 rfl) ?_
            refine lv_iconst (v := nI 3) hx hb dN_readLatches_18 (by decide) ?_
            refine lv_icmp_ne (tgt := 31) hx hb dN_readLatches_19 rfl (fun h19 => ?_) (fun h19 => ?_)
            · have h19 : ¬ li13.length = 3 := fun z => h19 ((nI_eq (a := li13.length) (b := 3) (by omega) (by omega)).mpr z)
              refine lv_iconst (v := nI 0) hx hb dN_readLatches_31 (by decide) ?_
              refine lv_istore (lv' := [(4, .int (nI 0)), (3, .int (nI li13.length)), (0, .ref qn), (1, .ref q), (2, .int (nI k))]) hx hb dN_readLatches_32 hl (by decide) rfl (fun ls hl => ?_)
              refine lv_iload_n hx hb dN_readLatches_34 rfl (lv_at hl 1 rfl) ?_
              refine lv_iconst (v := nI 2) hx hb dN_readLatches_35 (by decide) ?_
              refine lv_icmp_lt (tgt := 50) hx hb dN_readLatches_36 rfl (fun h36 => ?_) (fun h36 => ?_)
              · have h36 : li13.length < 2 := (nI_ltI (a := li13.length) (b := 2) (by omega) (by omega)).mp h36
                refine lv_iconst (v := nI 0) hx hb dN_readLatches_50 (by decide) ?_
                -- end 1
                rw [← hQ]
                exact k_iret hx hb hr hlocks (by decide) (u := (dw, mw, lw, xw, sw, nn13, z13)) (Or.inr ⟨_, _, _, _, _, _, _, no_ln2 (k := k) (by omega) (by rw [← hpw]; exact la_none2 hc13_e (by omega) (by omega)), hz13, rfl, rfl⟩) hP hD hK hS dN_readLatches_51
              · have h36 : 2 ≤ li13.length := Nat.le_of_not_lt (fun z => h36 ((nI_ltI (a := li13.length) (b := 2) (by omega) (by omega)).mpr z))
                refine lv_iload_n hx hb dN_readLatches_39 rfl (lv_at hl 1 rfl) ?_
                refine lv_iconst (v := nI 3) hx hb dN_readLatches_40 (by decide) ?_
                refine lv_icmp_gt (tgt := 50) hx hb dN_readLatches_41 rfl (fun h41 => ?_) (fun h41 => ?_)
                · have h41 : 3 < li13.length := (nI_ltI (a := 3) (b := li13.length) (by omega) (by omega)).mp h41
                  refine lv_iconst (v := nI 0) hx hb dN_readLatches_50 (by decide) ?_
                  -- end 2
                  rw [← hQ]
                  exact k_iret hx hb hr hlocks (by decide) (u := (dw, mw, lw, xw, sw, nn13, z13)) (Or.inr ⟨_, _, _, _, _, _, _, no_ln2 (k := k) (by omega) (by rw [← hpw]; exact la_none2 hc13_e (by omega) (by omega)), hz13, rfl, rfl⟩) hP hD hK hS dN_readLatches_51
                · have h41 : li13.length ≤ 3 := Nat.le_of_not_lt (fun z => h41 ((nI_ltI (a := 3) (b := li13.length) (by omega) (by omega)).mpr z))
                  obtain ⟨l9, hLn, hy0, hy1, hy2⟩ : ∃ l9, laF (lk tx us) (pos (laF (lk tx us)) (e1 (lk tx us)) k) = some (l9, z13) ∧ nn13 0 = xla (lk tx us) k 0 ∧ nn13 1 = xla (lk tx us) k 1 ∧ 0 = xla (lk tx us) k 2 := by first | exact ⟨_, la_vals3 hpw hc13_e (by omega) hc13_a⟩ | exact ⟨_, la_vals2 hpw hc13_e (by omega) hc13_a⟩
                  have hxl0 := xla_lt (lk tx us) k 0
                  have hxl1 := xla_lt (lk tx us) k 1
                  have hxl2 := xla_lt (lk tx us) k 2
                  refine lv_iload hx hb dN_readLatches_44 (lv_at hl 0 rfl) ?_
                  refine lv_iconst (v := nI 1) hx hb dN_readLatches_46 (by decide) ?_
                  refine lv_icmp_le (tgt := 52) hx hb dN_readLatches_47 rfl (fun _ => ?_) (fun h47 => (by revert h47; first | decide | exact fun z => absurd z (by decide) | exact fun z => z.elim (by decide)))
                  refine lv_aload_n hx hb dN_readLatches_52 rfl (lv_at hl 2 rfl) ?_
                  refine lv_aload_n hx hb dN_readLatches_53 rfl (lv_at hl 3 rfl) ?_
                  refine va_getN (D := gD G) (ci := 4) (v := .ref a2) (C := "CircuitProver$Text") (T := TT) (N := 4) hx hb htb inT hown hK hP 10 rfl rfl 1 (by decide) (va_Nw.use rfl (hE.nw n34)) (fun _ h9 => h9) rfl dN_readLatches_54 ?_
                  refine lv_iconst (v := nI 0) hx hb dN_readLatches_57 (by decide) ?_
                  refine k_iald hx hb hK hP 12 rfl (k := 0) (by omega) (by decide) dN_readLatches_58 ?_
                  refine k_i (ws2 := fun u => [(qn, .inr (3, [.ref n1, .ref n2, .ref n3, .ref n4, .ref n5, .ref n6, .ref n7, .ref n8, .ref n9, .int (nI sw), .int (nI ol), .ref n10])), (n1, aI G 5 hh), (n2, aZ G 50 (u)), (n3, aZ G 50 mw), (n4, aZ G 50 ig), (n5, aI G 50 gl), (n6, aI G 50 gr), (n7, aI G 3 iv), (n8, aI G 6 lw), (n9, aI G 6 xw), (q, .inr (4, [.ref a1, .ref a2, .int (nI us), .int (nI z13)])), (a1, aB G 400 tx), (a2, aI G 5 nn13)]) (wr := [(n3, aZ G 50 mw), (n4, aZ G 50 ig), (n5, aI G 50 gl), (n6, aI G 50 gr), (n7, aI G 3 iv), (n8, aI G 6 lw), (n9, aI G 6 xw), (q, .inr (4, [.ref a1, .ref a2, .int (nI us), .int (nI z13)])), (a1, aB G 400 tx), (a2, aI G 5 nn13)]) (k_runV (n := 1) (As := [.int (nI (nn13 0))]) (rest := []) hx hb hml hown htb hP hD hK hS hA hE (k_N_define l G H.size qn n1 n2 n3 n4 n5 n6 n7 n8 n9 n10 sw ol hh dw (nn13 0) (show (nn13 0) < 100 from by omega) (show hh 0 < 100 from by omega)) b278 b280 s5 b3 b281 (by decide +kernel) rfl rfl ⟨by rw [hRf]; exact Nat.le_of_ble_eq_true rfl, by rw [hRl]; exact Nat.le_of_ble_eq_true rfl⟩ [0, 1, 2] rfl (by decide) 0 rfl rfl rfl rfl hl.1 rfl (Nat.le_of_ble_eq_true rfl) dN_readLatches_59 ⟨Nat.zero_le _, Nat.zero_le _⟩) hP hD hS hA [0, 1, 2] [3, 4, 5, 6, 7, 8, 9, 10, 11, 12] [10, 11, 12, 0, 1, 2, 3, 4, 5, 6, 7, 8, 9] rfl rfl (by decide) (by decide) (fun u => rfl) (by decide) (fun r u H locs hw hP hD hS => ?_)
                  rcases hw with ⟨hc59_e, rfl, rfl⟩ | ⟨hc59_e, rfl, rfl⟩
                  · skip
                    have hP : va_P (gD G) vC [(qn, .inr (3, [.ref n1, .ref n2, .ref n3, .ref n4, .ref n5, .ref n6, .ref n7, .ref n8, .ref n9, .int (nI sw), .int (nI ol), .ref n10])), (n1, aI G 5 hh), (n2, aZ G 50 (va_up dw ((nn13 0) / 2) true)), (n3, aZ G 50 mw), (n4, aZ G 50 ig), (n5, aI G 50 gl), (n6, aI G 50 gr), (n7, aI G 3 iv), (n8, aI G 6 lw), (n9, aI G 6 xw), (q, .inr (4, [.ref a1, .ref a2, .int (nI us), .int (nI z13)])), (a1, aB G 400 tx), (a2, aI G 5 nn13)] H := hP
                    have hD : va_D A [(qn, .inr (3, [.ref n1, .ref n2, .ref n3, .ref n4, .ref n5, .ref n6, .ref n7, .ref n8, .ref n9, .int (nI sw), .int (nI ol), .ref n10])), (n1, aI G 5 hh), (n2, aZ G 50 (va_up dw ((nn13 0) / 2) true)), (n3, aZ G 50 mw), (n4, aZ G 50 ig), (n5, aI G 50 gl), (n6, aI G 50 gr), (n7, aI G 3 iv), (n8, aI G 6 lw), (n9, aI G 6 xw), (q, .inr (4, [.ref a1, .ref a2, .int (nI us), .int (nI z13)])), (a1, aB G 400 tx), (a2, aI G 5 nn13)] := hD
                    refine lv_if_eq (tgt := 78) hx hb dN_readLatches_62 rfl (fun h62 => (by revert h62; first | decide | exact fun z => absurd z (by decide) | exact fun z => z.elim (by decide))) (fun _ => ?_)
                    refine lv_aload_n hx hb dN_readLatches_65 rfl (lv_at hl 2 rfl) ?_
                    refine lv_aload_n hx hb dN_readLatches_66 rfl (lv_at hl 3 rfl) ?_
                    refine va_getN (D := gD G) (ci := 4) (v := .ref a2) (C := "CircuitProver$Text") (T := TT) (N := 4) hx hb htb inT hown hK hP 10 rfl rfl 1 (by decide) (va_Nw.use rfl (hE.nw n34)) (fun _ h9 => h9) rfl dN_readLatches_67 ?_
                    refine lv_iconst (v := nI 1) hx hb dN_readLatches_70 (by decide) ?_
                    refine k_iald hx hb hK hP 12 rfl (k := 1) (by omega) (by decide) dN_readLatches_71 ?_
                    refine k_i (ws2 := fun u => [(qn, .inr (3, [.ref n1, .ref n2, .ref n3, .ref n4, .ref n5, .ref n6, .ref n7, .ref n8, .ref n9, .int (nI sw), .int (nI ol), .ref n10])), (n1, aI G 5 hh), (n2, aZ G 50 (va_up dw ((nn13 0) / 2) true)), (n3, aZ G 50 (u)), (n4, aZ G 50 ig), (n5, aI G 50 gl), (n6, aI G 50 gr), (n7, aI G 3 iv), (n8, aI G 6 lw), (n9, aI G 6 xw), (q, .inr (4, [.ref a1, .ref a2, .int (nI us), .int (nI z13)])), (a1, aB G 400 tx), (a2, aI G 5 nn13)]) (wr := [(n2, aZ G 50 (va_up dw ((nn13 0) / 2) true)), (n4, aZ G 50 ig), (n5, aI G 50 gl), (n6, aI G 50 gr), (n7, aI G 3 iv), (n8, aI G 6 lw), (n9, aI G 6 xw), (q, .inr (4, [.ref a1, .ref a2, .int (nI us), .int (nI z13)])), (a1, aB G 400 tx), (a2, aI G 5 nn13)]) (k_runV (n := 1) (As := [.int (nI (nn13 1))]) (rest := []) hx hb hml hown htb hP hD hK hS hA hE (k_N_mention l G H.size qn n1 n2 n3 n4 n5 n6 n7 n8 n9 n10 sw ol hh mw (nn13 1) (show (nn13 1) < 100 from by omega) (show hh 0 < 100 from by omega)) b290 b292 s8 b3 b293 (by decide +kernel) rfl rfl ⟨by rw [hRf]; exact Nat.le_of_ble_eq_true rfl, by rw [hRl]; exact Nat.le_of_ble_eq_true rfl⟩ [0, 1, 3] rfl (by decide) 0 rfl rfl rfl rfl hl.1 rfl (Nat.le_of_ble_eq_true rfl) dN_readLatches_72 ⟨Nat.zero_le _, Nat.zero_le _⟩) hP hD hS hA [0, 1, 3] [2, 4, 5, 6, 7, 8, 9, 10, 11, 12] [10, 11, 0, 12, 1, 2, 3, 4, 5, 6, 7, 8, 9] rfl rfl (by decide) (by decide) (fun u => rfl) (by decide) (fun r u H locs hw hP hD hS => ?_)
                    rcases hw with ⟨hc72_e, rfl, rfl⟩ | ⟨hc72_e, rfl, rfl⟩
                    · skip
                      have hP : va_P (gD G) vC [(qn, .inr (3, [.ref n1, .ref n2, .ref n3, .ref n4, .ref n5, .ref n6, .ref n7, .ref n8, .ref n9, .int (nI sw), .int (nI ol), .ref n10])), (n1, aI G 5 hh), (n2, aZ G 50 (va_up dw ((nn13 0) / 2) true)), (n3, aZ G 50 (va_up mw ((nn13 1) / 2) true)), (n4, aZ G 50 ig), (n5, aI G 50 gl), (n6, aI G 50 gr), (n7, aI G 3 iv), (n8, aI G 6 lw), (n9, aI G 6 xw), (q, .inr (4, [.ref a1, .ref a2, .int (nI us), .int (nI z13)])), (a1, aB G 400 tx), (a2, aI G 5 nn13)] H := hP
                      have hD : va_D A [(qn, .inr (3, [.ref n1, .ref n2, .ref n3, .ref n4, .ref n5, .ref n6, .ref n7, .ref n8, .ref n9, .int (nI sw), .int (nI ol), .ref n10])), (n1, aI G 5 hh), (n2, aZ G 50 (va_up dw ((nn13 0) / 2) true)), (n3, aZ G 50 (va_up mw ((nn13 1) / 2) true)), (n4, aZ G 50 ig), (n5, aI G 50 gl), (n6, aI G 50 gr), (n7, aI G 3 iv), (n8, aI G 6 lw), (n9, aI G 6 xw), (q, .inr (4, [.ref a1, .ref a2, .int (nI us), .int (nI z13)])), (a1, aB G 400 tx), (a2, aI G 5 nn13)] := hD
                      refine lv_if_ne (tgt := 80) hx hb dN_readLatches_75 rfl (fun _ => ?_) (fun h75 => (by revert h75; first | decide | exact fun z => absurd z (by decide) | exact fun z => z.elim (by decide)))
                      have hdG : dGood (lk tx us) dw (xla (lk tx us) k 0) := by (have q := hc59_e); rw [hy0, g0] at q; exact q
                      refine lv_iload_n hx hb dN_readLatches_80 rfl (lv_at hl 4 rfl) ?_
                      refine lv_bipush (v := nI 6) hx hb dN_readLatches_81 (by decide) ?_
                      refine lv_icmp_ge (tgt := 125) hx hb dN_readLatches_83 rfl (fun h83 => ?_) (fun h83 => ?_)
                      · have h83 : 6 ≤ k := (nI_leI (a := 6) (b := k) (by omega) (by omega)).mp h83
                        refine lv_iinc (v := nI (k + 1)) (lv' := [(2, .int (nI (k + 1))), (4, .int (nI 0)), (3, .int (nI li13.length)), (0, .ref qn), (1, .ref q)]) hx hb dN_readLatches_125 hl (k := 4) rfl (nI_add _ 1) (by decide) rfl (fun ls hl => ?_)
                        refine lv_goto (tgt := 2) hx hb dN_readLatches_128 rfl ?_
                        have hl : lv_has ls 5 [(0, .ref qn), (1, .ref q), (2, .int (nI (k + 1)))] := lv_sub hl [3, 4, 0] rfl
                        exact ih2 (k + 1) nn13 z13 (va_up dw ((nn13 0) / 2) true) (va_up mw ((nn13 1) / 2) true) lw xw sw _ _ _ (by omega) (by omega) ((pos_s hLn).symm) (by omega) (okl_s ho hLn) (by rw [hy0, hy1]; first | exact nS_la (by omega) hs (by omega) hdG (by omega) (fun j h1 h2 => ⟨va_up_ne _ _ (by omega), va_up_ne _ _ (by omega)⟩) (fun _ => ⟨va_up_self _ _ _, va_up_self _ _ _⟩) (by rw [if_pos (by omega), ← hy2]) | exact nS_la (by omega) hs (by omega) hdG (by omega) (fun j h1 h2 => ⟨rfl, rfl⟩) (fun h => by omega) (by rw [if_neg (by omega)])) hP hD hS hl
                      · have h83 : k < 6 := Nat.lt_of_not_le (fun z => h83 ((nI_leI (a := 6) (b := k) (by omega) (by omega)).mpr z))
                        refine lv_aload_n hx hb dN_readLatches_86 rfl (lv_at hl 2 rfl) ?_
                        refine va_get (D := gD G) (ci := 3) (v := .ref n8) (C := "CircuitProver$Netlist") (T := TN) (N := 12) hx hb htb inN hown hK hP 0 rfl rfl 7 (by decide) (htb _ b63) (fun _ h9 => h9) rfl dN_readLatches_87 ?_
                        refine lv_iload_n hx hb dN_readLatches_90 rfl (lv_at hl 4 rfl) ?_
                        refine lv_aload_n hx hb dN_readLatches_91 rfl (lv_at hl 3 rfl) ?_
                        refine va_getN (D := gD G) (ci := 4) (v := .ref a2) (C := "CircuitProver$Text") (T := TT) (N := 4) hx hb htb inT hown hK hP 10 rfl rfl 1 (by decide) (va_Nw.use rfl (hE.nw n34)) (fun _ h9 => h9) rfl dN_readLatches_92 ?_
                        refine lv_iconst (v := nI 0) hx hb dN_readLatches_95 (by decide) ?_
                        refine k_iald hx hb hK hP 12 rfl (k := 0) (by omega) (by decide) dN_readLatches_96 ?_
                        refine lv_iconst (v := nI 1) hx hb dN_readLatches_97 (by decide) ?_
                        refine lv_ishr hx hb dN_readLatches_98 ?_
                        refine k_toi (y := nI ((nn13 0) / 2)) (pk_shrN (by omega) _ 1 (by decide)) ?_
                        refine k_iast hx hb hK hP hD hS 8 rfl (k := k) (v := (nn13 0) / 2) (by omega) (by decide) dN_readLatches_99 (fun H locs hP hD hS => ?_)
                        have hP : va_P (gD G) vC [(qn, .inr (3, [.ref n1, .ref n2, .ref n3, .ref n4, .ref n5, .ref n6, .ref n7, .ref n8, .ref n9, .int (nI sw), .int (nI ol), .ref n10])), (n1, aI G 5 hh), (n2, aZ G 50 (va_up dw ((nn13 0) / 2) true)), (n3, aZ G 50 (va_up mw ((nn13 1) / 2) true)), (n4, aZ G 50 ig), (n5, aI G 50 gl), (n6, aI G 50 gr), (n7, aI G 3 iv), (n8, aI G 6 (va_up lw k ((nn13 0) / 2))), (n9, aI G 6 xw), (q, .inr (4, [.ref a1, .ref a2, .int (nI us), .int (nI z13)])), (a1, aB G 400 tx), (a2, aI G 5 nn13)] H := hP
                        have hD : va_D A [(qn, .inr (3, [.ref n1, .ref n2, .ref n3, .ref n4, .ref n5, .ref n6, .ref n7, .ref n8, .ref n9, .int (nI sw), .int (nI ol), .ref n10])), (n1, aI G 5 hh), (n2, aZ G 50 (va_up dw ((nn13 0) / 2) true)), (n3, aZ G 50 (va_up mw ((nn13 1) / 2) true)), (n4, aZ G 50 ig), (n5, aI G 50 gl), (n6, aI G 50 gr), (n7, aI G 3 iv), (n8, aI G 6 (va_up lw k ((nn13 0) / 2))), (n9, aI G 6 xw), (q, .inr (4, [.ref a1, .ref a2, .int (nI us), .int (nI z13)])), (a1, aB G 400 tx), (a2, aI G 5 nn13)] := hD
                        refine lv_aload_n hx hb dN_readLatches_100 rfl (lv_at hl 2 rfl) ?_
                        refine va_get (D := gD G) (ci := 3) (v := .ref n9) (C := "CircuitProver$Netlist") (T := TN) (N := 12) hx hb htb inN hown hK hP 0 rfl rfl 8 (by decide) (htb _ b64) (fun _ h9 => h9) rfl dN_readLatches_101 ?_
                        refine lv_iload_n hx hb dN_readLatches_104 rfl (lv_at hl 4 rfl) ?_
                        refine lv_aload_n hx hb dN_readLatches_105 rfl (lv_at hl 3 rfl) ?_
                        refine va_getN (D := gD G) (ci := 4) (v := .ref a2) (C := "CircuitProver$Text") (T := TT) (N := 4) hx hb htb inT hown hK hP 10 rfl rfl 1 (by decide) (va_Nw.use rfl (hE.nw n34)) (fun _ h9 => h9) rfl dN_readLatches_106 ?_
                        refine lv_iconst (v := nI 1) hx hb dN_readLatches_109 (by decide) ?_
                        refine k_iald hx hb hK hP 12 rfl (k := 1) (by omega) (by decide) dN_readLatches_110 ?_
                        refine k_iast hx hb hK hP hD hS 9 rfl (k := k) (v := nn13 1) (by omega) (by decide) dN_readLatches_111 (fun H locs hP hD hS => ?_)
                        have hP : va_P (gD G) vC [(qn, .inr (3, [.ref n1, .ref n2, .ref n3, .ref n4, .ref n5, .ref n6, .ref n7, .ref n8, .ref n9, .int (nI sw), .int (nI ol), .ref n10])), (n1, aI G 5 hh), (n2, aZ G 50 (va_up dw ((nn13 0) / 2) true)), (n3, aZ G 50 (va_up mw ((nn13 1) / 2) true)), (n4, aZ G 50 ig), (n5, aI G 50 gl), (n6, aI G 50 gr), (n7, aI G 3 iv), (n8, aI G 6 (va_up lw k ((nn13 0) / 2))), (n9, aI G 6 (va_up xw k (nn13 1))), (q, .inr (4, [.ref a1, .ref a2, .int (nI us), .int (nI z13)])), (a1, aB G 400 tx), (a2, aI G 5 nn13)] H := hP
                        have hD : va_D A [(qn, .inr (3, [.ref n1, .ref n2, .ref n3, .ref n4, .ref n5, .ref n6, .ref n7, .ref n8, .ref n9, .int (nI sw), .int (nI ol), .ref n10])), (n1, aI G 5 hh), (n2, aZ G 50 (va_up dw ((nn13 0) / 2) true)), (n3, aZ G 50 (va_up mw ((nn13 1) / 2) true)), (n4, aZ G 50 ig), (n5, aI G 50 gl), (n6, aI G 50 gr), (n7, aI G 3 iv), (n8, aI G 6 (va_up lw k ((nn13 0) / 2))), (n9, aI G 6 (va_up xw k (nn13 1))), (q, .inr (4, [.ref a1, .ref a2, .int (nI us), .int (nI z13)])), (a1, aB G 400 tx), (a2, aI G 5 nn13)] := hD
                        refine lv_aload_n hx hb dN_readLatches_112 rfl (lv_at hl 2 rfl) ?_
                        refine lv_dup hx hb dN_readLatches_113 rfl ?_
                        refine va_get (D := gD G) (ci := 3) (v := .int (nI sw)) (C := "CircuitProver$Netlist") (T := TN) (N := 12) hx hb htb inN hown hK hP 0 rfl rfl 9 (by decide) (htb _ b67) (fun _ h9 => h9) rfl dN_readLatches_114 ?_
                        refine lv_iload hx hb dN_readLatches_117 (lv_at hl 0 rfl) ?_
                        refine lv_iload_n hx hb dN_readLatches_119 rfl (lv_at hl 4 rfl) ?_
                        refine lv_ishl hx hb dN_readLatches_120 ?_
                        refine k_toi (y := nI (0 * 2 ^ k)) (shn (by omega) (shl_b (by omega) (by omega))) ?_
                        refine lv_ior hx hb dN_readLatches_121 ?_
                        refine k_toi (y := nI (sw ||| (0 * 2 ^ k))) (nx_or _ _) ?_
                        refine va_put (D := gD G) (ci := 3) (v := .int (nI (sw ||| (0 * 2 ^ k)))) (ty := tyN 9) (C := "CircuitProver$Netlist") (T := TN) (N := 12) hx hb htb inN tyN tyN_ok nmN hown hK hP hD hS 0 rfl rfl 9 (by decide) (htb _ b67) (fun _ h9 => h9) rfl (tyN_ok 9 (by decide)) rfl rfl (Nat.le_of_ble_eq_true rfl) dN_readLatches_122 (fun H locs hP hD hS => ?_)
                        have hP : va_P (gD G) vC [(qn, .inr (3, [.ref n1, .ref n2, .ref n3, .ref n4, .ref n5, .ref n6, .ref n7, .ref n8, .ref n9, .int (nI (sw ||| (0 * 2 ^ k))), .int (nI ol), .ref n10])), (n1, aI G 5 hh), (n2, aZ G 50 (va_up dw ((nn13 0) / 2) true)), (n3, aZ G 50 (va_up mw ((nn13 1) / 2) true)), (n4, aZ G 50 ig), (n5, aI G 50 gl), (n6, aI G 50 gr), (n7, aI G 3 iv), (n8, aI G 6 (va_up lw k ((nn13 0) / 2))), (n9, aI G 6 (va_up xw k (nn13 1))), (q, .inr (4, [.ref a1, .ref a2, .int (nI us), .int (nI z13)])), (a1, aB G 400 tx), (a2, aI G 5 nn13)] H := hP
                        have hD : va_D A [(qn, .inr (3, [.ref n1, .ref n2, .ref n3, .ref n4, .ref n5, .ref n6, .ref n7, .ref n8, .ref n9, .int (nI (sw ||| (0 * 2 ^ k))), .int (nI ol), .ref n10])), (n1, aI G 5 hh), (n2, aZ G 50 (va_up dw ((nn13 0) / 2) true)), (n3, aZ G 50 (va_up mw ((nn13 1) / 2) true)), (n4, aZ G 50 ig), (n5, aI G 50 gl), (n6, aI G 50 gr), (n7, aI G 3 iv), (n8, aI G 6 (va_up lw k ((nn13 0) / 2))), (n9, aI G 6 (va_up xw k (nn13 1))), (q, .inr (4, [.ref a1, .ref a2, .int (nI us), .int (nI z13)])), (a1, aB G 400 tx), (a2, aI G 5 nn13)] := hD
                        refine lv_iinc (v := nI (k + 1)) (lv' := [(2, .int (nI (k + 1))), (4, .int (nI 0)), (3, .int (nI li13.length)), (0, .ref qn), (1, .ref q)]) hx hb dN_readLatches_125 hl (k := 4) rfl (nI_add _ 1) (by decide) rfl (fun ls hl => ?_)
                        refine lv_goto (tgt := 2) hx hb dN_readLatches_128 rfl ?_
                        have hl : lv_has ls 5 [(0, .ref qn), (1, .ref q), (2, .int (nI (k + 1)))] := lv_sub hl [3, 4, 0] rfl
                        exact ih2 (k + 1) nn13 z13 (va_up dw ((nn13 0) / 2) true) (va_up mw ((nn13 1) / 2) true) (va_up lw k ((nn13 0) / 2)) (va_up xw k (nn13 1)) (sw ||| (0 * 2 ^ k)) _ _ _ (by omega) (by omega) ((pos_s hLn).symm) (by omega) (okl_s ho hLn) (by rw [hy0, hy1]; first | exact nS_la (by omega) hs (by omega) hdG (by omega) (fun j h1 h2 => ⟨va_up_ne _ _ (by omega), va_up_ne _ _ (by omega)⟩) (fun _ => ⟨va_up_self _ _ _, va_up_self _ _ _⟩) (by rw [if_pos (by omega), ← hy2]) | exact nS_la (by omega) hs (by omega) hdG (by omega) (fun j h1 h2 => ⟨rfl, rfl⟩) (fun h => by omega) (by rw [if_neg (by omega)])) hP hD hS hl
                    · skip
                      have hP : va_P (gD G) vC [(qn, .inr (3, [.ref n1, .ref n2, .ref n3, .ref n4, .ref n5, .ref n6, .ref n7, .ref n8, .ref n9, .int (nI sw), .int (nI ol), .ref n10])), (n1, aI G 5 hh), (n2, aZ G 50 (va_up dw ((nn13 0) / 2) true)), (n3, aZ G 50 mw), (n4, aZ G 50 ig), (n5, aI G 50 gl), (n6, aI G 50 gr), (n7, aI G 3 iv), (n8, aI G 6 lw), (n9, aI G 6 xw), (q, .inr (4, [.ref a1, .ref a2, .int (nI us), .int (nI z13)])), (a1, aB G 400 tx), (a2, aI G 5 nn13)] H := hP
                      have hD : va_D A [(qn, .inr (3, [.ref n1, .ref n2, .ref n3, .ref n4, .ref n5, .ref n6, .ref n7, .ref n8, .ref n9, .int (nI sw), .int (nI ol), .ref n10])), (n1, aI G 5 hh), (n2, aZ G 50 (va_up dw ((nn13 0) / 2) true)), (n3, aZ G 50 mw), (n4, aZ G 50 ig), (n5, aI G 50 gl), (n6, aI G 50 gr), (n7, aI G 3 iv), (n8, aI G 6 lw), (n9, aI G 6 xw), (q, .inr (4, [.ref a1, .ref a2, .int (nI us), .int (nI z13)])), (a1, aB G 400 tx), (a2, aI G 5 nn13)] := hD
                      refine lv_if_ne (tgt := 80) hx hb dN_readLatches_75 rfl (fun h75 => (by revert h75; first | decide | exact fun z => absurd z (by decide) | exact fun z => z.elim (by decide))) (fun _ => ?_)
                      refine lv_iconst (v := nI 0) hx hb dN_readLatches_78 (by decide) ?_
                      -- end 3
                      rw [← hQ]
                      exact k_iret hx hb hr hlocks (by decide) (u := ((va_up dw ((nn13 0) / 2) true), mw, lw, xw, sw, nn13, z13)) (Or.inr ⟨_, _, _, _, _, _, _, no_la (by omega) hs (fun q => hc72_e (by rw [hy1, g0]; exact q.2.2)), hz13, rfl, rfl⟩) hP hD hK hS dN_readLatches_79
                  · skip
                    have hP : va_P (gD G) vC [(qn, .inr (3, [.ref n1, .ref n2, .ref n3, .ref n4, .ref n5, .ref n6, .ref n7, .ref n8, .ref n9, .int (nI sw), .int (nI ol), .ref n10])), (n1, aI G 5 hh), (n2, aZ G 50 dw), (n3, aZ G 50 mw), (n4, aZ G 50 ig), (n5, aI G 50 gl), (n6, aI G 50 gr), (n7, aI G 3 iv), (n8, aI G 6 lw), (n9, aI G 6 xw), (q, .inr (4, [.ref a1, .ref a2, .int (nI us), .int (nI z13)])), (a1, aB G 400 tx), (a2, aI G 5 nn13)] H := hP
                    have hD : va_D A [(qn, .inr (3, [.ref n1, .ref n2, .ref n3, .ref n4, .ref n5, .ref n6, .ref n7, .ref n8, .ref n9, .int (nI sw), .int (nI ol), .ref n10])), (n1, aI G 5 hh), (n2, aZ G 50 dw), (n3, aZ G 50 mw), (n4, aZ G 50 ig), (n5, aI G 50 gl), (n6, aI G 50 gr), (n7, aI G 3 iv), (n8, aI G 6 lw), (n9, aI G 6 xw), (q, .inr (4, [.ref a1, .ref a2, .int (nI us), .int (nI z13)])), (a1, aB G 400 tx), (a2, aI G 5 nn13)] := hD
                    refine lv_if_eq (tgt := 78) hx hb dN_readLatches_62 rfl (fun _ => ?_) (fun h62 => (by revert h62; first | decide | exact fun z => absurd z (by decide) | exact fun z => z.elim (by decide)))
                    refine lv_iconst (v := nI 0) hx hb dN_readLatches_78 (by decide) ?_
                    -- end 4
                    rw [← hQ]
                    exact k_iret hx hb hr hlocks (by decide) (u := (dw, mw, lw, xw, sw, nn13, z13)) (Or.inr ⟨_, _, _, _, _, _, _, no_la (by omega) hs (fun q => hc59_e (by rw [hy0, g0]; exact q.2.1)), hz13, rfl, rfl⟩) hP hD hK hS dN_readLatches_79
            · have h19 : li13.length = 3 := (nI_eq (a := li13.length) (b := 3) (by omega) (by omega)).mp h19
              refine lv_aload_n hx hb dN_readLatches_22 rfl (lv_at hl 2 rfl) ?_
              refine va_getN (D := gD G) (ci := 4) (v := .ref a2) (C := "CircuitProver$Text") (T := TT) (N := 4) hx hb htb inT hown hK hP 10 rfl rfl 1 (by decide) (va_Nw.use rfl (hE.nw n34)) (fun _ h9 => h9) rfl dN_readLatches_23 ?_
              refine lv_iconst (v := nI 2) hx hb dN_readLatches_26 (by decide) ?_
              refine k_iald hx hb hK hP 12 rfl (k := 2) (by omega) (by decide) dN_readLatches_27 ?_
              refine lv_goto (tgt := 32) hx hb dN_readLatches_28 rfl ?_
              refine lv_istore (lv' := [(4, .int (nI (nn13 2))), (3, .int (nI li13.length)), (0, .ref qn), (1, .ref q), (2, .int (nI k))]) hx hb dN_readLatches_32 hl (by decide) rfl (fun ls hl => ?_)
              refine lv_iload_n hx hb dN_readLatches_34 rfl (lv_at hl 1 rfl) ?_
              refine lv_iconst (v := nI 2) hx hb dN_readLatches_35 (by decide) ?_
              refine lv_icmp_lt (tgt := 50) hx hb dN_readLatches_36 rfl (fun h36 => ?_) (fun h36 => ?_)
              · have h36 : li13.length < 2 := (nI_ltI (a := li13.length) (b := 2) (by omega) (by omega)).mp h36
                refine lv_iconst (v := nI 0) hx hb dN_readLatches_50 (by decide) ?_
                -- end 5
                rw [← hQ]
                exact k_iret hx hb hr hlocks (by decide) (u := (dw, mw, lw, xw, sw, nn13, z13)) (by omega) hP hD hK hS dN_readLatches_51
              · have h36 : 2 ≤ li13.length := Nat.le_of_not_lt (fun z => h36 ((nI_ltI (a := li13.length) (b := 2) (by omega) (by omega)).mpr z))
                refine lv_iload_n hx hb dN_readLatches_39 rfl (lv_at hl 1 rfl) ?_
                refine lv_iconst (v := nI 3) hx hb dN_readLatches_40 (by decide) ?_
                refine lv_icmp_gt (tgt := 50) hx hb dN_readLatches_41 rfl (fun h41 => ?_) (fun h41 => ?_)
                · have h41 : 3 < li13.length := (nI_ltI (a := 3) (b := li13.length) (by omega) (by omega)).mp h41
                  refine lv_iconst (v := nI 0) hx hb dN_readLatches_50 (by decide) ?_
                  -- end 6
                  rw [← hQ]
                  exact k_iret hx hb hr hlocks (by decide) (u := (dw, mw, lw, xw, sw, nn13, z13)) (by omega) hP hD hK hS dN_readLatches_51
                · have h41 : li13.length ≤ 3 := Nat.le_of_not_lt (fun z => h41 ((nI_ltI (a := 3) (b := li13.length) (by omega) (by omega)).mpr z))
                  obtain ⟨l9, hLn, hy0, hy1, hy2⟩ : ∃ l9, laF (lk tx us) (pos (laF (lk tx us)) (e1 (lk tx us)) k) = some (l9, z13) ∧ nn13 0 = xla (lk tx us) k 0 ∧ nn13 1 = xla (lk tx us) k 1 ∧ nn13 2 = xla (lk tx us) k 2 := by first | exact ⟨_, la_vals3 hpw hc13_e (by omega) hc13_a⟩ | exact ⟨_, la_vals2 hpw hc13_e (by omega) hc13_a⟩
                  have hxl0 := xla_lt (lk tx us) k 0
                  have hxl1 := xla_lt (lk tx us) k 1
                  have hxl2 := xla_lt (lk tx us) k 2
                  refine lv_iload hx hb dN_readLatches_44 (lv_at hl 0 rfl) ?_
                  refine lv_iconst (v := nI 1) hx hb dN_readLatches_46 (by decide) ?_
                  refine lv_icmp_le (tgt := 52) hx hb dN_readLatches_47 rfl (fun h47 => ?_) (fun h47 => ?_)
                  · have h47 : nn13 2 ≤ 1 := (nI_leI (a := nn13 2) (b := 1) (by omega) (by omega)).mp h47
                    refine lv_aload_n hx hb dN_readLatches_52 rfl (lv_at hl 2 rfl) ?_
                    refine lv_aload_n hx hb dN_readLatches_53 rfl (lv_at hl 3 rfl) ?_
                    refine va_getN (D := gD G) (ci := 4) (v := .ref a2) (C := "CircuitProver$Text") (T := TT) (N := 4) hx hb htb inT hown hK hP 10 rfl rfl 1 (by decide) (va_Nw.use rfl (hE.nw n34)) (fun _ h9 => h9) rfl dN_readLatches_54 ?_
                    refine lv_iconst (v := nI 0) hx hb dN_readLatches_57 (by decide) ?_
                    refine k_iald hx hb hK hP 12 rfl (k := 0) (by omega) (by decide) dN_readLatches_58 ?_
                    refine k_i (ws2 := fun u => [(qn, .inr (3, [.ref n1, .ref n2, .ref n3, .ref n4, .ref n5, .ref n6, .ref n7, .ref n8, .ref n9, .int (nI sw), .int (nI ol), .ref n10])), (n1, aI G 5 hh), (n2, aZ G 50 (u)), (n3, aZ G 50 mw), (n4, aZ G 50 ig), (n5, aI G 50 gl), (n6, aI G 50 gr), (n7, aI G 3 iv), (n8, aI G 6 lw), (n9, aI G 6 xw), (q, .inr (4, [.ref a1, .ref a2, .int (nI us), .int (nI z13)])), (a1, aB G 400 tx), (a2, aI G 5 nn13)]) (wr := [(n3, aZ G 50 mw), (n4, aZ G 50 ig), (n5, aI G 50 gl), (n6, aI G 50 gr), (n7, aI G 3 iv), (n8, aI G 6 lw), (n9, aI G 6 xw), (q, .inr (4, [.ref a1, .ref a2, .int (nI us), .int (nI z13)])), (a1, aB G 400 tx), (a2, aI G 5 nn13)]) (k_runV (n := 1) (As := [.int (nI (nn13 0))]) (rest := []) hx hb hml hown htb hP hD hK hS hA hE (k_N_define l G H.size qn n1 n2 n3 n4 n5 n6 n7 n8 n9 n10 sw ol hh dw (nn13 0) (show (nn13 0) < 100 from by omega) (show hh 0 < 100 from by omega)) b278 b280 s5 b3 b281 (by decide +kernel) rfl rfl ⟨by rw [hRf]; exact Nat.le_of_ble_eq_true rfl, by rw [hRl]; exact Nat.le_of_ble_eq_true rfl⟩ [0, 1, 2] rfl (by decide) 0 rfl rfl rfl rfl hl.1 rfl (Nat.le_of_ble_eq_true rfl) dN_readLatches_59 ⟨Nat.zero_le _, Nat.zero_le _⟩) hP hD hS hA [0, 1, 2] [3, 4, 5, 6, 7, 8, 9, 10, 11, 12] [10, 11, 12, 0, 1, 2, 3, 4, 5, 6, 7, 8, 9] rfl rfl (by decide) (by decide) (fun u => rfl) (by decide) (fun r u H locs hw hP hD hS => ?_)
                    rcases hw with ⟨hc59_e, rfl, rfl⟩ | ⟨hc59_e, rfl, rfl⟩
                    · skip
                      have hP : va_P (gD G) vC [(qn, .inr (3, [.ref n1, .ref n2, .ref n3, .ref n4, .ref n5, .ref n6, .ref n7, .ref n8, .ref n9, .int (nI sw), .int (nI ol), .ref n10])), (n1, aI G 5 hh), (n2, aZ G 50 (va_up dw ((nn13 0) / 2) true)), (n3, aZ G 50 mw), (n4, aZ G 50 ig), (n5, aI G 50 gl), (n6, aI G 50 gr), (n7, aI G 3 iv), (n8, aI G 6 lw), (n9, aI G 6 xw), (q, .inr (4, [.ref a1, .ref a2, .int (nI us), .int (nI z13)])), (a1, aB G 400 tx), (a2, aI G 5 nn13)] H := hP
                      have hD : va_D A [(qn, .inr (3, [.ref n1, .ref n2, .ref n3, .ref n4, .ref n5, .ref n6, .ref n7, .ref n8, .ref n9, .int (nI sw), .int (nI ol), .ref n10])), (n1, aI G 5 hh), (n2, aZ G 50 (va_up dw ((nn13 0) / 2) true)), (n3, aZ G 50 mw), (n4, aZ G 50 ig), (n5, aI G 50 gl), (n6, aI G 50 gr), (n7, aI G 3 iv), (n8, aI G 6 lw), (n9, aI G 6 xw), (q, .inr (4, [.ref a1, .ref a2, .int (nI us), .int (nI z13)])), (a1, aB G 400 tx), (a2, aI G 5 nn13)] := hD
                      refine lv_if_eq (tgt := 78) hx hb dN_readLatches_62 rfl (fun h62 => (by revert h62; first | decide | exact fun z => absurd z (by decide) | exact fun z => z.elim (by decide))) (fun _ => ?_)
                      refine lv_aload_n hx hb dN_readLatches_65 rfl (lv_at hl 2 rfl) ?_
                      refine lv_aload_n hx hb dN_readLatches_66 rfl (lv_at hl 3 rfl) ?_
                      refine va_getN (D := gD G) (ci := 4) (v := .ref a2) (C := "CircuitProver$Text") (T := TT) (N := 4) hx hb htb inT hown hK hP 10 rfl rfl 1 (by decide) (va_Nw.use rfl (hE.nw n34)) (fun _ h9 => h9) rfl dN_readLatches_67 ?_
                      refine lv_iconst (v := nI 1) hx hb dN_readLatches_70 (by decide) ?_
                      refine k_iald hx hb hK hP 12 rfl (k := 1) (by omega) (by decide) dN_readLatches_71 ?_
                      refine k_i (ws2 := fun u => [(qn, .inr (3, [.ref n1, .ref n2, .ref n3, .ref n4, .ref n5, .ref n6, .ref n7, .ref n8, .ref n9, .int (nI sw), .int (nI ol), .ref n10])), (n1, aI G 5 hh), (n2, aZ G 50 (va_up dw ((nn13 0) / 2) true)), (n3, aZ G 50 (u)), (n4, aZ G 50 ig), (n5, aI G 50 gl), (n6, aI G 50 gr), (n7, aI G 3 iv), (n8, aI G 6 lw), (n9, aI G 6 xw), (q, .inr (4, [.ref a1, .ref a2, .int (nI us), .int (nI z13)])), (a1, aB G 400 tx), (a2, aI G 5 nn13)]) (wr := [(n2, aZ G 50 (va_up dw ((nn13 0) / 2) true)), (n4, aZ G 50 ig), (n5, aI G 50 gl), (n6, aI G 50 gr), (n7, aI G 3 iv), (n8, aI G 6 lw), (n9, aI G 6 xw), (q, .inr (4, [.ref a1, .ref a2, .int (nI us), .int (nI z13)])), (a1, aB G 400 tx), (a2, aI G 5 nn13)]) (k_runV (n := 1) (As := [.int (nI (nn13 1))]) (rest := []) hx hb hml hown htb hP hD hK hS hA hE (k_N_mention l G H.size qn n1 n2 n3 n4 n5 n6 n7 n8 n9 n10 sw ol hh mw (nn13 1) (show (nn13 1) < 100 from by omega) (show hh 0 < 100 from by omega)) b290 b292 s8 b3 b293 (by decide +kernel) rfl rfl ⟨by rw [hRf]; exact Nat.le_of_ble_eq_true rfl, by rw [hRl]; exact Nat.le_of_ble_eq_true rfl⟩ [0, 1, 3] rfl (by decide) 0 rfl rfl rfl rfl hl.1 rfl (Nat.le_of_ble_eq_true rfl) dN_readLatches_72 ⟨Nat.zero_le _, Nat.zero_le _⟩) hP hD hS hA [0, 1, 3] [2, 4, 5, 6, 7, 8, 9, 10, 11, 12] [10, 11, 0, 12, 1, 2, 3, 4, 5, 6, 7, 8, 9] rfl rfl (by decide) (by decide) (fun u => rfl) (by decide) (fun r u H locs hw hP hD hS => ?_)
                      rcases hw with ⟨hc72_e, rfl, rfl⟩ | ⟨hc72_e, rfl, rfl⟩
                      · skip
                        have hP : va_P (gD G) vC [(qn, .inr (3, [.ref n1, .ref n2, .ref n3, .ref n4, .ref n5, .ref n6, .ref n7, .ref n8, .ref n9, .int (nI sw), .int (nI ol), .ref n10])), (n1, aI G 5 hh), (n2, aZ G 50 (va_up dw ((nn13 0) / 2) true)), (n3, aZ G 50 (va_up mw ((nn13 1) / 2) true)), (n4, aZ G 50 ig), (n5, aI G 50 gl), (n6, aI G 50 gr), (n7, aI G 3 iv), (n8, aI G 6 lw), (n9, aI G 6 xw), (q, .inr (4, [.ref a1, .ref a2, .int (nI us), .int (nI z13)])), (a1, aB G 400 tx), (a2, aI G 5 nn13)] H := hP
                        have hD : va_D A [(qn, .inr (3, [.ref n1, .ref n2, .ref n3, .ref n4, .ref n5, .ref n6, .ref n7, .ref n8, .ref n9, .int (nI sw), .int (nI ol), .ref n10])), (n1, aI G 5 hh), (n2, aZ G 50 (va_up dw ((nn13 0) / 2) true)), (n3, aZ G 50 (va_up mw ((nn13 1) / 2) true)), (n4, aZ G 50 ig), (n5, aI G 50 gl), (n6, aI G 50 gr), (n7, aI G 3 iv), (n8, aI G 6 lw), (n9, aI G 6 xw), (q, .inr (4, [.ref a1, .ref a2, .int (nI us), .int (nI z13)])), (a1, aB G 400 tx), (a2, aI G 5 nn13)] := hD
                        refine lv_if_ne (tgt := 80) hx hb dN_readLatches_75 rfl (fun _ => ?_) (fun h75 => (by revert h75; first | decide | exact fun z => absurd z (by decide) | exact fun z => z.elim (by decide)))
                        have hdG : dGood (lk tx us) dw (xla (lk tx us) k 0) := by (have q := hc59_e); rw [hy0, g0] at q; exact q
                        refine lv_iload_n hx hb dN_readLatches_80 rfl (lv_at hl 4 rfl) ?_
                        refine lv_bipush (v := nI 6) hx hb dN_readLatches_81 (by decide) ?_
                        refine lv_icmp_ge (tgt := 125) hx hb dN_readLatches_83 rfl (fun h83 => ?_) (fun h83 => ?_)
                        · have h83 : 6 ≤ k := (nI_leI (a := 6) (b := k) (by omega) (by omega)).mp h83
                          refine lv_iinc (v := nI (k + 1)) (lv' := [(2, .int (nI (k + 1))), (4, .int (nI (nn13 2))), (3, .int (nI li13.length)), (0, .ref qn), (1, .ref q)]) hx hb dN_readLatches_125 hl (k := 4) rfl (nI_add _ 1) (by decide) rfl (fun ls hl => ?_)
                          refine lv_goto (tgt := 2) hx hb dN_readLatches_128 rfl ?_
                          have hl : lv_has ls 5 [(0, .ref qn), (1, .ref q), (2, .int (nI (k + 1)))] := lv_sub hl [3, 4, 0] rfl
                          exact ih2 (k + 1) nn13 z13 (va_up dw ((nn13 0) / 2) true) (va_up mw ((nn13 1) / 2) true) lw xw sw _ _ _ (by omega) (by omega) ((pos_s hLn).symm) (by omega) (okl_s ho hLn) (by rw [hy0, hy1]; first | exact nS_la (by omega) hs (by omega) hdG (by omega) (fun j h1 h2 => ⟨va_up_ne _ _ (by omega), va_up_ne _ _ (by omega)⟩) (fun _ => ⟨va_up_self _ _ _, va_up_self _ _ _⟩) (by rw [if_pos (by omega), ← hy2]) | exact nS_la (by omega) hs (by omega) hdG (by omega) (fun j h1 h2 => ⟨rfl, rfl⟩) (fun h => by omega) (by rw [if_neg (by omega)])) hP hD hS hl
                        · have h83 : k < 6 := Nat.lt_of_not_le (fun z => h83 ((nI_leI (a := 6) (b := k) (by omega) (by omega)).mpr z))
                          refine lv_aload_n hx hb dN_readLatches_86 rfl (lv_at hl 2 rfl) ?_
                          refine va_get (D := gD G) (ci := 3) (v := .ref n8) (C := "CircuitProver$Netlist") (T := TN) (N := 12) hx hb htb inN hown hK hP 0 rfl rfl 7 (by decide) (htb _ b63) (fun _ h9 => h9) rfl dN_readLatches_87 ?_
                          refine lv_iload_n hx hb dN_readLatches_90 rfl (lv_at hl 4 rfl) ?_
                          refine lv_aload_n hx hb dN_readLatches_91 rfl (lv_at hl 3 rfl) ?_
                          refine va_getN (D := gD G) (ci := 4) (v := .ref a2) (C := "CircuitProver$Text") (T := TT) (N := 4) hx hb htb inT hown hK hP 10 rfl rfl 1 (by decide) (va_Nw.use rfl (hE.nw n34)) (fun _ h9 => h9) rfl dN_readLatches_92 ?_
                          refine lv_iconst (v := nI 0) hx hb dN_readLatches_95 (by decide) ?_
                          refine k_iald hx hb hK hP 12 rfl (k := 0) (by omega) (by decide) dN_readLatches_96 ?_
                          refine lv_iconst (v := nI 1) hx hb dN_readLatches_97 (by decide) ?_
                          refine lv_ishr hx hb dN_readLatches_98 ?_
                          refine k_toi (y := nI ((nn13 0) / 2)) (pk_shrN (by omega) _ 1 (by decide)) ?_
                          refine k_iast hx hb hK hP hD hS 8 rfl (k := k) (v := (nn13 0) / 2) (by omega) (by decide) dN_readLatches_99 (fun H locs hP hD hS => ?_)
                          have hP : va_P (gD G) vC [(qn, .inr (3, [.ref n1, .ref n2, .ref n3, .ref n4, .ref n5, .ref n6, .ref n7, .ref n8, .ref n9, .int (nI sw), .int (nI ol), .ref n10])), (n1, aI G 5 hh), (n2, aZ G 50 (va_up dw ((nn13 0) / 2) true)), (n3, aZ G 50 (va_up mw ((nn13 1) / 2) true)), (n4, aZ G 50 ig), (n5, aI G 50 gl), (n6, aI G 50 gr), (n7, aI G 3 iv), (n8, aI G 6 (va_up lw k ((nn13 0) / 2))), (n9, aI G 6 xw), (q, .inr (4, [.ref a1, .ref a2, .int (nI us), .int (nI z13)])), (a1, aB G 400 tx), (a2, aI G 5 nn13)] H := hP
                          have hD : va_D A [(qn, .inr (3, [.ref n1, .ref n2, .ref n3, .ref n4, .ref n5, .ref n6, .ref n7, .ref n8, .ref n9, .int (nI sw), .int (nI ol), .ref n10])), (n1, aI G 5 hh), (n2, aZ G 50 (va_up dw ((nn13 0) / 2) true)), (n3, aZ G 50 (va_up mw ((nn13 1) / 2) true)), (n4, aZ G 50 ig), (n5, aI G 50 gl), (n6, aI G 50 gr), (n7, aI G 3 iv), (n8, aI G 6 (va_up lw k ((nn13 0) / 2))), (n9, aI G 6 xw), (q, .inr (4, [.ref a1, .ref a2, .int (nI us), .int (nI z13)])), (a1, aB G 400 tx), (a2, aI G 5 nn13)] := hD
                          refine lv_aload_n hx hb dN_readLatches_100 rfl (lv_at hl 2 rfl) ?_
                          refine va_get (D := gD G) (ci := 3) (v := .ref n9) (C := "CircuitProver$Netlist") (T := TN) (N := 12) hx hb htb inN hown hK hP 0 rfl rfl 8 (by decide) (htb _ b64) (fun _ h9 => h9) rfl dN_readLatches_101 ?_
                          refine lv_iload_n hx hb dN_readLatches_104 rfl (lv_at hl 4 rfl) ?_
                          refine lv_aload_n hx hb dN_readLatches_105 rfl (lv_at hl 3 rfl) ?_
                          refine va_getN (D := gD G) (ci := 4) (v := .ref a2) (C := "CircuitProver$Text") (T := TT) (N := 4) hx hb htb inT hown hK hP 10 rfl rfl 1 (by decide) (va_Nw.use rfl (hE.nw n34)) (fun _ h9 => h9) rfl dN_readLatches_106 ?_
                          refine lv_iconst (v := nI 1) hx hb dN_readLatches_109 (by decide) ?_
                          refine k_iald hx hb hK hP 12 rfl (k := 1) (by omega) (by decide) dN_readLatches_110 ?_
                          refine k_iast hx hb hK hP hD hS 9 rfl (k := k) (v := nn13 1) (by omega) (by decide) dN_readLatches_111 (fun H locs hP hD hS => ?_)
                          have hP : va_P (gD G) vC [(qn, .inr (3, [.ref n1, .ref n2, .ref n3, .ref n4, .ref n5, .ref n6, .ref n7, .ref n8, .ref n9, .int (nI sw), .int (nI ol), .ref n10])), (n1, aI G 5 hh), (n2, aZ G 50 (va_up dw ((nn13 0) / 2) true)), (n3, aZ G 50 (va_up mw ((nn13 1) / 2) true)), (n4, aZ G 50 ig), (n5, aI G 50 gl), (n6, aI G 50 gr), (n7, aI G 3 iv), (n8, aI G 6 (va_up lw k ((nn13 0) / 2))), (n9, aI G 6 (va_up xw k (nn13 1))), (q, .inr (4, [.ref a1, .ref a2, .int (nI us), .int (nI z13)])), (a1, aB G 400 tx), (a2, aI G 5 nn13)] H := hP
                          have hD : va_D A [(qn, .inr (3, [.ref n1, .ref n2, .ref n3, .ref n4, .ref n5, .ref n6, .ref n7, .ref n8, .ref n9, .int (nI sw), .int (nI ol), .ref n10])), (n1, aI G 5 hh), (n2, aZ G 50 (va_up dw ((nn13 0) / 2) true)), (n3, aZ G 50 (va_up mw ((nn13 1) / 2) true)), (n4, aZ G 50 ig), (n5, aI G 50 gl), (n6, aI G 50 gr), (n7, aI G 3 iv), (n8, aI G 6 (va_up lw k ((nn13 0) / 2))), (n9, aI G 6 (va_up xw k (nn13 1))), (q, .inr (4, [.ref a1, .ref a2, .int (nI us), .int (nI z13)])), (a1, aB G 400 tx), (a2, aI G 5 nn13)] := hD
                          refine lv_aload_n hx hb dN_readLatches_112 rfl (lv_at hl 2 rfl) ?_
                          refine lv_dup hx hb dN_readLatches_113 rfl ?_
                          refine va_get (D := gD G) (ci := 3) (v := .int (nI sw)) (C := "CircuitProver$Netlist") (T := TN) (N := 12) hx hb htb inN hown hK hP 0 rfl rfl 9 (by decide) (htb _ b67) (fun _ h9 => h9) rfl dN_readLatches_114 ?_
                          refine lv_iload hx hb dN_readLatches_117 (lv_at hl 0 rfl) ?_
                          refine lv_iload_n hx hb dN_readLatches_119 rfl (lv_at hl 4 rfl) ?_
                          refine lv_ishl hx hb dN_readLatches_120 ?_
                          refine k_toi (y := nI ((nn13 2) * 2 ^ k)) (shn (by omega) (shl_b (by omega) (by omega))) ?_
                          refine lv_ior hx hb dN_readLatches_121 ?_
                          refine k_toi (y := nI (sw ||| ((nn13 2) * 2 ^ k))) (nx_or _ _) ?_
                          refine va_put (D := gD G) (ci := 3) (v := .int (nI (sw ||| ((nn13 2) * 2 ^ k)))) (ty := tyN 9) (C := "CircuitProver$Netlist") (T := TN) (N := 12) hx hb htb inN tyN tyN_ok nmN hown hK hP hD hS 0 rfl rfl 9 (by decide) (htb _ b67) (fun _ h9 => h9) rfl (tyN_ok 9 (by decide)) rfl rfl (Nat.le_of_ble_eq_true rfl) dN_readLatches_122 (fun H locs hP hD hS => ?_)
                          have hP : va_P (gD G) vC [(qn, .inr (3, [.ref n1, .ref n2, .ref n3, .ref n4, .ref n5, .ref n6, .ref n7, .ref n8, .ref n9, .int (nI (sw ||| ((nn13 2) * 2 ^ k))), .int (nI ol), .ref n10])), (n1, aI G 5 hh), (n2, aZ G 50 (va_up dw ((nn13 0) / 2) true)), (n3, aZ G 50 (va_up mw ((nn13 1) / 2) true)), (n4, aZ G 50 ig), (n5, aI G 50 gl), (n6, aI G 50 gr), (n7, aI G 3 iv), (n8, aI G 6 (va_up lw k ((nn13 0) / 2))), (n9, aI G 6 (va_up xw k (nn13 1))), (q, .inr (4, [.ref a1, .ref a2, .int (nI us), .int (nI z13)])), (a1, aB G 400 tx), (a2, aI G 5 nn13)] H := hP
                          have hD : va_D A [(qn, .inr (3, [.ref n1, .ref n2, .ref n3, .ref n4, .ref n5, .ref n6, .ref n7, .ref n8, .ref n9, .int (nI (sw ||| ((nn13 2) * 2 ^ k))), .int (nI ol), .ref n10])), (n1, aI G 5 hh), (n2, aZ G 50 (va_up dw ((nn13 0) / 2) true)), (n3, aZ G 50 (va_up mw ((nn13 1) / 2) true)), (n4, aZ G 50 ig), (n5, aI G 50 gl), (n6, aI G 50 gr), (n7, aI G 3 iv), (n8, aI G 6 (va_up lw k ((nn13 0) / 2))), (n9, aI G 6 (va_up xw k (nn13 1))), (q, .inr (4, [.ref a1, .ref a2, .int (nI us), .int (nI z13)])), (a1, aB G 400 tx), (a2, aI G 5 nn13)] := hD
                          refine lv_iinc (v := nI (k + 1)) (lv' := [(2, .int (nI (k + 1))), (4, .int (nI (nn13 2))), (3, .int (nI li13.length)), (0, .ref qn), (1, .ref q)]) hx hb dN_readLatches_125 hl (k := 4) rfl (nI_add _ 1) (by decide) rfl (fun ls hl => ?_)
                          refine lv_goto (tgt := 2) hx hb dN_readLatches_128 rfl ?_
                          have hl : lv_has ls 5 [(0, .ref qn), (1, .ref q), (2, .int (nI (k + 1)))] := lv_sub hl [3, 4, 0] rfl
                          exact ih2 (k + 1) nn13 z13 (va_up dw ((nn13 0) / 2) true) (va_up mw ((nn13 1) / 2) true) (va_up lw k ((nn13 0) / 2)) (va_up xw k (nn13 1)) (sw ||| ((nn13 2) * 2 ^ k)) _ _ _ (by omega) (by omega) ((pos_s hLn).symm) (by omega) (okl_s ho hLn) (by rw [hy0, hy1]; first | exact nS_la (by omega) hs (by omega) hdG (by omega) (fun j h1 h2 => ⟨va_up_ne _ _ (by omega), va_up_ne _ _ (by omega)⟩) (fun _ => ⟨va_up_self _ _ _, va_up_self _ _ _⟩) (by rw [if_pos (by omega), ← hy2]) | exact nS_la (by omega) hs (by omega) hdG (by omega) (fun j h1 h2 => ⟨rfl, rfl⟩) (fun h => by omega) (by rw [if_neg (by omega)])) hP hD hS hl
                      · skip
                        have hP : va_P (gD G) vC [(qn, .inr (3, [.ref n1, .ref n2, .ref n3, .ref n4, .ref n5, .ref n6, .ref n7, .ref n8, .ref n9, .int (nI sw), .int (nI ol), .ref n10])), (n1, aI G 5 hh), (n2, aZ G 50 (va_up dw ((nn13 0) / 2) true)), (n3, aZ G 50 mw), (n4, aZ G 50 ig), (n5, aI G 50 gl), (n6, aI G 50 gr), (n7, aI G 3 iv), (n8, aI G 6 lw), (n9, aI G 6 xw), (q, .inr (4, [.ref a1, .ref a2, .int (nI us), .int (nI z13)])), (a1, aB G 400 tx), (a2, aI G 5 nn13)] H := hP
                        have hD : va_D A [(qn, .inr (3, [.ref n1, .ref n2, .ref n3, .ref n4, .ref n5, .ref n6, .ref n7, .ref n8, .ref n9, .int (nI sw), .int (nI ol), .ref n10])), (n1, aI G 5 hh), (n2, aZ G 50 (va_up dw ((nn13 0) / 2) true)), (n3, aZ G 50 mw), (n4, aZ G 50 ig), (n5, aI G 50 gl), (n6, aI G 50 gr), (n7, aI G 3 iv), (n8, aI G 6 lw), (n9, aI G 6 xw), (q, .inr (4, [.ref a1, .ref a2, .int (nI us), .int (nI z13)])), (a1, aB G 400 tx), (a2, aI G 5 nn13)] := hD
                        refine lv_if_ne (tgt := 80) hx hb dN_readLatches_75 rfl (fun h75 => (by revert h75; first | decide | exact fun z => absurd z (by decide) | exact fun z => z.elim (by decide))) (fun _ => ?_)
                        refine lv_iconst (v := nI 0) hx hb dN_readLatches_78 (by decide) ?_
                        -- end 7
                        rw [← hQ]
                        exact k_iret hx hb hr hlocks (by decide) (u := ((va_up dw ((nn13 0) / 2) true), mw, lw, xw, sw, nn13, z13)) (Or.inr ⟨_, _, _, _, _, _, _, no_la (by omega) hs (fun q => hc72_e (by rw [hy1, g0]; exact q.2.2)), hz13, rfl, rfl⟩) hP hD hK hS dN_readLatches_79
                    · skip
                      have hP : va_P (gD G) vC [(qn, .inr (3, [.ref n1, .ref n2, .ref n3, .ref n4, .ref n5, .ref n6, .ref n7, .ref n8, .ref n9, .int (nI sw), .int (nI ol), .ref n10])), (n1, aI G 5 hh), (n2, aZ G 50 dw), (n3, aZ G 50 mw), (n4, aZ G 50 ig), (n5, aI G 50 gl), (n6, aI G 50 gr), (n7, aI G 3 iv), (n8, aI G 6 lw), (n9, aI G 6 xw), (q, .inr (4, [.ref a1, .ref a2, .int (nI us), .int (nI z13)])), (a1, aB G 400 tx), (a2, aI G 5 nn13)] H := hP
                      have hD : va_D A [(qn, .inr (3, [.ref n1, .ref n2, .ref n3, .ref n4, .ref n5, .ref n6, .ref n7, .ref n8, .ref n9, .int (nI sw), .int (nI ol), .ref n10])), (n1, aI G 5 hh), (n2, aZ G 50 dw), (n3, aZ G 50 mw), (n4, aZ G 50 ig), (n5, aI G 50 gl), (n6, aI G 50 gr), (n7, aI G 3 iv), (n8, aI G 6 lw), (n9, aI G 6 xw), (q, .inr (4, [.ref a1, .ref a2, .int (nI us), .int (nI z13)])), (a1, aB G 400 tx), (a2, aI G 5 nn13)] := hD
                      refine lv_if_eq (tgt := 78) hx hb dN_readLatches_62 rfl (fun _ => ?_) (fun h62 => (by revert h62; first | decide | exact fun z => absurd z (by decide) | exact fun z => z.elim (by decide)))
                      refine lv_iconst (v := nI 0) hx hb dN_readLatches_78 (by decide) ?_
                      -- end 8
                      rw [← hQ]
                      exact k_iret hx hb hr hlocks (by decide) (u := (dw, mw, lw, xw, sw, nn13, z13)) (Or.inr ⟨_, _, _, _, _, _, _, no_la (by omega) hs (fun q => hc59_e (by rw [hy0, g0]; exact q.2.1)), hz13, rfl, rfl⟩) hP hD hK hS dN_readLatches_79
                  · have h47 : 1 < nn13 2 := Nat.lt_of_not_le (fun z => h47 ((nI_leI (a := nn13 2) (b := 1) (by omega) (by omega)).mpr z))
                    refine lv_iconst (v := nI 0) hx hb dN_readLatches_50 (by decide) ?_
                    -- end 9
                    rw [← hQ]
                    exact k_iret hx hb hr hlocks (by decide) (u := (dw, mw, lw, xw, sw, nn13, z13)) (Or.inr ⟨_, _, _, _, _, _, _, no_la (by omega) hs (fun q => by have := q.1; omega), hz13, rfl, rfl⟩) hP hD hK hS dN_readLatches_51
          · skip
            have hP : va_P (gD G) vC [(qn, .inr (3, [.ref n1, .ref n2, .ref n3, .ref n4, .ref n5, .ref n6, .ref n7, .ref n8, .ref n9, .int (nI sw), .int (nI ol), .ref n10])), (n1, aI G 5 hh), (n2, aZ G 50 dw), (n3, aZ G 50 mw), (n4, aZ G 50 ig), (n5, aI G 50 gl), (n6, aI G 50 gr), (n7, aI G 3 iv), (n8, aI G 6 lw), (n9, aI G 6 xw), (q, .inr (4, [.ref a1, .ref a2, .int (nI us), .int (nI z13)])), (a1, aB G 400 tx), (a2, aI G 5 nn13)] H := hP
            have hD : va_D A [(qn, .inr (3, [.ref n1, .ref n2, .ref n3, .ref n4, .ref n5, .ref n6, .ref n7, .ref n8, .ref n9, .int (nI sw), .int (nI ol), .ref n10])), (n1, aI G 5 hh), (n2, aZ G 50 dw), (n3, aZ G 50 mw), (n4, aZ G 50 ig), (n5, aI G 50 gl), (n6, aI G 50 gr), (n7, aI G 3 iv), (n8, aI G 6 lw), (n9, aI G 6 xw), (q, .inr (4, [.ref a1, .ref a2, .int (nI us), .int (nI z13)])), (a1, aB G 400 tx), (a2, aI G 5 nn13)] := hD
            refine lv_istore_n (lv' := [(3, .int (nI 0)), (0, .ref qn), (1, .ref q), (2, .int (nI k))]) hx hb dN_readLatches_16 rfl hl (by decide) rfl (fun ls hl => ?_)
            refine lv_iload_n hx hb dN_readLatches_17 rfl (lv_at hl 0 rfl) ?_
            refine lv_iconst (v := nI 3) hx hb dN_readLatches_18 (by decide) ?_
            refine lv_icmp_ne (tgt := 31) hx hb dN_readLatches_19 rfl (fun _ => ?_) (fun h19 => (by revert h19; first | decide | exact fun z => absurd z (by decide) | exact fun z => z.elim (by decide)))
            refine lv_iconst (v := nI 0) hx hb dN_readLatches_31 (by decide) ?_
            refine lv_istore (lv' := [(4, .int (nI 0)), (3, .int (nI 0)), (0, .ref qn), (1, .ref q), (2, .int (nI k))]) hx hb dN_readLatches_32 hl (by decide) rfl (fun ls hl => ?_)
            refine lv_iload_n hx hb dN_readLatches_34 rfl (lv_at hl 1 rfl) ?_
            refine lv_iconst (v := nI 2) hx hb dN_readLatches_35 (by decide) ?_
            refine lv_icmp_lt (tgt := 50) hx hb dN_readLatches_36 rfl (fun _ => ?_) (fun h36 => (by revert h36; first | decide | exact fun z => absurd z (by decide) | exact fun z => z.elim (by decide)))
            refine lv_iconst (v := nI 0) hx hb dN_readLatches_50 (by decide) ?_
            -- end 10
            rw [← hQ]
            exact k_iret hx hb hr hlocks (by decide) (u := (dw, mw, lw, xw, sw, nn13, z13)) (Or.inr ⟨_, _, _, _, _, _, _, no_ln2 (k := k) (by omega) (by rw [← hpw]; exact la_none1 hc13_e), hc13_b, rfl, rfl⟩) hP hD hK hS dN_readLatches_51
    have hl : lv_has ls 5 [(0, .ref qn), (1, .ref q), (2, .int (nI 0))] := lv_sub hl [1, 2, 0] rfl
    have g0 := hH 0 (by omega)
    have g1 := hH 1 (by omega)
    have g2 := hH 2 (by omega)
    have g3 := hH 3 (by omega)
    have g4 := hH 4 (by omega)
    have t0 := hd_lt (lk tx us) 0
    have t1 := hd_lt (lk tx us) 1
    have t2 := hd_lt (lk tx us) 2
    have t3 := hd_lt (lk tx us) 3
    have t4 := hd_lt (lk tx us) 4
    exact loop2 (hh 2 - 0 + 1) 0 nm pl df mt lv ln sa _ _ _ (by omega) (by omega) hp hpl (fun j hj => absurd hj (Nat.not_lt_zero j)) hN hP hD hS hl
  rw [hH, hlc] at hgo
  exact hgo
set_option maxRecDepth 100000 in
set_option maxHeartbeats 4000000 in
theorem k_N_readOutputs (l : Launch) (G : GG) (sz : Nat) (qn : Nat) (n1 : Nat) (n2 : Nat) (n3 : Nat) (n4 : Nat) (n5 : Nat) (n6 : Nat) (n7 : Nat) (n8 : Nat) (n9 : Nat) (n10 : Nat) (sa : Nat) (ol : Nat) (hh : Nat → Nat) (df : Nat → Bool) (mt : Nat → Bool) (ig : Nat → Bool) (gl : Nat → Nat) (gr : Nat → Nat) (iv : Nat → Nat) (lv : Nat → Nat) (ln : Nat → Nat) (q : Nat) (a1 : Nat) (a2 : Nat) (tx : Nat → Nat) (nm : Nat → Nat) (us : Nat) (pl : Nat) (hus : us ≤ 400) (hpl : pl ≤ us) (htx : ∀ j, tx j < 128) (hH : ∀ c, c < 5 → hh c = hd (lk tx us) c) (hp : pl = e2 (lk tx us)) (hN : nS (lk tx us) (hd (lk tx us) 1) (hd (lk tx us) 2) 0 0 df mt ig gl gr iv lv ln sa ol) : Ki l yN_readOutputs cN_readOutputs 3 .boolean 3 64 G [.ref qn, .ref q] [(qn, .inr (3, [.ref n1, .ref n2, .ref n3, .ref n4, .ref n5, .ref n6, .ref n7, .ref n8, .ref n9, .int (nI sa), .int (nI ol), .ref n10])), (n1, aI G 5 hh), (n2, aZ G 50 df), (n3, aZ G 50 mt), (n4, aZ G 50 ig), (n5, aI G 50 gl), (n6, aI G 50 gr), (n7, aI G 3 iv), (n8, aI G 6 lv), (n9, aI G 6 ln), (q, .inr (4, [.ref a1, .ref a2, .int (nI us), .int (nI pl)])), (a1, aB G 400 tx), (a2, aI G 5 nm)] sz (fun (r : Int32) (u : (Nat → Bool) × Nat × (Nat → Nat) × Nat) => (∃ (m1 : Nat → Bool), ∃ (o1 : Nat), ∃ (nn : Nat → Nat), ∃ (z : Nat), okl (exF (lk tx us) 1) (e2 (lk tx us)) (hd (lk tx us) 3) ∧ nS (lk tx us) (hd (lk tx us) 1) (hd (lk tx us) 2) (hd (lk tx us) 3) 0 df m1 ig gl gr iv lv ln sa o1 ∧ z = e3 (lk tx us) ∧ z ≤ us ∧ nI 1 = r ∧ (m1, o1, nn, z) = u) ∨ (∃ (m1 : Nat → Bool), ∃ (o1 : Nat), ∃ (nn : Nat → Nat), ∃ (z : Nat), ¬ circOK (lk tx us) us ∧ z ≤ us ∧ nI 0 = r ∧ (m1, o1, nn, z) = u)) (fun (u : (Nat → Bool) × Nat × (Nat → Nat) × Nat) => [(qn, .inr (3, [.ref n1, .ref n2, .ref n3, .ref n4, .ref n5, .ref n6, .ref n7, .ref n8, .ref n9, .int (nI sa), .int (nI u.2.1), .ref n10])), (n1, aI G 5 hh), (n2, aZ G 50 df), (n3, aZ G 50 u.1), (n4, aZ G 50 ig), (n5, aI G 50 gl), (n6, aI G 50 gr), (n7, aI G 3 iv), (n8, aI G 6 lv), (n9, aI G 6 ln), (q, .inr (4, [.ref a1, .ref a2, .int (nI us), .int (nI u.2.2.2)])), (a1, aB G 400 tx), (a2, aI G 5 u.2.2.1)]) := by
  refine Met.ofW (cc := cN_readOutputs) (maxL := 3) (ret := (some .boolean)) (by decide) rfl ?_
  intro p e s m args below meth c s₁ B hml hv
  obtain ⟨hav, hsz, hP, hK, hD0, hE⟩ := hv
  have hx := B.exec
  have hb := B.bytes
  have hr := B.returns
  have htb : ∀ w ∈ TB, w.before args s = true := fun w h => atoms_spec (ws := Cond.code yN_readOutputs cN_readOutputs 3 (some .boolean) :: TB) B.pre w (List.mem_cons_of_mem _ h)
  have hown : s.vm.findClass "CircuitProver$Netlist" = some m.cls := findClass_of_methodNamed B.named
  have hlocks := B.notSynchronized
  subst hsz
  have hD := hD0.self (sz := s.heap.size)
  clear hD0
  generalize hRm : (headSpec (Cond.code yN_readOutputs cN_readOutputs 3 (some .boolean) :: TB) { frames := 3, cells := 0, slots := 0, locals := 64 }).room = R
  have hRf : R.frames = 3 := by rw [← hRm]; rfl
  have hRl : R.locals = 64 := by rw [← hRm]; rfl
  have hRc : R.cells = 0 := by rw [← hRm]; rfl
  have hRs : R.slots = 0 := by rw [← hRm]; rfl
  clear hRm
  generalize hAe : va_A [(qn, .inr (3, [.ref n1, .ref n2, .ref n3, .ref n4, .ref n5, .ref n6, .ref n7, .ref n8, .ref n9, .int (nI sa), .int (nI ol), .ref n10])), (n1, aI G 5 hh), (n2, aZ G 50 df), (n3, aZ G 50 mt), (n4, aZ G 50 ig), (n5, aI G 50 gl), (n6, aI G 50 gr), (n7, aI G 3 iv), (n8, aI G 6 lv), (n9, aI G 6 ln), (q, .inr (4, [.ref a1, .ref a2, .int (nI us), .int (nI pl)])), (a1, aB G 400 tx), (a2, aI G 5 nm)] s.heap.size = A at hD hE ⊢
  have hA : ∀ q : Nat, s.heap.size ≤ q → A q := fun q h => by rw [← hAe]; exact Or.inr h
  clear hAe
  have hS : va_S A s.heap s.heap [] := va_S.rf
  have hl := lv_entry ([.ref qn, .ref q]) (n := 3) (Nat.le_of_ble_eq_true rfl)
  have hent := lg_entry_eq m ([.ref qn, .ref q]) 3
  rw [← hav] at hent
  rw [hent]
  clear hent hav
  generalize (lg_sl ([.ref qn, .ref q]) ++ List.replicate (3 - (lg_sl ([.ref qn, .ref q])).length) Slot.unset).toArray = ls at hl ⊢
  have hl : lv_has ls 3 [(0, .ref qn), (1, .ref q)] := hl
  generalize hQ : MQ below _ args s 0 0 _ = Q
  have hP : va_P (gD G) vC [(qn, .inr (3, [.ref n1, .ref n2, .ref n3, .ref n4, .ref n5, .ref n6, .ref n7, .ref n8, .ref n9, .int (nI sa), .int (nI ol), .ref n10])), (n1, aI G 5 hh), (n2, aZ G 50 df), (n3, aZ G 50 mt), (n4, aZ G 50 ig), (n5, aI G 50 gl), (n6, aI G 50 gr), (n7, aI G 3 iv), (n8, aI G 6 lv), (n9, aI G 6 ln), (q, .inr (4, [.ref a1, .ref a2, .int (nI us), .int (nI pl)])), (a1, aB G 400 tx), (a2, aI G 5 nm)] s.heap := hP
  obtain ⟨H, hH⟩ : ∃ H : Heap, H = s.heap := ⟨_, rfl⟩
  obtain ⟨locs, hlc⟩ : ∃ L : List Loc, L = [] := ⟨_, rfl⟩
  have hS : va_S A s.heap H locs := by rw [hH, hlc]; exact hS
  have hP : va_P (gD G) vC [(qn, .inr (3, [.ref n1, .ref n2, .ref n3, .ref n4, .ref n5, .ref n6, .ref n7, .ref n8, .ref n9, .int (nI sa), .int (nI ol), .ref n10])), (n1, aI G 5 hh), (n2, aZ G 50 df), (n3, aZ G 50 mt), (n4, aZ G 50 ig), (n5, aI G 50 gl), (n6, aI G 50 gr), (n7, aI G 3 iv), (n8, aI G 6 lv), (n9, aI G 6 ln), (q, .inr (4, [.ref a1, .ref a2, .int (nI us), .int (nI pl)])), (a1, aB G 400 tx), (a2, aI G 5 nm)] H := by rw [hH]; exact hP
  have hgo : W p l e R s m args below meth c H locs 0 0 Q (F0 m 0 ls []) := by
    clear hH hlc
    refine lv_iconst (v := nI 0) hx hb dN_readOutputs_0 (by decide) ?_
    refine lv_istore_n (lv' := [(2, .int (nI 0)), (0, .ref qn), (1, .ref q)]) hx hb dN_readOutputs_1 rfl hl (by decide) rfl (fun ls hl => ?_)
    have loop2 : ∀ (n : Nat) (k : Nat) (nw : Nat → Nat) (pw : Nat) (mw : Nat → Bool) (ow : Nat) (H : Heap) (locs : List Loc) (ls : Array Slot), hh 3 - k < n → (k ≤ hd (lk tx us) 3) → (pw = pos (exF (lk tx us) 1) (e2 (lk tx us)) k) → (pw ≤ us) → (okl (exF (lk tx us) 1) (e2 (lk tx us)) k) → (nS (lk tx us) (hd (lk tx us) 1) (hd (lk tx us) 2) k 0 df mw ig gl gr iv lv ln sa ow) → va_P (gD G) vC [(qn, .inr (3, [.ref n1, .ref n2, .ref n3, .ref n4, .ref n5, .ref n6, .ref n7, .ref n8, .ref n9, .int (nI sa), .int (nI ow), .ref n10])), (n1, aI G 5 hh), (n2, aZ G 50 df), (n3, aZ G 50 mw), (n4, aZ G 50 ig), (n5, aI G 50 gl), (n6, aI G 50 gr), (n7, aI G 3 iv), (n8, aI G 6 lv), (n9, aI G 6 ln), (q, .inr (4, [.ref a1, .ref a2, .int (nI us), .int (nI pw)])), (a1, aB G 400 tx), (a2, aI G 5 nw)] H → va_D A [(qn, .inr (3, [.ref n1, .ref n2, .ref n3, .ref n4, .ref n5, .ref n6, .ref n7, .ref n8, .ref n9, .int (nI sa), .int (nI ow), .ref n10])), (n1, aI G 5 hh), (n2, aZ G 50 df), (n3, aZ G 50 mw), (n4, aZ G 50 ig), (n5, aI G 50 gl), (n6, aI G 50 gr), (n7, aI G 3 iv), (n8, aI G 6 lv), (n9, aI G 6 ln), (q, .inr (4, [.ref a1, .ref a2, .int (nI us), .int (nI pw)])), (a1, aB G 400 tx), (a2, aI G 5 nw)] → va_S A s.heap H locs → lv_has ls 3 [(0, .ref qn), (1, .ref q), (2, .int (nI k))] → W p l e R s m args below meth c H locs 0 0 Q (F0 m 2 ls []) := by
      intro n
      induction n with
      | zero => intro k nw pw mw ow H locs ls hmu; omega
      | succ n ih =>
        intro k nw pw mw ow H locs ls hmu hk hpw hpu ho hs hP hD hS hl
        have ih2 := ih
        clear ih
        have g0 := hH 0 (by omega)
        have g1 := hH 1 (by omega)
        have g2 := hH 2 (by omega)
        have g3 := hH 3 (by omega)
        have g4 := hH 4 (by omega)
        have t0 := hd_lt (lk tx us) 0
        have t1 := hd_lt (lk tx us) 1
        have t2 := hd_lt (lk tx us) 2
        have t3 := hd_lt (lk tx us) 3
        have t4 := hd_lt (lk tx us) 4
        refine lv_iload_n hx hb dN_readOutputs_2 rfl (lv_at hl 2 rfl) ?_
        refine lv_aload_n hx hb dN_readOutputs_3 rfl (lv_at hl 0 rfl) ?_
        refine va_get (D := gD G) (ci := 3) (v := .ref n1) (C := "CircuitProver$Netlist") (T := TN) (N := 12) hx hb htb inN hown hK hP 0 rfl rfl 0 (by decide) (htb _ b55) (fun _ h9 => h9) rfl dN_readOutputs_4 ?_
        refine lv_iconst (v := nI 3) hx hb dN_readOutputs_7 (by decide) ?_
        refine k_iald hx hb hK hP 1 rfl (k := 3) (by omega) (by decide) dN_readOutputs_8 ?_
        refine lv_icmp_ge (tgt := 51) hx hb dN_readOutputs_9 rfl (fun h9 => ?_) (fun h9 => ?_)
        · have h9 : hh 3 ≤ k := (nI_leI (a := hh 3) (b := k) (by omega) (by omega)).mp h9
          refine lv_iconst (v := nI 1) hx hb dN_readOutputs_51 (by decide) ?_
          -- end 0
          rw [← hQ]
          exact k_iret hx hb hr hlocks (by decide) (u := (mw, ow, nw, pw)) (Or.inl ⟨mw, ow, nw, pw, by rw [show hd (lk tx us) 3 = k by omega]; exact ho, by rw [show hd (lk tx us) 3 = k by omega]; exact hs, by unfold e3; rw [show hd (lk tx us) 3 = k by omega]; exact hpw, hpu, rfl, rfl⟩) hP hD hK hS dN_readOutputs_52
        · have h9 : k < hh 3 := Nat.lt_of_not_le (fun z => h9 ((nI_leI (a := hh 3) (b := k) (by omega) (by omega)).mpr z))
          refine lv_aload_n hx hb dN_readOutputs_12 rfl (lv_at hl 1 rfl) ?_
          refine k_i (ws2 := fun u => [(qn, .inr (3, [.ref n1, .ref n2, .ref n3, .ref n4, .ref n5, .ref n6, .ref n7, .ref n8, .ref n9, .int (nI sa), .int (nI ow), .ref n10])), (n1, aI G 5 hh), (n2, aZ G 50 df), (n3, aZ G 50 mw), (n4, aZ G 50 ig), (n5, aI G 50 gl), (n6, aI G 50 gr), (n7, aI G 3 iv), (n8, aI G 6 lv), (n9, aI G 6 ln), (q, .inr (4, [.ref a1, .ref a2, .int (nI us), .int (nI (u.2))])), (a1, aB G 400 tx), (a2, aI G 5 (u.1))]) (wr := [(qn, .inr (3, [.ref n1, .ref n2, .ref n3, .ref n4, .ref n5, .ref n6, .ref n7, .ref n8, .ref n9, .int (nI sa), .int (nI ow), .ref n10])), (n1, aI G 5 hh), (n2, aZ G 50 df), (n3, aZ G 50 mw), (n4, aZ G 50 ig), (n5, aI G 50 gl), (n6, aI G 50 gr), (n7, aI G 3 iv), (n8, aI G 6 lv), (n9, aI G 6 ln)]) (k_runV (n := 0) (As := []) (rest := []) hx hb hml hown htb hP hD hK hS hA hE (k_T_readLine l G H.size q a1 a2 tx nw us pw (show us ≤ 400 from by omega) (show pw ≤ us from by omega) (show ∀ j, tx j < 128 from by omega)) b258 b259 b260 b2 b261 (by decide +kernel) rfl rfl ⟨by rw [hRf]; exact Nat.le_of_ble_eq_true rfl, by rw [hRl]; exact Nat.le_of_ble_eq_true rfl⟩ [10, 11, 12] rfl (by decide) 10 rfl rfl rfl rfl hl.1 rfl (Nat.le_of_ble_eq_true rfl) dN_readOutputs_13 ⟨Nat.zero_le _, Nat.zero_le _⟩) hP hD hS hA [10, 11, 12] [0, 1, 2, 3, 4, 5, 6, 7, 8, 9] [0, 1, 2, 3, 4, 5, 6, 7, 8, 9, 10, 11, 12] rfl rfl (by decide) (by decide) (fun u => rfl) (by decide) (fun r u H locs hw hP hD hS => ?_)
          rcases hw with ⟨li13, z13, nn13, hc13_e, hc13_a, rfl, rfl⟩ | ⟨z13, nn13, hc13_e, hc13_b, rfl, rfl⟩
          · skip
            have hP : va_P (gD G) vC [(qn, .inr (3, [.ref n1, .ref n2, .ref n3, .ref n4, .ref n5, .ref n6, .ref n7, .ref n8, .ref n9, .int (nI sa), .int (nI ow), .ref n10])), (n1, aI G 5 hh), (n2, aZ G 50 df), (n3, aZ G 50 mw), (n4, aZ G 50 ig), (n5, aI G 50 gl), (n6, aI G 50 gr), (n7, aI G 3 iv), (n8, aI G 6 lv), (n9, aI G 6 ln), (q, .inr (4, [.ref a1, .ref a2, .int (nI us), .int (nI z13)])), (a1, aB G 400 tx), (a2, aI G 5 nn13)] H := hP
            have hD : va_D A [(qn, .inr (3, [.ref n1, .ref n2, .ref n3, .ref n4, .ref n5, .ref n6, .ref n7, .ref n8, .ref n9, .int (nI sa), .int (nI ow), .ref n10])), (n1, aI G 5 hh), (n2, aZ G 50 df), (n3, aZ G 50 mw), (n4, aZ G 50 ig), (n5, aI G 50 gl), (n6, aI G 50 gr), (n7, aI G 3 iv), (n8, aI G 6 lv), (n9, aI G 6 ln), (q, .inr (4, [.ref a1, .ref a2, .int (nI us), .int (nI z13)])), (a1, aB G 400 tx), (a2, aI G 5 nn13)] := hD
            have hx13 := lnF_ex hc13_e
            have hz13 := lnF_le hc13_e
            refine lv_iconst (v := nI 1) hx hb dN_readOutputs_16 (by decide) ?_
            refine lv_icmp_ne (tgt := 33) hx hb dN_readOutputs_17 rfl (fun h17 => ?_) (fun h17 => ?_)
            · have h17 : ¬ li13.length = 1 := fun z => h17 ((nI_eq (a := li13.length) (b := 1) (by omega) (by omega)).mpr z)
              refine lv_iconst (v := nI 0) hx hb dN_readOutputs_33 (by decide) ?_
              -- end 1
              rw [← hQ]
              exact k_iret hx hb hr hlocks (by decide) (u := (mw, ow, nn13, z13)) (Or.inr ⟨_, _, _, _, no_ln3 (k := k) (by omega) (by rw [← hpw]; exact ex_none2 hc13_e h17 (by decide)), hz13, rfl, rfl⟩) hP hD hK hS dN_readOutputs_34
            · have h17 : li13.length = 1 := (nI_eq (a := li13.length) (b := 1) (by omega) (by omega)).mp h17
              have hLn : exF (lk tx us) 1 (pos (exF (lk tx us) 1) (e2 (lk tx us)) k) = some (li13, z13) := by rw [← hpw]; exact ex_some hc13_e h17
              have hx0 : nn13 0 = xou (lk tx us) k := by unfold xou; rw [vl_s hLn]; exact hc13_a 0 (by omega)
              have hxl := xou_lt (lk tx us) k
              refine lv_aload_n hx hb dN_readOutputs_20 rfl (lv_at hl 0 rfl) ?_
              refine lv_aload_n hx hb dN_readOutputs_21 rfl (lv_at hl 1 rfl) ?_
              refine va_getN (D := gD G) (ci := 4) (v := .ref a2) (C := "CircuitProver$Text") (T := TT) (N := 4) hx hb htb inT hown hK hP 10 rfl rfl 1 (by decide) (va_Nw.use rfl (hE.nw n34)) (fun _ h9 => h9) rfl dN_readOutputs_22 ?_
              refine lv_iconst (v := nI 0) hx hb dN_readOutputs_25 (by decide) ?_
              refine k_iald hx hb hK hP 12 rfl (k := 0) (by omega) (by decide) dN_readOutputs_26 ?_
              refine k_i (ws2 := fun u => [(qn, .inr (3, [.ref n1, .ref n2, .ref n3, .ref n4, .ref n5, .ref n6, .ref n7, .ref n8, .ref n9, .int (nI sa), .int (nI ow), .ref n10])), (n1, aI G 5 hh), (n2, aZ G 50 df), (n3, aZ G 50 (u)), (n4, aZ G 50 ig), (n5, aI G 50 gl), (n6, aI G 50 gr), (n7, aI G 3 iv), (n8, aI G 6 lv), (n9, aI G 6 ln), (q, .inr (4, [.ref a1, .ref a2, .int (nI us), .int (nI z13)])), (a1, aB G 400 tx), (a2, aI G 5 nn13)]) (wr := [(n2, aZ G 50 df), (n4, aZ G 50 ig), (n5, aI G 50 gl), (n6, aI G 50 gr), (n7, aI G 3 iv), (n8, aI G 6 lv), (n9, aI G 6 ln), (q, .inr (4, [.ref a1, .ref a2, .int (nI us), .int (nI z13)])), (a1, aB G 400 tx), (a2, aI G 5 nn13)]) (k_runV (n := 1) (As := [.int (nI (nn13 0))]) (rest := []) hx hb hml hown htb hP hD hK hS hA hE (k_N_mention l G H.size qn n1 n2 n3 n4 n5 n6 n7 n8 n9 n10 sa ow hh mw (nn13 0) (show (nn13 0) < 100 from by omega) (show hh 0 < 100 from by omega)) b290 b292 s8 b3 b293 (by decide +kernel) rfl rfl ⟨by rw [hRf]; exact Nat.le_of_ble_eq_true rfl, by rw [hRl]; exact Nat.le_of_ble_eq_true rfl⟩ [0, 1, 3] rfl (by decide) 0 rfl rfl rfl rfl hl.1 rfl (Nat.le_of_ble_eq_true rfl) dN_readOutputs_27 ⟨Nat.zero_le _, Nat.zero_le _⟩) hP hD hS hA [0, 1, 3] [2, 4, 5, 6, 7, 8, 9, 10, 11, 12] [10, 11, 0, 12, 1, 2, 3, 4, 5, 6, 7, 8, 9] rfl rfl (by decide) (by decide) (fun u => rfl) (by decide) (fun r u H locs hw hP hD hS => ?_)
              rcases hw with ⟨hc27_e, rfl, rfl⟩ | ⟨hc27_e, rfl, rfl⟩
              · skip
                have hP : va_P (gD G) vC [(qn, .inr (3, [.ref n1, .ref n2, .ref n3, .ref n4, .ref n5, .ref n6, .ref n7, .ref n8, .ref n9, .int (nI sa), .int (nI ow), .ref n10])), (n1, aI G 5 hh), (n2, aZ G 50 df), (n3, aZ G 50 (va_up mw ((nn13 0) / 2) true)), (n4, aZ G 50 ig), (n5, aI G 50 gl), (n6, aI G 50 gr), (n7, aI G 3 iv), (n8, aI G 6 lv), (n9, aI G 6 ln), (q, .inr (4, [.ref a1, .ref a2, .int (nI us), .int (nI z13)])), (a1, aB G 400 tx), (a2, aI G 5 nn13)] H := hP
                have hD : va_D A [(qn, .inr (3, [.ref n1, .ref n2, .ref n3, .ref n4, .ref n5, .ref n6, .ref n7, .ref n8, .ref n9, .int (nI sa), .int (nI ow), .ref n10])), (n1, aI G 5 hh), (n2, aZ G 50 df), (n3, aZ G 50 (va_up mw ((nn13 0) / 2) true)), (n4, aZ G 50 ig), (n5, aI G 50 gl), (n6, aI G 50 gr), (n7, aI G 3 iv), (n8, aI G 6 lv), (n9, aI G 6 ln), (q, .inr (4, [.ref a1, .ref a2, .int (nI us), .int (nI z13)])), (a1, aB G 400 tx), (a2, aI G 5 nn13)] := hD
                refine lv_if_ne (tgt := 35) hx hb dN_readOutputs_30 rfl (fun _ => ?_) (fun h30 => (by revert h30; first | decide | exact fun z => absurd z (by decide) | exact fun z => z.elim (by decide)))
                refine lv_aload_n hx hb dN_readOutputs_35 rfl (lv_at hl 0 rfl) ?_
                refine lv_aload_n hx hb dN_readOutputs_36 rfl (lv_at hl 1 rfl) ?_
                refine va_getN (D := gD G) (ci := 4) (v := .ref a2) (C := "CircuitProver$Text") (T := TT) (N := 4) hx hb htb inT hown hK hP 10 rfl rfl 1 (by decide) (va_Nw.use rfl (hE.nw n34)) (fun _ h9 => h9) rfl dN_readOutputs_37 ?_
                refine lv_iconst (v := nI 0) hx hb dN_readOutputs_40 (by decide) ?_
                refine k_iald hx hb hK hP 12 rfl (k := 0) (by omega) (by decide) dN_readOutputs_41 ?_
                refine va_put (D := gD G) (ci := 3) (v := .int (nI (nn13 0))) (ty := tyN 10) (C := "CircuitProver$Netlist") (T := TN) (N := 12) hx hb htb inN tyN tyN_ok nmN hown hK hP hD hS 0 rfl rfl 10 (by decide) (htb _ b69) (fun _ h9 => h9) rfl (tyN_ok 10 (by decide)) rfl rfl (Nat.le_of_ble_eq_true rfl) dN_readOutputs_42 (fun H locs hP hD hS => ?_)
                have hP : va_P (gD G) vC [(qn, .inr (3, [.ref n1, .ref n2, .ref n3, .ref n4, .ref n5, .ref n6, .ref n7, .ref n8, .ref n9, .int (nI sa), .int (nI (nn13 0)), .ref n10])), (n1, aI G 5 hh), (n2, aZ G 50 df), (n3, aZ G 50 (va_up mw ((nn13 0) / 2) true)), (n4, aZ G 50 ig), (n5, aI G 50 gl), (n6, aI G 50 gr), (n7, aI G 3 iv), (n8, aI G 6 lv), (n9, aI G 6 ln), (q, .inr (4, [.ref a1, .ref a2, .int (nI us), .int (nI z13)])), (a1, aB G 400 tx), (a2, aI G 5 nn13)] H := hP
                have hD : va_D A [(qn, .inr (3, [.ref n1, .ref n2, .ref n3, .ref n4, .ref n5, .ref n6, .ref n7, .ref n8, .ref n9, .int (nI sa), .int (nI (nn13 0)), .ref n10])), (n1, aI G 5 hh), (n2, aZ G 50 df), (n3, aZ G 50 (va_up mw ((nn13 0) / 2) true)), (n4, aZ G 50 ig), (n5, aI G 50 gl), (n6, aI G 50 gr), (n7, aI G 3 iv), (n8, aI G 6 lv), (n9, aI G 6 ln), (q, .inr (4, [.ref a1, .ref a2, .int (nI us), .int (nI z13)])), (a1, aB G 400 tx), (a2, aI G 5 nn13)] := hD
                refine lv_iinc (v := nI (k + 1)) (lv' := [(2, .int (nI (k + 1))), (0, .ref qn), (1, .ref q)]) hx hb dN_readOutputs_45 hl (k := 2) rfl (nI_add _ 1) (by decide) rfl (fun ls hl => ?_)
                refine lv_goto (tgt := 2) hx hb dN_readOutputs_48 rfl ?_
                have hl : lv_has ls 3 [(0, .ref qn), (1, .ref q), (2, .int (nI (k + 1)))] := lv_sub hl [1, 2, 0] rfl
                exact ih2 (k + 1) nn13 z13 (va_up mw ((nn13 0) / 2) true) (nn13 0) _ _ _ (by omega) (by omega) ((pos_s hLn).symm) (by omega) (okl_s ho hLn) (by rw [hx0]; exact nS_ou hs (by omega)) hP hD hS hl
              · skip
                have hP : va_P (gD G) vC [(qn, .inr (3, [.ref n1, .ref n2, .ref n3, .ref n4, .ref n5, .ref n6, .ref n7, .ref n8, .ref n9, .int (nI sa), .int (nI ow), .ref n10])), (n1, aI G 5 hh), (n2, aZ G 50 df), (n3, aZ G 50 mw), (n4, aZ G 50 ig), (n5, aI G 50 gl), (n6, aI G 50 gr), (n7, aI G 3 iv), (n8, aI G 6 lv), (n9, aI G 6 ln), (q, .inr (4, [.ref a1, .ref a2, .int (nI us), .int (nI z13)])), (a1, aB G 400 tx), (a2, aI G 5 nn13)] H := hP
                have hD : va_D A [(qn, .inr (3, [.ref n1, .ref n2, .ref n3, .ref n4, .ref n5, .ref n6, .ref n7, .ref n8, .ref n9, .int (nI sa), .int (nI ow), .ref n10])), (n1, aI G 5 hh), (n2, aZ G 50 df), (n3, aZ G 50 mw), (n4, aZ G 50 ig), (n5, aI G 50 gl), (n6, aI G 50 gr), (n7, aI G 3 iv), (n8, aI G 6 lv), (n9, aI G 6 ln), (q, .inr (4, [.ref a1, .ref a2, .int (nI us), .int (nI z13)])), (a1, aB G 400 tx), (a2, aI G 5 nn13)] := hD
                refine lv_if_ne (tgt := 35) hx hb dN_readOutputs_30 rfl (fun h30 => (by revert h30; first | decide | exact fun z => absurd z (by decide) | exact fun z => z.elim (by decide))) (fun _ => ?_)
                refine lv_iconst (v := nI 0) hx hb dN_readOutputs_33 (by decide) ?_
                -- end 2
                rw [← hQ]
                exact k_iret hx hb hr hlocks (by decide) (u := (mw, ow, nn13, z13)) (Or.inr ⟨_, _, _, _, no_ou (k := k) (by omega) (by omega), hz13, rfl, rfl⟩) hP hD hK hS dN_readOutputs_34
          · skip
            have hP : va_P (gD G) vC [(qn, .inr (3, [.ref n1, .ref n2, .ref n3, .ref n4, .ref n5, .ref n6, .ref n7, .ref n8, .ref n9, .int (nI sa), .int (nI ow), .ref n10])), (n1, aI G 5 hh), (n2, aZ G 50 df), (n3, aZ G 50 mw), (n4, aZ G 50 ig), (n5, aI G 50 gl), (n6, aI G 50 gr), (n7, aI G 3 iv), (n8, aI G 6 lv), (n9, aI G 6 ln), (q, .inr (4, [.ref a1, .ref a2, .int (nI us), .int (nI z13)])), (a1, aB G 400 tx), (a2, aI G 5 nn13)] H := hP
            have hD : va_D A [(qn, .inr (3, [.ref n1, .ref n2, .ref n3, .ref n4, .ref n5, .ref n6, .ref n7, .ref n8, .ref n9, .int (nI sa), .int (nI ow), .ref n10])), (n1, aI G 5 hh), (n2, aZ G 50 df), (n3, aZ G 50 mw), (n4, aZ G 50 ig), (n5, aI G 50 gl), (n6, aI G 50 gr), (n7, aI G 3 iv), (n8, aI G 6 lv), (n9, aI G 6 ln), (q, .inr (4, [.ref a1, .ref a2, .int (nI us), .int (nI z13)])), (a1, aB G 400 tx), (a2, aI G 5 nn13)] := hD
            refine lv_iconst (v := nI 1) hx hb dN_readOutputs_16 (by decide) ?_
            refine lv_icmp_ne (tgt := 33) hx hb dN_readOutputs_17 rfl (fun _ => ?_) (fun h17 => (by revert h17; first | decide | exact fun z => absurd z (by decide) | exact fun z => z.elim (by decide)))
            refine lv_iconst (v := nI 0) hx hb dN_readOutputs_33 (by decide) ?_
            -- end 3
            rw [← hQ]
            exact k_iret hx hb hr hlocks (by decide) (u := (mw, ow, nn13, z13)) (Or.inr ⟨_, _, _, _, no_ln3 (k := k) (by omega) (by rw [← hpw]; exact ex_none1 hc13_e (by decide)), hc13_b, rfl, rfl⟩) hP hD hK hS dN_readOutputs_34
    have hl : lv_has ls 3 [(0, .ref qn), (1, .ref q), (2, .int (nI 0))] := lv_sub hl [1, 2, 0] rfl
    have g0 := hH 0 (by omega)
    have g1 := hH 1 (by omega)
    have g2 := hH 2 (by omega)
    have g3 := hH 3 (by omega)
    have g4 := hH 4 (by omega)
    have t0 := hd_lt (lk tx us) 0
    have t1 := hd_lt (lk tx us) 1
    have t2 := hd_lt (lk tx us) 2
    have t3 := hd_lt (lk tx us) 3
    have t4 := hd_lt (lk tx us) 4
    exact loop2 (hh 3 - 0 + 1) 0 nm pl mt ol _ _ _ (by omega) (by omega) hp hpl (fun j hj => absurd hj (Nat.not_lt_zero j)) hN hP hD hS hl
  rw [hH, hlc] at hgo
  exact hgo
set_option maxRecDepth 100000 in
set_option maxHeartbeats 4000000 in
theorem k_N_readGate (l : Launch) (G : GG) (sz : Nat) (qn : Nat) (n1 : Nat) (n2 : Nat) (n3 : Nat) (n4 : Nat) (n5 : Nat) (n6 : Nat) (n7 : Nat) (n8 : Nat) (n9 : Nat) (n10 : Nat) (sa : Nat) (ol : Nat) (hh : Nat → Nat) (df : Nat → Bool) (mt : Nat → Bool) (ig : Nat → Bool) (gl : Nat → Nat) (gr : Nat → Nat) (a2 : Nat) (nm : Nat → Nat) (hm0 : nm 0 < 100) (hm1 : nm 1 < 100) (hm2 : nm 2 < 100) (hh0 : hh 0 < 100) : Ki l yN_readGate cN_readGate 4 .boolean 2 43 G [.ref qn, .ref a2] [(qn, .inr (3, [.ref n1, .ref n2, .ref n3, .ref n4, .ref n5, .ref n6, .ref n7, .ref n8, .ref n9, .int (nI sa), .int (nI ol), .ref n10])), (n1, aI G 5 hh), (n2, aZ G 50 df), (n3, aZ G 50 mt), (n4, aZ G 50 ig), (n5, aI G 50 gl), (n6, aI G 50 gr), (a2, aI G 5 nm)] sz (fun (r : Int32) (u : (Nat → Bool) × (Nat → Bool) × (Nat → Bool) × (Nat → Nat) × (Nat → Nat)) => ((((nm 1 < nm 0 ∧ nm 2 < nm 0) ∧ (2 ≤ nm 0 ∧ nm 0 % 2 = 0 ∧ nm 0 ≤ 2 * hh 0 + 1 ∧ df (nm 0 / 2) = false) ∧ nm 1 ≤ 2 * hh 0 + 1 ∧ nm 2 ≤ 2 * hh 0 + 1)) ∧ nI 1 = r ∧ (va_up df (nm 0 / 2) true, va_up (va_up mt (nm 1 / 2) true) (nm 2 / 2) true, va_up ig (nm 0 / 2) true, va_up gl (nm 0 / 2) (nm 1), va_up gr (nm 0 / 2) (nm 2)) = u) ∨ (∃ (d1 : Nat → Bool), ∃ (m1 : Nat → Bool), (¬ ((nm 1 < nm 0 ∧ nm 2 < nm 0) ∧ (2 ≤ nm 0 ∧ nm 0 % 2 = 0 ∧ nm 0 ≤ 2 * hh 0 + 1 ∧ df (nm 0 / 2) = false) ∧ nm 1 ≤ 2 * hh 0 + 1 ∧ nm 2 ≤ 2 * hh 0 + 1)) ∧ nI 0 = r ∧ (d1, m1, ig, gl, gr) = u)) (fun (u : (Nat → Bool) × (Nat → Bool) × (Nat → Bool) × (Nat → Nat) × (Nat → Nat)) => [(qn, .inr (3, [.ref n1, .ref n2, .ref n3, .ref n4, .ref n5, .ref n6, .ref n7, .ref n8, .ref n9, .int (nI sa), .int (nI ol), .ref n10])), (n1, aI G 5 hh), (n2, aZ G 50 u.1), (n3, aZ G 50 u.2.1), (n4, aZ G 50 u.2.2.1), (n5, aI G 50 u.2.2.2.1), (n6, aI G 50 u.2.2.2.2), (a2, aI G 5 nm)]) := by
  refine Met.ofW (cc := cN_readGate) (maxL := 4) (ret := (some .boolean)) (by decide) rfl ?_
  intro p e s m args below meth c s₁ B hml hv
  obtain ⟨hav, hsz, hP, hK, hD0, hE⟩ := hv
  have hx := B.exec
  have hb := B.bytes
  have hr := B.returns
  have htb : ∀ w ∈ TB, w.before args s = true := fun w h => atoms_spec (ws := Cond.code yN_readGate cN_readGate 4 (some .boolean) :: TB) B.pre w (List.mem_cons_of_mem _ h)
  have hown : s.vm.findClass "CircuitProver$Netlist" = some m.cls := findClass_of_methodNamed B.named
  have hlocks := B.notSynchronized
  subst hsz
  have hD := hD0.self (sz := s.heap.size)
  clear hD0
  generalize hRm : (headSpec (Cond.code yN_readGate cN_readGate 4 (some .boolean) :: TB) { frames := 2, cells := 0, slots := 0, locals := 43 }).room = R
  have hRf : R.frames = 2 := by rw [← hRm]; rfl
  have hRl : R.locals = 43 := by rw [← hRm]; rfl
  have hRc : R.cells = 0 := by rw [← hRm]; rfl
  have hRs : R.slots = 0 := by rw [← hRm]; rfl
  clear hRm
  generalize hAe : va_A [(qn, .inr (3, [.ref n1, .ref n2, .ref n3, .ref n4, .ref n5, .ref n6, .ref n7, .ref n8, .ref n9, .int (nI sa), .int (nI ol), .ref n10])), (n1, aI G 5 hh), (n2, aZ G 50 df), (n3, aZ G 50 mt), (n4, aZ G 50 ig), (n5, aI G 50 gl), (n6, aI G 50 gr), (a2, aI G 5 nm)] s.heap.size = A at hD hE ⊢
  have hA : ∀ q : Nat, s.heap.size ≤ q → A q := fun q h => by rw [← hAe]; exact Or.inr h
  clear hAe
  have hS : va_S A s.heap s.heap [] := va_S.rf
  have hl := lv_entry ([.ref qn, .ref a2]) (n := 4) (Nat.le_of_ble_eq_true rfl)
  have hent := lg_entry_eq m ([.ref qn, .ref a2]) 4
  rw [← hav] at hent
  rw [hent]
  clear hent hav
  generalize (lg_sl ([.ref qn, .ref a2]) ++ List.replicate (4 - (lg_sl ([.ref qn, .ref a2])).length) Slot.unset).toArray = ls at hl ⊢
  have hl : lv_has ls 4 [(0, .ref qn), (1, .ref a2)] := hl
  generalize hQ : MQ below _ args s 0 0 _ = Q
  have hP : va_P (gD G) vC [(qn, .inr (3, [.ref n1, .ref n2, .ref n3, .ref n4, .ref n5, .ref n6, .ref n7, .ref n8, .ref n9, .int (nI sa), .int (nI ol), .ref n10])), (n1, aI G 5 hh), (n2, aZ G 50 df), (n3, aZ G 50 mt), (n4, aZ G 50 ig), (n5, aI G 50 gl), (n6, aI G 50 gr), (a2, aI G 5 nm)] s.heap := hP
  obtain ⟨H, hH⟩ : ∃ H : Heap, H = s.heap := ⟨_, rfl⟩
  obtain ⟨locs, hlc⟩ : ∃ L : List Loc, L = [] := ⟨_, rfl⟩
  have hS : va_S A s.heap H locs := by rw [hH, hlc]; exact hS
  have hP : va_P (gD G) vC [(qn, .inr (3, [.ref n1, .ref n2, .ref n3, .ref n4, .ref n5, .ref n6, .ref n7, .ref n8, .ref n9, .int (nI sa), .int (nI ol), .ref n10])), (n1, aI G 5 hh), (n2, aZ G 50 df), (n3, aZ G 50 mt), (n4, aZ G 50 ig), (n5, aI G 50 gl), (n6, aI G 50 gr), (a2, aI G 5 nm)] H := by rw [hH]; exact hP
  have hgo : W p l e R s m args below meth c H locs 0 0 Q (F0 m 0 ls []) := by
    clear hH hlc
    refine lv_aload_n hx hb dN_readGate_0 rfl (lv_at hl 1 rfl) ?_
    refine lv_iconst (v := nI 0) hx hb dN_readGate_1 (by decide) ?_
    refine k_iald hx hb hK hP 7 rfl (k := 0) (by omega) (by decide) dN_readGate_2 ?_
    refine lv_istore_n (lv' := [(2, .int (nI (nm 0))), (0, .ref qn), (1, .ref a2)]) hx hb dN_readGate_3 rfl hl (by decide) rfl (fun ls hl => ?_)
    refine lv_aload_n hx hb dN_readGate_4 rfl (lv_at hl 2 rfl) ?_
    refine lv_iconst (v := nI 1) hx hb dN_readGate_5 (by decide) ?_
    refine k_iald hx hb hK hP 7 rfl (k := 1) (by omega) (by decide) dN_readGate_6 ?_
    refine lv_iload_n hx hb dN_readGate_7 rfl (lv_at hl 0 rfl) ?_
    refine lv_icmp_ge (tgt := 18) hx hb dN_readGate_8 rfl (fun h8 => ?_) (fun h8 => ?_)
    · have h8 : nm 0 ≤ nm 1 := (nI_leI (a := nm 0) (b := nm 1) (by omega) (by omega)).mp h8
      refine lv_iconst (v := nI 0) hx hb dN_readGate_18 (by decide) ?_
      -- end 0
      rw [← hQ]
      exact k_iret hx hb hr hlocks (by decide) (u := (df, mt, ig, gl, gr)) (Or.inr ⟨_, _, fun z => by omega, rfl, rfl⟩) hP hD hK hS dN_readGate_19
    · have h8 : nm 1 < nm 0 := Nat.lt_of_not_le (fun z => h8 ((nI_leI (a := nm 0) (b := nm 1) (by omega) (by omega)).mpr z))
      refine lv_aload_n hx hb dN_readGate_11 rfl (lv_at hl 2 rfl) ?_
      refine lv_iconst (v := nI 2) hx hb dN_readGate_12 (by decide) ?_
      refine k_iald hx hb hK hP 7 rfl (k := 2) (by omega) (by decide) dN_readGate_13 ?_
      refine lv_iload_n hx hb dN_readGate_14 rfl (lv_at hl 0 rfl) ?_
      refine lv_icmp_lt (tgt := 20) hx hb dN_readGate_15 rfl (fun h15 => ?_) (fun h15 => ?_)
      · have h15 : nm 2 < nm 0 := (nI_ltI (a := nm 2) (b := nm 0) (by omega) (by omega)).mp h15
        refine lv_aload_n hx hb dN_readGate_20 rfl (lv_at hl 1 rfl) ?_
        refine lv_iload_n hx hb dN_readGate_21 rfl (lv_at hl 0 rfl) ?_
        refine k_i (ws2 := fun u => [(qn, .inr (3, [.ref n1, .ref n2, .ref n3, .ref n4, .ref n5, .ref n6, .ref n7, .ref n8, .ref n9, .int (nI sa), .int (nI ol), .ref n10])), (n1, aI G 5 hh), (n2, aZ G 50 (u)), (n3, aZ G 50 mt), (n4, aZ G 50 ig), (n5, aI G 50 gl), (n6, aI G 50 gr), (a2, aI G 5 nm)]) (wr := [(n3, aZ G 50 mt), (n4, aZ G 50 ig), (n5, aI G 50 gl), (n6, aI G 50 gr), (a2, aI G 5 nm)]) (k_runV (n := 1) (As := [.int (nI (nm 0))]) (rest := []) hx hb hml hown htb hP hD hK hS hA hE (k_N_define l G H.size qn n1 n2 n3 n4 n5 n6 n7 n8 n9 n10 sa ol hh df (nm 0) (show (nm 0) < 100 from by omega) (show hh 0 < 100 from by omega)) b278 b280 s5 b3 b281 (by decide +kernel) rfl rfl ⟨by rw [hRf]; exact Nat.le_of_ble_eq_true rfl, by rw [hRl]; exact Nat.le_of_ble_eq_true rfl⟩ [0, 1, 2] rfl (by decide) 0 rfl rfl rfl rfl hl.1 rfl (Nat.le_of_ble_eq_true rfl) dN_readGate_22 ⟨Nat.zero_le _, Nat.zero_le _⟩) hP hD hS hA [0, 1, 2] [3, 4, 5, 6, 7] [5, 6, 7, 0, 1, 2, 3, 4] rfl rfl (by decide) (by decide) (fun u => rfl) (by decide) (fun r u H locs hw hP hD hS => ?_)
        rcases hw with ⟨hc22_e, rfl, rfl⟩ | ⟨hc22_e, rfl, rfl⟩
        · skip
          have hP : va_P (gD G) vC [(qn, .inr (3, [.ref n1, .ref n2, .ref n3, .ref n4, .ref n5, .ref n6, .ref n7, .ref n8, .ref n9, .int (nI sa), .int (nI ol), .ref n10])), (n1, aI G 5 hh), (n2, aZ G 50 (va_up df ((nm 0) / 2) true)), (n3, aZ G 50 mt), (n4, aZ G 50 ig), (n5, aI G 50 gl), (n6, aI G 50 gr), (a2, aI G 5 nm)] H := hP
          have hD : va_D A [(qn, .inr (3, [.ref n1, .ref n2, .ref n3, .ref n4, .ref n5, .ref n6, .ref n7, .ref n8, .ref n9, .int (nI sa), .int (nI ol), .ref n10])), (n1, aI G 5 hh), (n2, aZ G 50 (va_up df ((nm 0) / 2) true)), (n3, aZ G 50 mt), (n4, aZ G 50 ig), (n5, aI G 50 gl), (n6, aI G 50 gr), (a2, aI G 5 nm)] := hD
          refine lv_if_eq (tgt := 48) hx hb dN_readGate_25 rfl (fun h25 => (by revert h25; first | decide | exact fun z => absurd z (by decide) | exact fun z => z.elim (by decide))) (fun _ => ?_)
          refine lv_aload_n hx hb dN_readGate_28 rfl (lv_at hl 1 rfl) ?_
          refine lv_aload_n hx hb dN_readGate_29 rfl (lv_at hl 2 rfl) ?_
          refine lv_iconst (v := nI 1) hx hb dN_readGate_30 (by decide) ?_
          refine k_iald hx hb hK hP 7 rfl (k := 1) (by omega) (by decide) dN_readGate_31 ?_
          refine k_i (ws2 := fun u => [(qn, .inr (3, [.ref n1, .ref n2, .ref n3, .ref n4, .ref n5, .ref n6, .ref n7, .ref n8, .ref n9, .int (nI sa), .int (nI ol), .ref n10])), (n1, aI G 5 hh), (n2, aZ G 50 (va_up df ((nm 0) / 2) true)), (n3, aZ G 50 (u)), (n4, aZ G 50 ig), (n5, aI G 50 gl), (n6, aI G 50 gr), (a2, aI G 5 nm)]) (wr := [(n2, aZ G 50 (va_up df ((nm 0) / 2) true)), (n4, aZ G 50 ig), (n5, aI G 50 gl), (n6, aI G 50 gr), (a2, aI G 5 nm)]) (k_runV (n := 1) (As := [.int (nI (nm 1))]) (rest := []) hx hb hml hown htb hP hD hK hS hA hE (k_N_mention l G H.size qn n1 n2 n3 n4 n5 n6 n7 n8 n9 n10 sa ol hh mt (nm 1) (show (nm 1) < 100 from by omega) (show hh 0 < 100 from by omega)) b290 b292 s8 b3 b293 (by decide +kernel) rfl rfl ⟨by rw [hRf]; exact Nat.le_of_ble_eq_true rfl, by rw [hRl]; exact Nat.le_of_ble_eq_true rfl⟩ [0, 1, 3] rfl (by decide) 0 rfl rfl rfl rfl hl.1 rfl (Nat.le_of_ble_eq_true rfl) dN_readGate_32 ⟨Nat.zero_le _, Nat.zero_le _⟩) hP hD hS hA [0, 1, 3] [2, 4, 5, 6, 7] [5, 6, 0, 7, 1, 2, 3, 4] rfl rfl (by decide) (by decide) (fun u => rfl) (by decide) (fun r u H locs hw hP hD hS => ?_)
          rcases hw with ⟨hc32_e, rfl, rfl⟩ | ⟨hc32_e, rfl, rfl⟩
          · skip
            have hP : va_P (gD G) vC [(qn, .inr (3, [.ref n1, .ref n2, .ref n3, .ref n4, .ref n5, .ref n6, .ref n7, .ref n8, .ref n9, .int (nI sa), .int (nI ol), .ref n10])), (n1, aI G 5 hh), (n2, aZ G 50 (va_up df ((nm 0) / 2) true)), (n3, aZ G 50 (va_up mt ((nm 1) / 2) true)), (n4, aZ G 50 ig), (n5, aI G 50 gl), (n6, aI G 50 gr), (a2, aI G 5 nm)] H := hP
            have hD : va_D A [(qn, .inr (3, [.ref n1, .ref n2, .ref n3, .ref n4, .ref n5, .ref n6, .ref n7, .ref n8, .ref n9, .int (nI sa), .int (nI ol), .ref n10])), (n1, aI G 5 hh), (n2, aZ G 50 (va_up df ((nm 0) / 2) true)), (n3, aZ G 50 (va_up mt ((nm 1) / 2) true)), (n4, aZ G 50 ig), (n5, aI G 50 gl), (n6, aI G 50 gr), (a2, aI G 5 nm)] := hD
            refine lv_if_eq (tgt := 48) hx hb dN_readGate_35 rfl (fun h35 => (by revert h35; first | decide | exact fun z => absurd z (by decide) | exact fun z => z.elim (by decide))) (fun _ => ?_)
            refine lv_aload_n hx hb dN_readGate_38 rfl (lv_at hl 1 rfl) ?_
            refine lv_aload_n hx hb dN_readGate_39 rfl (lv_at hl 2 rfl) ?_
            refine lv_iconst (v := nI 2) hx hb dN_readGate_40 (by decide) ?_
            refine k_iald hx hb hK hP 7 rfl (k := 2) (by omega) (by decide) dN_readGate_41 ?_
            refine k_i (ws2 := fun u => [(qn, .inr (3, [.ref n1, .ref n2, .ref n3, .ref n4, .ref n5, .ref n6, .ref n7, .ref n8, .ref n9, .int (nI sa), .int (nI ol), .ref n10])), (n1, aI G 5 hh), (n2, aZ G 50 (va_up df ((nm 0) / 2) true)), (n3, aZ G 50 (u)), (n4, aZ G 50 ig), (n5, aI G 50 gl), (n6, aI G 50 gr), (a2, aI G 5 nm)]) (wr := [(n2, aZ G 50 (va_up df ((nm 0) / 2) true)), (n4, aZ G 50 ig), (n5, aI G 50 gl), (n6, aI G 50 gr), (a2, aI G 5 nm)]) (k_runV (n := 1) (As := [.int (nI (nm 2))]) (rest := []) hx hb hml hown htb hP hD hK hS hA hE (k_N_mention l G H.size qn n1 n2 n3 n4 n5 n6 n7 n8 n9 n10 sa ol hh (va_up mt ((nm 1) / 2) true) (nm 2) (show (nm 2) < 100 from by omega) (show hh 0 < 100 from by omega)) b290 b292 s8 b3 b293 (by decide +kernel) rfl rfl ⟨by rw [hRf]; exact Nat.le_of_ble_eq_true rfl, by rw [hRl]; exact Nat.le_of_ble_eq_true rfl⟩ [0, 1, 3] rfl (by decide) 0 rfl rfl rfl rfl hl.1 rfl (Nat.le_of_ble_eq_true rfl) dN_readGate_42 ⟨Nat.zero_le _, Nat.zero_le _⟩) hP hD hS hA [0, 1, 3] [2, 4, 5, 6, 7] [5, 6, 0, 7, 1, 2, 3, 4] rfl rfl (by decide) (by decide) (fun u => rfl) (by decide) (fun r u H locs hw hP hD hS => ?_)
            rcases hw with ⟨hc42_e, rfl, rfl⟩ | ⟨hc42_e, rfl, rfl⟩
            · skip
              have hP : va_P (gD G) vC [(qn, .inr (3, [.ref n1, .ref n2, .ref n3, .ref n4, .ref n5, .ref n6, .ref n7, .ref n8, .ref n9, .int (nI sa), .int (nI ol), .ref n10])), (n1, aI G 5 hh), (n2, aZ G 50 (va_up df ((nm 0) / 2) true)), (n3, aZ G 50 (va_up (va_up mt ((nm 1) / 2) true) ((nm 2) / 2) true)), (n4, aZ G 50 ig), (n5, aI G 50 gl), (n6, aI G 50 gr), (a2, aI G 5 nm)] H := hP
              have hD : va_D A [(qn, .inr (3, [.ref n1, .ref n2, .ref n3, .ref n4, .ref n5, .ref n6, .ref n7, .ref n8, .ref n9, .int (nI sa), .int (nI ol), .ref n10])), (n1, aI G 5 hh), (n2, aZ G 50 (va_up df ((nm 0) / 2) true)), (n3, aZ G 50 (va_up (va_up mt ((nm 1) / 2) true) ((nm 2) / 2) true)), (n4, aZ G 50 ig), (n5, aI G 50 gl), (n6, aI G 50 gr), (a2, aI G 5 nm)] := hD
              refine lv_if_ne (tgt := 50) hx hb dN_readGate_45 rfl (fun _ => ?_) (fun h45 => (by revert h45; first | decide | exact fun z => absurd z (by decide) | exact fun z => z.elim (by decide)))
              refine lv_iload_n hx hb dN_readGate_50 rfl (lv_at hl 0 rfl) ?_
              refine lv_iconst (v := nI 1) hx hb dN_readGate_51 (by decide) ?_
              refine lv_ishr hx hb dN_readGate_52 ?_
              refine k_toi (y := nI ((nm 0) / 2)) (pk_shrN (by omega) _ 1 (by decide)) ?_
              refine lv_istore_n (lv' := [(3, .int (nI ((nm 0) / 2))), (2, .int (nI (nm 0))), (0, .ref qn), (1, .ref a2)]) hx hb dN_readGate_53 rfl hl (by decide) rfl (fun ls hl => ?_)
              refine lv_aload_n hx hb dN_readGate_54 rfl (lv_at hl 2 rfl) ?_
              refine va_get (D := gD G) (ci := 3) (v := .ref n4) (C := "CircuitProver$Netlist") (T := TN) (N := 12) hx hb htb inN hown hK hP 0 rfl rfl 3 (by decide) (htb _ b59) (fun _ h9 => h9) rfl dN_readGate_55 ?_
              refine lv_iload_n hx hb dN_readGate_58 rfl (lv_at hl 0 rfl) ?_
              refine lv_iconst (v := nI 1) hx hb dN_readGate_59 (by decide) ?_
              refine k_toi (y := zB true) (by decide) ?_
              refine k_zast hx hb hK hP hD hS 4 rfl (k := (nm 0) / 2) (v := true) (by omega) (by decide) dN_readGate_60 (fun H locs hP hD hS => ?_)
              have hP : va_P (gD G) vC [(qn, .inr (3, [.ref n1, .ref n2, .ref n3, .ref n4, .ref n5, .ref n6, .ref n7, .ref n8, .ref n9, .int (nI sa), .int (nI ol), .ref n10])), (n1, aI G 5 hh), (n2, aZ G 50 (va_up df ((nm 0) / 2) true)), (n3, aZ G 50 (va_up (va_up mt ((nm 1) / 2) true) ((nm 2) / 2) true)), (n4, aZ G 50 (va_up ig ((nm 0) / 2) true)), (n5, aI G 50 gl), (n6, aI G 50 gr), (a2, aI G 5 nm)] H := hP
              have hD : va_D A [(qn, .inr (3, [.ref n1, .ref n2, .ref n3, .ref n4, .ref n5, .ref n6, .ref n7, .ref n8, .ref n9, .int (nI sa), .int (nI ol), .ref n10])), (n1, aI G 5 hh), (n2, aZ G 50 (va_up df ((nm 0) / 2) true)), (n3, aZ G 50 (va_up (va_up mt ((nm 1) / 2) true) ((nm 2) / 2) true)), (n4, aZ G 50 (va_up ig ((nm 0) / 2) true)), (n5, aI G 50 gl), (n6, aI G 50 gr), (a2, aI G 5 nm)] := hD
              refine lv_aload_n hx hb dN_readGate_61 rfl (lv_at hl 2 rfl) ?_
              refine va_get (D := gD G) (ci := 3) (v := .ref n5) (C := "CircuitProver$Netlist") (T := TN) (N := 12) hx hb htb inN hown hK hP 0 rfl rfl 4 (by decide) (htb _ b60) (fun _ h9 => h9) rfl dN_readGate_62 ?_
              refine lv_iload_n hx hb dN_readGate_65 rfl (lv_at hl 0 rfl) ?_
              refine lv_aload_n hx hb dN_readGate_66 rfl (lv_at hl 3 rfl) ?_
              refine lv_iconst (v := nI 1) hx hb dN_readGate_67 (by decide) ?_
              refine k_iald hx hb hK hP 7 rfl (k := 1) (by omega) (by decide) dN_readGate_68 ?_
              refine k_iast hx hb hK hP hD hS 5 rfl (k := (nm 0) / 2) (v := nm 1) (by omega) (by decide) dN_readGate_69 (fun H locs hP hD hS => ?_)
              have hP : va_P (gD G) vC [(qn, .inr (3, [.ref n1, .ref n2, .ref n3, .ref n4, .ref n5, .ref n6, .ref n7, .ref n8, .ref n9, .int (nI sa), .int (nI ol), .ref n10])), (n1, aI G 5 hh), (n2, aZ G 50 (va_up df ((nm 0) / 2) true)), (n3, aZ G 50 (va_up (va_up mt ((nm 1) / 2) true) ((nm 2) / 2) true)), (n4, aZ G 50 (va_up ig ((nm 0) / 2) true)), (n5, aI G 50 (va_up gl ((nm 0) / 2) (nm 1))), (n6, aI G 50 gr), (a2, aI G 5 nm)] H := hP
              have hD : va_D A [(qn, .inr (3, [.ref n1, .ref n2, .ref n3, .ref n4, .ref n5, .ref n6, .ref n7, .ref n8, .ref n9, .int (nI sa), .int (nI ol), .ref n10])), (n1, aI G 5 hh), (n2, aZ G 50 (va_up df ((nm 0) / 2) true)), (n3, aZ G 50 (va_up (va_up mt ((nm 1) / 2) true) ((nm 2) / 2) true)), (n4, aZ G 50 (va_up ig ((nm 0) / 2) true)), (n5, aI G 50 (va_up gl ((nm 0) / 2) (nm 1))), (n6, aI G 50 gr), (a2, aI G 5 nm)] := hD
              refine lv_aload_n hx hb dN_readGate_70 rfl (lv_at hl 2 rfl) ?_
              refine va_get (D := gD G) (ci := 3) (v := .ref n6) (C := "CircuitProver$Netlist") (T := TN) (N := 12) hx hb htb inN hown hK hP 0 rfl rfl 5 (by decide) (htb _ b61) (fun _ h9 => h9) rfl dN_readGate_71 ?_
              refine lv_iload_n hx hb dN_readGate_74 rfl (lv_at hl 0 rfl) ?_
              refine lv_aload_n hx hb dN_readGate_75 rfl (lv_at hl 3 rfl) ?_
              refine lv_iconst (v := nI 2) hx hb dN_readGate_76 (by decide) ?_
              refine k_iald hx hb hK hP 7 rfl (k := 2) (by omega) (by decide) dN_readGate_77 ?_
              refine k_iast hx hb hK hP hD hS 6 rfl (k := (nm 0) / 2) (v := nm 2) (by omega) (by decide) dN_readGate_78 (fun H locs hP hD hS => ?_)
              have hP : va_P (gD G) vC [(qn, .inr (3, [.ref n1, .ref n2, .ref n3, .ref n4, .ref n5, .ref n6, .ref n7, .ref n8, .ref n9, .int (nI sa), .int (nI ol), .ref n10])), (n1, aI G 5 hh), (n2, aZ G 50 (va_up df ((nm 0) / 2) true)), (n3, aZ G 50 (va_up (va_up mt ((nm 1) / 2) true) ((nm 2) / 2) true)), (n4, aZ G 50 (va_up ig ((nm 0) / 2) true)), (n5, aI G 50 (va_up gl ((nm 0) / 2) (nm 1))), (n6, aI G 50 (va_up gr ((nm 0) / 2) (nm 2))), (a2, aI G 5 nm)] H := hP
              have hD : va_D A [(qn, .inr (3, [.ref n1, .ref n2, .ref n3, .ref n4, .ref n5, .ref n6, .ref n7, .ref n8, .ref n9, .int (nI sa), .int (nI ol), .ref n10])), (n1, aI G 5 hh), (n2, aZ G 50 (va_up df ((nm 0) / 2) true)), (n3, aZ G 50 (va_up (va_up mt ((nm 1) / 2) true) ((nm 2) / 2) true)), (n4, aZ G 50 (va_up ig ((nm 0) / 2) true)), (n5, aI G 50 (va_up gl ((nm 0) / 2) (nm 1))), (n6, aI G 50 (va_up gr ((nm 0) / 2) (nm 2))), (a2, aI G 5 nm)] := hD
              refine lv_iconst (v := nI 1) hx hb dN_readGate_79 (by decide) ?_
              -- end 1
              rw [← hQ]
              exact k_iret hx hb hr hlocks (by decide) (u := ((va_up df ((nm 0) / 2) true), (va_up (va_up mt ((nm 1) / 2) true) ((nm 2) / 2) true), va_up ig ((nm 0) / 2) true, va_up gl ((nm 0) / 2) (nm 1), va_up gr ((nm 0) / 2) (nm 2))) (Or.inl ⟨⟨by omega, hc22_e, by omega, by omega⟩, rfl, rfl⟩) hP hD hK hS dN_readGate_80
            · skip
              have hP : va_P (gD G) vC [(qn, .inr (3, [.ref n1, .ref n2, .ref n3, .ref n4, .ref n5, .ref n6, .ref n7, .ref n8, .ref n9, .int (nI sa), .int (nI ol), .ref n10])), (n1, aI G 5 hh), (n2, aZ G 50 (va_up df ((nm 0) / 2) true)), (n3, aZ G 50 (va_up mt ((nm 1) / 2) true)), (n4, aZ G 50 ig), (n5, aI G 50 gl), (n6, aI G 50 gr), (a2, aI G 5 nm)] H := hP
              have hD : va_D A [(qn, .inr (3, [.ref n1, .ref n2, .ref n3, .ref n4, .ref n5, .ref n6, .ref n7, .ref n8, .ref n9, .int (nI sa), .int (nI ol), .ref n10])), (n1, aI G 5 hh), (n2, aZ G 50 (va_up df ((nm 0) / 2) true)), (n3, aZ G 50 (va_up mt ((nm 1) / 2) true)), (n4, aZ G 50 ig), (n5, aI G 50 gl), (n6, aI G 50 gr), (a2, aI G 5 nm)] := hD
              refine lv_if_ne (tgt := 50) hx hb dN_readGate_45 rfl (fun h45 => (by revert h45; first | decide | exact fun z => absurd z (by decide) | exact fun z => z.elim (by decide))) (fun _ => ?_)
              refine lv_iconst (v := nI 0) hx hb dN_readGate_48 (by decide) ?_
              -- end 2
              rw [← hQ]
              exact k_iret hx hb hr hlocks (by decide) (u := ((va_up df ((nm 0) / 2) true), (va_up mt ((nm 1) / 2) true), ig, gl, gr)) (Or.inr ⟨_, _, fun z => hc42_e z.2.2.2, rfl, rfl⟩) hP hD hK hS dN_readGate_49
          · skip
            have hP : va_P (gD G) vC [(qn, .inr (3, [.ref n1, .ref n2, .ref n3, .ref n4, .ref n5, .ref n6, .ref n7, .ref n8, .ref n9, .int (nI sa), .int (nI ol), .ref n10])), (n1, aI G 5 hh), (n2, aZ G 50 (va_up df ((nm 0) / 2) true)), (n3, aZ G 50 mt), (n4, aZ G 50 ig), (n5, aI G 50 gl), (n6, aI G 50 gr), (a2, aI G 5 nm)] H := hP
            have hD : va_D A [(qn, .inr (3, [.ref n1, .ref n2, .ref n3, .ref n4, .ref n5, .ref n6, .ref n7, .ref n8, .ref n9, .int (nI sa), .int (nI ol), .ref n10])), (n1, aI G 5 hh), (n2, aZ G 50 (va_up df ((nm 0) / 2) true)), (n3, aZ G 50 mt), (n4, aZ G 50 ig), (n5, aI G 50 gl), (n6, aI G 50 gr), (a2, aI G 5 nm)] := hD
            refine lv_if_eq (tgt := 48) hx hb dN_readGate_35 rfl (fun _ => ?_) (fun h35 => (by revert h35; first | decide | exact fun z => absurd z (by decide) | exact fun z => z.elim (by decide)))
            refine lv_iconst (v := nI 0) hx hb dN_readGate_48 (by decide) ?_
            -- end 3
            rw [← hQ]
            exact k_iret hx hb hr hlocks (by decide) (u := ((va_up df ((nm 0) / 2) true), mt, ig, gl, gr)) (Or.inr ⟨_, _, fun z => hc32_e z.2.2.1, rfl, rfl⟩) hP hD hK hS dN_readGate_49
        · skip
          have hP : va_P (gD G) vC [(qn, .inr (3, [.ref n1, .ref n2, .ref n3, .ref n4, .ref n5, .ref n6, .ref n7, .ref n8, .ref n9, .int (nI sa), .int (nI ol), .ref n10])), (n1, aI G 5 hh), (n2, aZ G 50 df), (n3, aZ G 50 mt), (n4, aZ G 50 ig), (n5, aI G 50 gl), (n6, aI G 50 gr), (a2, aI G 5 nm)] H := hP
          have hD : va_D A [(qn, .inr (3, [.ref n1, .ref n2, .ref n3, .ref n4, .ref n5, .ref n6, .ref n7, .ref n8, .ref n9, .int (nI sa), .int (nI ol), .ref n10])), (n1, aI G 5 hh), (n2, aZ G 50 df), (n3, aZ G 50 mt), (n4, aZ G 50 ig), (n5, aI G 50 gl), (n6, aI G 50 gr), (a2, aI G 5 nm)] := hD
          refine lv_if_eq (tgt := 48) hx hb dN_readGate_25 rfl (fun _ => ?_) (fun h25 => (by revert h25; first | decide | exact fun z => absurd z (by decide) | exact fun z => z.elim (by decide)))
          refine lv_iconst (v := nI 0) hx hb dN_readGate_48 (by decide) ?_
          -- end 4
          rw [← hQ]
          exact k_iret hx hb hr hlocks (by decide) (u := (df, mt, ig, gl, gr)) (Or.inr ⟨_, _, fun z => hc22_e z.2.1, rfl, rfl⟩) hP hD hK hS dN_readGate_49
      · have h15 : nm 0 ≤ nm 2 := Nat.le_of_not_lt (fun z => h15 ((nI_ltI (a := nm 2) (b := nm 0) (by omega) (by omega)).mpr z))
        refine lv_iconst (v := nI 0) hx hb dN_readGate_18 (by decide) ?_
        -- end 5
        rw [← hQ]
        exact k_iret hx hb hr hlocks (by decide) (u := (df, mt, ig, gl, gr)) (Or.inr ⟨_, _, fun z => by omega, rfl, rfl⟩) hP hD hK hS dN_readGate_19
  rw [hH, hlc] at hgo
  exact hgo
set_option maxRecDepth 100000 in
set_option maxHeartbeats 4000000 in
theorem k_N_readGates (l : Launch) (G : GG) (sz : Nat) (qn : Nat) (n1 : Nat) (n2 : Nat) (n3 : Nat) (n4 : Nat) (n5 : Nat) (n6 : Nat) (n7 : Nat) (n8 : Nat) (n9 : Nat) (n10 : Nat) (sa : Nat) (ol : Nat) (hh : Nat → Nat) (df : Nat → Bool) (mt : Nat → Bool) (ig : Nat → Bool) (gl : Nat → Nat) (gr : Nat → Nat) (iv : Nat → Nat) (lv : Nat → Nat) (ln : Nat → Nat) (q : Nat) (a1 : Nat) (a2 : Nat) (tx : Nat → Nat) (nm : Nat → Nat) (us : Nat) (pl : Nat) (hus : us ≤ 400) (hpl : pl ≤ us) (htx : ∀ j, tx j < 128) (hH : ∀ c, c < 5 → hh c = hd (lk tx us) c) (hp : pl = e3 (lk tx us)) (hN : nS (lk tx us) (hd (lk tx us) 1) (hd (lk tx us) 2) (hd (lk tx us) 3) 0 df mt ig gl gr iv lv ln sa ol) : Ki l yN_readGates cN_readGates 3 .boolean 3 66 G [.ref qn, .ref q] [(qn, .inr (3, [.ref n1, .ref n2, .ref n3, .ref n4, .ref n5, .ref n6, .ref n7, .ref n8, .ref n9, .int (nI sa), .int (nI ol), .ref n10])), (n1, aI G 5 hh), (n2, aZ G 50 df), (n3, aZ G 50 mt), (n4, aZ G 50 ig), (n5, aI G 50 gl), (n6, aI G 50 gr), (n7, aI G 3 iv), (n8, aI G 6 lv), (n9, aI G 6 ln), (q, .inr (4, [.ref a1, .ref a2, .int (nI us), .int (nI pl)])), (a1, aB G 400 tx), (a2, aI G 5 nm)] sz (fun (r : Int32) (u : (Nat → Bool) × (Nat → Bool) × (Nat → Bool) × (Nat → Nat) × (Nat → Nat) × (Nat → Nat) × Nat) => (∃ (d1 : Nat → Bool), ∃ (m1 : Nat → Bool), ∃ (i1 : Nat → Bool), ∃ (g1 : Nat → Nat), ∃ (r1 : Nat → Nat), ∃ (nn : Nat → Nat), ∃ (z : Nat), okl (exF (lk tx us) 3) (e3 (lk tx us)) (hd (lk tx us) 4) ∧ nS (lk tx us) (hd (lk tx us) 1) (hd (lk tx us) 2) (hd (lk tx us) 3) (hd (lk tx us) 4) d1 m1 i1 g1 r1 iv lv ln sa ol ∧ z = e4 (lk tx us) ∧ z ≤ us ∧ nI 1 = r ∧ (d1, m1, i1, g1, r1, nn, z) = u) ∨ (∃ (d1 : Nat → Bool), ∃ (m1 : Nat → Bool), ∃ (i1 : Nat → Bool), ∃ (g1 : Nat → Nat), ∃ (r1 : Nat → Nat), ∃ (nn : Nat → Nat), ∃ (z : Nat), ¬ circOK (lk tx us) us ∧ z ≤ us ∧ nI 0 = r ∧ (d1, m1, i1, g1, r1, nn, z) = u)) (fun (u : (Nat → Bool) × (Nat → Bool) × (Nat → Bool) × (Nat → Nat) × (Nat → Nat) × (Nat → Nat) × Nat) => [(qn, .inr (3, [.ref n1, .ref n2, .ref n3, .ref n4, .ref n5, .ref n6, .ref n7, .ref n8, .ref n9, .int (nI sa), .int (nI ol), .ref n10])), (n1, aI G 5 hh), (n2, aZ G 50 u.1), (n3, aZ G 50 u.2.1), (n4, aZ G 50 u.2.2.1), (n5, aI G 50 u.2.2.2.1), (n6, aI G 50 u.2.2.2.2.1), (n7, aI G 3 iv), (n8, aI G 6 lv), (n9, aI G 6 ln), (q, .inr (4, [.ref a1, .ref a2, .int (nI us), .int (nI u.2.2.2.2.2.2)])), (a1, aB G 400 tx), (a2, aI G 5 u.2.2.2.2.2.1)]) := by
  refine Met.ofW (cc := cN_readGates) (maxL := 3) (ret := (some .boolean)) (by decide) rfl ?_
  intro p e s m args below meth c s₁ B hml hv
  obtain ⟨hav, hsz, hP, hK, hD0, hE⟩ := hv
  have hx := B.exec
  have hb := B.bytes
  have hr := B.returns
  have htb : ∀ w ∈ TB, w.before args s = true := fun w h => atoms_spec (ws := Cond.code yN_readGates cN_readGates 3 (some .boolean) :: TB) B.pre w (List.mem_cons_of_mem _ h)
  have hown : s.vm.findClass "CircuitProver$Netlist" = some m.cls := findClass_of_methodNamed B.named
  have hlocks := B.notSynchronized
  subst hsz
  have hD := hD0.self (sz := s.heap.size)
  clear hD0
  generalize hRm : (headSpec (Cond.code yN_readGates cN_readGates 3 (some .boolean) :: TB) { frames := 3, cells := 0, slots := 0, locals := 66 }).room = R
  have hRf : R.frames = 3 := by rw [← hRm]; rfl
  have hRl : R.locals = 66 := by rw [← hRm]; rfl
  have hRc : R.cells = 0 := by rw [← hRm]; rfl
  have hRs : R.slots = 0 := by rw [← hRm]; rfl
  clear hRm
  generalize hAe : va_A [(qn, .inr (3, [.ref n1, .ref n2, .ref n3, .ref n4, .ref n5, .ref n6, .ref n7, .ref n8, .ref n9, .int (nI sa), .int (nI ol), .ref n10])), (n1, aI G 5 hh), (n2, aZ G 50 df), (n3, aZ G 50 mt), (n4, aZ G 50 ig), (n5, aI G 50 gl), (n6, aI G 50 gr), (n7, aI G 3 iv), (n8, aI G 6 lv), (n9, aI G 6 ln), (q, .inr (4, [.ref a1, .ref a2, .int (nI us), .int (nI pl)])), (a1, aB G 400 tx), (a2, aI G 5 nm)] s.heap.size = A at hD hE ⊢
  have hA : ∀ q : Nat, s.heap.size ≤ q → A q := fun q h => by rw [← hAe]; exact Or.inr h
  clear hAe
  have hS : va_S A s.heap s.heap [] := va_S.rf
  have hl := lv_entry ([.ref qn, .ref q]) (n := 3) (Nat.le_of_ble_eq_true rfl)
  have hent := lg_entry_eq m ([.ref qn, .ref q]) 3
  rw [← hav] at hent
  rw [hent]
  clear hent hav
  generalize (lg_sl ([.ref qn, .ref q]) ++ List.replicate (3 - (lg_sl ([.ref qn, .ref q])).length) Slot.unset).toArray = ls at hl ⊢
  have hl : lv_has ls 3 [(0, .ref qn), (1, .ref q)] := hl
  generalize hQ : MQ below _ args s 0 0 _ = Q
  have hP : va_P (gD G) vC [(qn, .inr (3, [.ref n1, .ref n2, .ref n3, .ref n4, .ref n5, .ref n6, .ref n7, .ref n8, .ref n9, .int (nI sa), .int (nI ol), .ref n10])), (n1, aI G 5 hh), (n2, aZ G 50 df), (n3, aZ G 50 mt), (n4, aZ G 50 ig), (n5, aI G 50 gl), (n6, aI G 50 gr), (n7, aI G 3 iv), (n8, aI G 6 lv), (n9, aI G 6 ln), (q, .inr (4, [.ref a1, .ref a2, .int (nI us), .int (nI pl)])), (a1, aB G 400 tx), (a2, aI G 5 nm)] s.heap := hP
  obtain ⟨H, hH⟩ : ∃ H : Heap, H = s.heap := ⟨_, rfl⟩
  obtain ⟨locs, hlc⟩ : ∃ L : List Loc, L = [] := ⟨_, rfl⟩
  have hS : va_S A s.heap H locs := by rw [hH, hlc]; exact hS
  have hP : va_P (gD G) vC [(qn, .inr (3, [.ref n1, .ref n2, .ref n3, .ref n4, .ref n5, .ref n6, .ref n7, .ref n8, .ref n9, .int (nI sa), .int (nI ol), .ref n10])), (n1, aI G 5 hh), (n2, aZ G 50 df), (n3, aZ G 50 mt), (n4, aZ G 50 ig), (n5, aI G 50 gl), (n6, aI G 50 gr), (n7, aI G 3 iv), (n8, aI G 6 lv), (n9, aI G 6 ln), (q, .inr (4, [.ref a1, .ref a2, .int (nI us), .int (nI pl)])), (a1, aB G 400 tx), (a2, aI G 5 nm)] H := by rw [hH]; exact hP
  have hgo : W p l e R s m args below meth c H locs 0 0 Q (F0 m 0 ls []) := by
    clear hH hlc
    refine lv_iconst (v := nI 0) hx hb dN_readGates_0 (by decide) ?_
    refine lv_istore_n (lv' := [(2, .int (nI 0)), (0, .ref qn), (1, .ref q)]) hx hb dN_readGates_1 rfl hl (by decide) rfl (fun ls hl => ?_)
    have loop2 : ∀ (n : Nat) (k : Nat) (nw : Nat → Nat) (pw : Nat) (dw : Nat → Bool) (mw : Nat → Bool) (iw : Nat → Bool) (gw : Nat → Nat) (rw9 : Nat → Nat) (H : Heap) (locs : List Loc) (ls : Array Slot), hh 4 - k < n → (k ≤ hd (lk tx us) 4) → (pw = pos (exF (lk tx us) 3) (e3 (lk tx us)) k) → (pw ≤ us) → (okl (exF (lk tx us) 3) (e3 (lk tx us)) k) → (nS (lk tx us) (hd (lk tx us) 1) (hd (lk tx us) 2) (hd (lk tx us) 3) k dw mw iw gw rw9 iv lv ln sa ol) → va_P (gD G) vC [(qn, .inr (3, [.ref n1, .ref n2, .ref n3, .ref n4, .ref n5, .ref n6, .ref n7, .ref n8, .ref n9, .int (nI sa), .int (nI ol), .ref n10])), (n1, aI G 5 hh), (n2, aZ G 50 dw), (n3, aZ G 50 mw), (n4, aZ G 50 iw), (n5, aI G 50 gw), (n6, aI G 50 rw9), (n7, aI G 3 iv), (n8, aI G 6 lv), (n9, aI G 6 ln), (q, .inr (4, [.ref a1, .ref a2, .int (nI us), .int (nI pw)])), (a1, aB G 400 tx), (a2, aI G 5 nw)] H → va_D A [(qn, .inr (3, [.ref n1, .ref n2, .ref n3, .ref n4, .ref n5, .ref n6, .ref n7, .ref n8, .ref n9, .int (nI sa), .int (nI ol), .ref n10])), (n1, aI G 5 hh), (n2, aZ G 50 dw), (n3, aZ G 50 mw), (n4, aZ G 50 iw), (n5, aI G 50 gw), (n6, aI G 50 rw9), (n7, aI G 3 iv), (n8, aI G 6 lv), (n9, aI G 6 ln), (q, .inr (4, [.ref a1, .ref a2, .int (nI us), .int (nI pw)])), (a1, aB G 400 tx), (a2, aI G 5 nw)] → va_S A s.heap H locs → lv_has ls 3 [(0, .ref qn), (1, .ref q), (2, .int (nI k))] → W p l e R s m args below meth c H locs 0 0 Q (F0 m 2 ls []) := by
      intro n
      induction n with
      | zero => intro k nw pw dw mw iw gw rw9 H locs ls hmu; omega
      | succ n ih =>
        intro k nw pw dw mw iw gw rw9 H locs ls hmu hk hpw hpu ho hs hP hD hS hl
        have ih2 := ih
        clear ih
        have g0 := hH 0 (by omega)
        have g1 := hH 1 (by omega)
        have g2 := hH 2 (by omega)
        have g3 := hH 3 (by omega)
        have g4 := hH 4 (by omega)
        have t0 := hd_lt (lk tx us) 0
        have t1 := hd_lt (lk tx us) 1
        have t2 := hd_lt (lk tx us) 2
        have t3 := hd_lt (lk tx us) 3
        have t4 := hd_lt (lk tx us) 4
        refine lv_iload_n hx hb dN_readGates_2 rfl (lv_at hl 2 rfl) ?_
        refine lv_aload_n hx hb dN_readGates_3 rfl (lv_at hl 0 rfl) ?_
        refine va_get (D := gD G) (ci := 3) (v := .ref n1) (C := "CircuitProver$Netlist") (T := TN) (N := 12) hx hb htb inN hown hK hP 0 rfl rfl 0 (by decide) (htb _ b55) (fun _ h9 => h9) rfl dN_readGates_4 ?_
        refine lv_iconst (v := nI 4) hx hb dN_readGates_7 (by decide) ?_
        refine k_iald hx hb hK hP 1 rfl (k := 4) (by omega) (by decide) dN_readGates_8 ?_
        refine lv_icmp_ge (tgt := 39) hx hb dN_readGates_9 rfl (fun h9 => ?_) (fun h9 => ?_)
        · have h9 : hh 4 ≤ k := (nI_leI (a := hh 4) (b := k) (by omega) (by omega)).mp h9
          refine lv_iconst (v := nI 1) hx hb dN_readGates_39 (by decide) ?_
          -- end 0
          rw [← hQ]
          exact k_iret hx hb hr hlocks (by decide) (u := (dw, mw, iw, gw, rw9, nw, pw)) (Or.inl ⟨dw, mw, iw, gw, rw9, nw, pw, by rw [show hd (lk tx us) 4 = k by omega]; exact ho, by rw [show hd (lk tx us) 4 = k by omega]; exact hs, by unfold e4; rw [show hd (lk tx us) 4 = k by omega]; exact hpw, hpu, rfl, rfl⟩) hP hD hK hS dN_readGates_40
        · have h9 : k < hh 4 := Nat.lt_of_not_le (fun z => h9 ((nI_leI (a := hh 4) (b := k) (by omega) (by omega)).mpr z))
          refine lv_aload_n hx hb dN_readGates_12 rfl (lv_at hl 1 rfl) ?_
          refine k_i (ws2 := fun u => [(qn, .inr (3, [.ref n1, .ref n2, .ref n3, .ref n4, .ref n5, .ref n6, .ref n7, .ref n8, .ref n9, .int (nI sa), .int (nI ol), .ref n10])), (n1, aI G 5 hh), (n2, aZ G 50 dw), (n3, aZ G 50 mw), (n4, aZ G 50 iw), (n5, aI G 50 gw), (n6, aI G 50 rw9), (n7, aI G 3 iv), (n8, aI G 6 lv), (n9, aI G 6 ln), (q, .inr (4, [.ref a1, .ref a2, .int (nI us), .int (nI (u.2))])), (a1, aB G 400 tx), (a2, aI G 5 (u.1))]) (wr := [(qn, .inr (3, [.ref n1, .ref n2, .ref n3, .ref n4, .ref n5, .ref n6, .ref n7, .ref n8, .ref n9, .int (nI sa), .int (nI ol), .ref n10])), (n1, aI G 5 hh), (n2, aZ G 50 dw), (n3, aZ G 50 mw), (n4, aZ G 50 iw), (n5, aI G 50 gw), (n6, aI G 50 rw9), (n7, aI G 3 iv), (n8, aI G 6 lv), (n9, aI G 6 ln)]) (k_runV (n := 0) (As := []) (rest := []) hx hb hml hown htb hP hD hK hS hA hE (k_T_readLine l G H.size q a1 a2 tx nw us pw (show us ≤ 400 from by omega) (show pw ≤ us from by omega) (show ∀ j, tx j < 128 from by omega)) b258 b259 b260 b2 b261 (by decide +kernel) rfl rfl ⟨by rw [hRf]; exact Nat.le_of_ble_eq_true rfl, by rw [hRl]; exact Nat.le_of_ble_eq_true rfl⟩ [10, 11, 12] rfl (by decide) 10 rfl rfl rfl rfl hl.1 rfl (Nat.le_of_ble_eq_true rfl) dN_readGates_13 ⟨Nat.zero_le _, Nat.zero_le _⟩) hP hD hS hA [10, 11, 12] [0, 1, 2, 3, 4, 5, 6, 7, 8, 9] [0, 1, 2, 3, 4, 5, 6, 7, 8, 9, 10, 11, 12] rfl rfl (by decide) (by decide) (fun u => rfl) (by decide) (fun r u H locs hw hP hD hS => ?_)
          rcases hw with ⟨li13, z13, nn13, hc13_e, hc13_a, rfl, rfl⟩ | ⟨z13, nn13, hc13_e, hc13_b, rfl, rfl⟩
          · skip
            have hP : va_P (gD G) vC [(qn, .inr (3, [.ref n1, .ref n2, .ref n3, .ref n4, .ref n5, .ref n6, .ref n7, .ref n8, .ref n9, .int (nI sa), .int (nI ol), .ref n10])), (n1, aI G 5 hh), (n2, aZ G 50 dw), (n3, aZ G 50 mw), (n4, aZ G 50 iw), (n5, aI G 50 gw), (n6, aI G 50 rw9), (n7, aI G 3 iv), (n8, aI G 6 lv), (n9, aI G 6 ln), (q, .inr (4, [.ref a1, .ref a2, .int (nI us), .int (nI z13)])), (a1, aB G 400 tx), (a2, aI G 5 nn13)] H := hP
            have hD : va_D A [(qn, .inr (3, [.ref n1, .ref n2, .ref n3, .ref n4, .ref n5, .ref n6, .ref n7, .ref n8, .ref n9, .int (nI sa), .int (nI ol), .ref n10])), (n1, aI G 5 hh), (n2, aZ G 50 dw), (n3, aZ G 50 mw), (n4, aZ G 50 iw), (n5, aI G 50 gw), (n6, aI G 50 rw9), (n7, aI G 3 iv), (n8, aI G 6 lv), (n9, aI G 6 ln), (q, .inr (4, [.ref a1, .ref a2, .int (nI us), .int (nI z13)])), (a1, aB G 400 tx), (a2, aI G 5 nn13)] := hD
            have hx13 := lnF_ex hc13_e
            have hz13 := lnF_le hc13_e
            refine lv_iconst (v := nI 3) hx hb dN_readGates_16 (by decide) ?_
            refine lv_icmp_ne (tgt := 31) hx hb dN_readGates_17 rfl (fun h17 => ?_) (fun h17 => ?_)
            · have h17 : ¬ li13.length = 3 := fun z => h17 ((nI_eq (a := li13.length) (b := 3) (by omega) (by omega)).mpr z)
              refine lv_iconst (v := nI 0) hx hb dN_readGates_31 (by decide) ?_
              -- end 1
              rw [← hQ]
              exact k_iret hx hb hr hlocks (by decide) (u := (dw, mw, iw, gw, rw9, nn13, z13)) (Or.inr ⟨_, _, _, _, _, _, _, no_ln4 (k := k) (by omega) (by rw [← hpw]; exact ex_none2 hc13_e h17 (by decide)), hz13, rfl, rfl⟩) hP hD hK hS dN_readGates_32
            · have h17 : li13.length = 3 := (nI_eq (a := li13.length) (b := 3) (by omega) (by omega)).mp h17
              obtain ⟨hLn, hy0, hy1, hy2⟩ := ga_vals hpw hc13_e h17 hc13_a
              have hxl0 := xga_lt (lk tx us) k 0
              have hxl1 := xga_lt (lk tx us) k 1
              have hxl2 := xga_lt (lk tx us) k 2
              refine lv_aload_n hx hb dN_readGates_20 rfl (lv_at hl 0 rfl) ?_
              refine lv_aload_n hx hb dN_readGates_21 rfl (lv_at hl 1 rfl) ?_
              refine va_getN (D := gD G) (ci := 4) (v := .ref a2) (C := "CircuitProver$Text") (T := TT) (N := 4) hx hb htb inT hown hK hP 10 rfl rfl 1 (by decide) (va_Nw.use rfl (hE.nw n34)) (fun _ h9 => h9) rfl dN_readGates_22 ?_
              refine k_i (ws2 := fun u => [(qn, .inr (3, [.ref n1, .ref n2, .ref n3, .ref n4, .ref n5, .ref n6, .ref n7, .ref n8, .ref n9, .int (nI sa), .int (nI ol), .ref n10])), (n1, aI G 5 hh), (n2, aZ G 50 (u.1)), (n3, aZ G 50 (u.2.1)), (n4, aZ G 50 (u.2.2.1)), (n5, aI G 50 (u.2.2.2.1)), (n6, aI G 50 (u.2.2.2.2)), (n7, aI G 3 iv), (n8, aI G 6 lv), (n9, aI G 6 ln), (q, .inr (4, [.ref a1, .ref a2, .int (nI us), .int (nI z13)])), (a1, aB G 400 tx), (a2, aI G 5 nn13)]) (wr := [(n7, aI G 3 iv), (n8, aI G 6 lv), (n9, aI G 6 ln), (q, .inr (4, [.ref a1, .ref a2, .int (nI us), .int (nI z13)])), (a1, aB G 400 tx)]) (k_runV (n := 1) (As := [.ref a2]) (rest := []) hx hb hml hown htb hP hD hK hS hA hE (k_N_readGate l G H.size qn n1 n2 n3 n4 n5 n6 n7 n8 n9 n10 sa ol hh dw mw iw gw rw9 a2 nn13 (show nn13 0 < 100 from by omega) (show nn13 1 < 100 from by omega) (show nn13 2 < 100 from by omega) (show hh 0 < 100 from by omega)) b302 b304 s11 b3 b305 (by decide +kernel) rfl rfl ⟨by rw [hRf]; exact Nat.le_of_ble_eq_true rfl, by rw [hRl]; exact Nat.le_of_ble_eq_true rfl⟩ [0, 1, 2, 3, 4, 5, 6, 12] rfl (by decide) 0 rfl rfl rfl rfl hl.1 rfl (Nat.le_of_ble_eq_true rfl) dN_readGates_25 ⟨Nat.zero_le _, Nat.zero_le _⟩) hP hD hS hA [0, 1, 2, 3, 4, 5, 6, 12] [7, 8, 9, 10, 11] [5, 6, 7, 8, 9, 10, 11, 0, 1, 2, 3, 4, 12] rfl rfl (by decide) (by decide) (fun u => rfl) (by decide) (fun r u H locs hw hP hD hS => ?_)
              rcases hw with ⟨hc25_e, rfl, rfl⟩ | ⟨d125, m125, hc25_e, rfl, rfl⟩
              · skip
                have hP : va_P (gD G) vC [(qn, .inr (3, [.ref n1, .ref n2, .ref n3, .ref n4, .ref n5, .ref n6, .ref n7, .ref n8, .ref n9, .int (nI sa), .int (nI ol), .ref n10])), (n1, aI G 5 hh), (n2, aZ G 50 (va_up dw (nn13 0 / 2) true)), (n3, aZ G 50 (va_up (va_up mw (nn13 1 / 2) true) (nn13 2 / 2) true)), (n4, aZ G 50 (va_up iw (nn13 0 / 2) true)), (n5, aI G 50 (va_up gw (nn13 0 / 2) (nn13 1))), (n6, aI G 50 (va_up rw9 (nn13 0 / 2) (nn13 2))), (n7, aI G 3 iv), (n8, aI G 6 lv), (n9, aI G 6 ln), (q, .inr (4, [.ref a1, .ref a2, .int (nI us), .int (nI z13)])), (a1, aB G 400 tx), (a2, aI G 5 nn13)] H := hP
                have hD : va_D A [(qn, .inr (3, [.ref n1, .ref n2, .ref n3, .ref n4, .ref n5, .ref n6, .ref n7, .ref n8, .ref n9, .int (nI sa), .int (nI ol), .ref n10])), (n1, aI G 5 hh), (n2, aZ G 50 (va_up dw (nn13 0 / 2) true)), (n3, aZ G 50 (va_up (va_up mw (nn13 1 / 2) true) (nn13 2 / 2) true)), (n4, aZ G 50 (va_up iw (nn13 0 / 2) true)), (n5, aI G 50 (va_up gw (nn13 0 / 2) (nn13 1))), (n6, aI G 50 (va_up rw9 (nn13 0 / 2) (nn13 2))), (n7, aI G 3 iv), (n8, aI G 6 lv), (n9, aI G 6 ln), (q, .inr (4, [.ref a1, .ref a2, .int (nI us), .int (nI z13)])), (a1, aB G 400 tx), (a2, aI G 5 nn13)] := hD
                refine lv_if_ne (tgt := 33) hx hb dN_readGates_28 rfl (fun _ => ?_) (fun h28 => (by revert h28; first | decide | exact fun z => absurd z (by decide) | exact fun z => z.elim (by decide)))
                have hgG := hc25_e
                rw [hy0, hy1, hy2, g0] at hgG
                refine lv_iinc (v := nI (k + 1)) (lv' := [(2, .int (nI (k + 1))), (0, .ref qn), (1, .ref q)]) hx hb dN_readGates_33 hl (k := 2) rfl (nI_add _ 1) (by decide) rfl (fun ls hl => ?_)
                refine lv_goto (tgt := 2) hx hb dN_readGates_36 rfl ?_
                have hl : lv_has ls 3 [(0, .ref qn), (1, .ref q), (2, .int (nI (k + 1)))] := lv_sub hl [1, 2, 0] rfl
                exact ih2 (k + 1) nn13 z13 (va_up dw (nn13 0 / 2) true) (va_up (va_up mw (nn13 1 / 2) true) (nn13 2 / 2) true) (va_up iw (nn13 0 / 2) true) (va_up gw (nn13 0 / 2) (nn13 1)) (va_up rw9 (nn13 0 / 2) (nn13 2)) _ _ _ (by omega) (by omega) ((pos_s hLn).symm) (by omega) (okl_s ho hLn) (by rw [hy0, hy1, hy2]; exact nS_ga (by omega) hs hgG.1 hgG.2.1 hgG.2.2.1 hgG.2.2.2) hP hD hS hl
              · skip
                have hP : va_P (gD G) vC [(qn, .inr (3, [.ref n1, .ref n2, .ref n3, .ref n4, .ref n5, .ref n6, .ref n7, .ref n8, .ref n9, .int (nI sa), .int (nI ol), .ref n10])), (n1, aI G 5 hh), (n2, aZ G 50 d125), (n3, aZ G 50 m125), (n4, aZ G 50 iw), (n5, aI G 50 gw), (n6, aI G 50 rw9), (n7, aI G 3 iv), (n8, aI G 6 lv), (n9, aI G 6 ln), (q, .inr (4, [.ref a1, .ref a2, .int (nI us), .int (nI z13)])), (a1, aB G 400 tx), (a2, aI G 5 nn13)] H := hP
                have hD : va_D A [(qn, .inr (3, [.ref n1, .ref n2, .ref n3, .ref n4, .ref n5, .ref n6, .ref n7, .ref n8, .ref n9, .int (nI sa), .int (nI ol), .ref n10])), (n1, aI G 5 hh), (n2, aZ G 50 d125), (n3, aZ G 50 m125), (n4, aZ G 50 iw), (n5, aI G 50 gw), (n6, aI G 50 rw9), (n7, aI G 3 iv), (n8, aI G 6 lv), (n9, aI G 6 ln), (q, .inr (4, [.ref a1, .ref a2, .int (nI us), .int (nI z13)])), (a1, aB G 400 tx), (a2, aI G 5 nn13)] := hD
                refine lv_if_ne (tgt := 33) hx hb dN_readGates_28 rfl (fun h28 => (by revert h28; first | decide | exact fun z => absurd z (by decide) | exact fun z => z.elim (by decide))) (fun _ => ?_)
                refine lv_iconst (v := nI 0) hx hb dN_readGates_31 (by decide) ?_
                -- end 2
                rw [← hQ]
                exact k_iret hx hb hr hlocks (by decide) (u := (d125, m125, iw, gw, rw9, nn13, z13)) (Or.inr ⟨_, _, _, _, _, _, _, no_ga (by omega) hs (fun q => hc25_e (by rw [hy0, hy1, hy2, g0]; exact q)), hz13, rfl, rfl⟩) hP hD hK hS dN_readGates_32
          · skip
            have hP : va_P (gD G) vC [(qn, .inr (3, [.ref n1, .ref n2, .ref n3, .ref n4, .ref n5, .ref n6, .ref n7, .ref n8, .ref n9, .int (nI sa), .int (nI ol), .ref n10])), (n1, aI G 5 hh), (n2, aZ G 50 dw), (n3, aZ G 50 mw), (n4, aZ G 50 iw), (n5, aI G 50 gw), (n6, aI G 50 rw9), (n7, aI G 3 iv), (n8, aI G 6 lv), (n9, aI G 6 ln), (q, .inr (4, [.ref a1, .ref a2, .int (nI us), .int (nI z13)])), (a1, aB G 400 tx), (a2, aI G 5 nn13)] H := hP
            have hD : va_D A [(qn, .inr (3, [.ref n1, .ref n2, .ref n3, .ref n4, .ref n5, .ref n6, .ref n7, .ref n8, .ref n9, .int (nI sa), .int (nI ol), .ref n10])), (n1, aI G 5 hh), (n2, aZ G 50 dw), (n3, aZ G 50 mw), (n4, aZ G 50 iw), (n5, aI G 50 gw), (n6, aI G 50 rw9), (n7, aI G 3 iv), (n8, aI G 6 lv), (n9, aI G 6 ln), (q, .inr (4, [.ref a1, .ref a2, .int (nI us), .int (nI z13)])), (a1, aB G 400 tx), (a2, aI G 5 nn13)] := hD
            refine lv_iconst (v := nI 3) hx hb dN_readGates_16 (by decide) ?_
            refine lv_icmp_ne (tgt := 31) hx hb dN_readGates_17 rfl (fun _ => ?_) (fun h17 => (by revert h17; first | decide | exact fun z => absurd z (by decide) | exact fun z => z.elim (by decide)))
            refine lv_iconst (v := nI 0) hx hb dN_readGates_31 (by decide) ?_
            -- end 3
            rw [← hQ]
            exact k_iret hx hb hr hlocks (by decide) (u := (dw, mw, iw, gw, rw9, nn13, z13)) (Or.inr ⟨_, _, _, _, _, _, _, no_ln4 (k := k) (by omega) (by rw [← hpw]; exact ex_none1 hc13_e (by decide)), hc13_b, rfl, rfl⟩) hP hD hK hS dN_readGates_32
    have hl : lv_has ls 3 [(0, .ref qn), (1, .ref q), (2, .int (nI 0))] := lv_sub hl [1, 2, 0] rfl
    have g0 := hH 0 (by omega)
    have g1 := hH 1 (by omega)
    have g2 := hH 2 (by omega)
    have g3 := hH 3 (by omega)
    have g4 := hH 4 (by omega)
    have t0 := hd_lt (lk tx us) 0
    have t1 := hd_lt (lk tx us) 1
    have t2 := hd_lt (lk tx us) 2
    have t3 := hd_lt (lk tx us) 3
    have t4 := hd_lt (lk tx us) 4
    exact loop2 (hh 4 - 0 + 1) 0 nm pl df mt ig gl gr _ _ _ (by omega) (by omega) hp hpl (fun j hj => absurd hj (Nat.not_lt_zero j)) hN hP hD hS hl
  rw [hH, hlc] at hgo
  exact hgo
set_option maxRecDepth 100000 in
set_option maxHeartbeats 4000000 in
theorem k_N_read (l : Launch) (G : GG) (sz : Nat) (qn : Nat) (n1 : Nat) (n2 : Nat) (n3 : Nat) (n4 : Nat) (n5 : Nat) (n6 : Nat) (n7 : Nat) (n8 : Nat) (n9 : Nat) (n10 : Nat) (sa : Nat) (ol : Nat) (hh : Nat → Nat) (df : Nat → Bool) (mt : Nat → Bool) (ig : Nat → Bool) (gl : Nat → Nat) (gr : Nat → Nat) (iv : Nat → Nat) (lv : Nat → Nat) (ln : Nat → Nat) (q : Nat) (a1 : Nat) (a2 : Nat) (tx : Nat → Nat) (nm : Nat → Nat) (us : Nat) (pl : Nat) (hus : us ≤ 400) (htx : ∀ j, tx j < 128) : Ki l yN_read cN_read 2 .boolean 4 88 G [.ref qn, .ref q] [(qn, .inr (3, [.ref n1, .ref n2, .ref n3, .ref n4, .ref n5, .ref n6, .ref n7, .ref n8, .ref n9, .int (nI sa), .int (nI ol), .ref n10])), (n1, aI G 5 hh), (n2, aZ G 50 df), (n3, aZ G 50 mt), (n4, aZ G 50 ig), (n5, aI G 50 gl), (n6, aI G 50 gr), (n7, aI G 3 iv), (n8, aI G 6 lv), (n9, aI G 6 ln), (q, .inr (4, [.ref a1, .ref a2, .int (nI us), .int (nI pl)])), (a1, aB G 400 tx), (a2, aI G 5 nm)] sz (fun (r : Int32) (u : (Nat → Nat) × (Nat → Bool) × (Nat → Bool) × (Nat → Bool) × (Nat → Nat) × (Nat → Nat) × (Nat → Nat) × (Nat → Nat) × (Nat → Nat) × Nat × Nat × (Nat → Nat) × Nat) => (∃ (hh1 : Nat → Nat), ∃ (df1 : Nat → Bool), ∃ (mt1 : Nat → Bool), ∃ (ig1 : Nat → Bool), ∃ (gl1 : Nat → Nat), ∃ (gr1 : Nat → Nat), ∃ (iv1 : Nat → Nat), ∃ (lv1 : Nat → Nat), ∃ (ln1 : Nat → Nat), ∃ (sa1 : Nat), ∃ (ol1 : Nat), ∃ (nm1 : Nat → Nat), ∃ (pl1 : Nat), circOK (lk tx us) us ∧ (∀ c, c < 5 → hh1 c = hd (lk tx us) c) ∧ nS (lk tx us) (hd (lk tx us) 1) (hd (lk tx us) 2) (hd (lk tx us) 3) (hd (lk tx us) 4) df1 mt1 ig1 gl1 gr1 iv1 lv1 ln1 sa1 ol1 ∧ nI 1 = r ∧ (hh1, df1, mt1, ig1, gl1, gr1, iv1, lv1, ln1, sa1, ol1, nm1, pl1) = u) ∨ (∃ (hh1 : Nat → Nat), ∃ (df1 : Nat → Bool), ∃ (mt1 : Nat → Bool), ∃ (ig1 : Nat → Bool), ∃ (gl1 : Nat → Nat), ∃ (gr1 : Nat → Nat), ∃ (iv1 : Nat → Nat), ∃ (lv1 : Nat → Nat), ∃ (ln1 : Nat → Nat), ∃ (sa1 : Nat), ∃ (ol1 : Nat), ∃ (nm1 : Nat → Nat), ∃ (pl1 : Nat), ¬ circOK (lk tx us) us ∧ nI 0 = r ∧ (hh1, df1, mt1, ig1, gl1, gr1, iv1, lv1, ln1, sa1, ol1, nm1, pl1) = u)) (fun (u : (Nat → Nat) × (Nat → Bool) × (Nat → Bool) × (Nat → Bool) × (Nat → Nat) × (Nat → Nat) × (Nat → Nat) × (Nat → Nat) × (Nat → Nat) × Nat × Nat × (Nat → Nat) × Nat) => [(qn, .inr (3, [.ref n1, .ref n2, .ref n3, .ref n4, .ref n5, .ref n6, .ref n7, .ref n8, .ref n9, .int (nI u.2.2.2.2.2.2.2.2.2.1), .int (nI u.2.2.2.2.2.2.2.2.2.2.1), .ref n10])), (n1, aI G 5 u.1), (n2, aZ G 50 u.2.1), (n3, aZ G 50 u.2.2.1), (n4, aZ G 50 u.2.2.2.1), (n5, aI G 50 u.2.2.2.2.1), (n6, aI G 50 u.2.2.2.2.2.1), (n7, aI G 3 u.2.2.2.2.2.2.1), (n8, aI G 6 u.2.2.2.2.2.2.2.1), (n9, aI G 6 u.2.2.2.2.2.2.2.2.1), (q, .inr (4, [.ref a1, .ref a2, .int (nI us), .int (nI u.2.2.2.2.2.2.2.2.2.2.2.2)])), (a1, aB G 400 tx), (a2, aI G 5 u.2.2.2.2.2.2.2.2.2.2.2.1)]) := by
  refine Met.ofW (cc := cN_read) (maxL := 2) (ret := (some .boolean)) (by decide) rfl ?_
  intro p e s m args below meth c s₁ B hml hv
  obtain ⟨hav, hsz, hP, hK, hD0, hE⟩ := hv
  have hx := B.exec
  have hb := B.bytes
  have hr := B.returns
  have htb : ∀ w ∈ TB, w.before args s = true := fun w h => atoms_spec (ws := Cond.code yN_read cN_read 2 (some .boolean) :: TB) B.pre w (List.mem_cons_of_mem _ h)
  have hown : s.vm.findClass "CircuitProver$Netlist" = some m.cls := findClass_of_methodNamed B.named
  have hlocks := B.notSynchronized
  subst hsz
  have hD := hD0.self (sz := s.heap.size)
  clear hD0
  generalize hRm : (headSpec (Cond.code yN_read cN_read 2 (some .boolean) :: TB) { frames := 4, cells := 0, slots := 0, locals := 88 }).room = R
  have hRf : R.frames = 4 := by rw [← hRm]; rfl
  have hRl : R.locals = 88 := by rw [← hRm]; rfl
  have hRc : R.cells = 0 := by rw [← hRm]; rfl
  have hRs : R.slots = 0 := by rw [← hRm]; rfl
  clear hRm
  generalize hAe : va_A [(qn, .inr (3, [.ref n1, .ref n2, .ref n3, .ref n4, .ref n5, .ref n6, .ref n7, .ref n8, .ref n9, .int (nI sa), .int (nI ol), .ref n10])), (n1, aI G 5 hh), (n2, aZ G 50 df), (n3, aZ G 50 mt), (n4, aZ G 50 ig), (n5, aI G 50 gl), (n6, aI G 50 gr), (n7, aI G 3 iv), (n8, aI G 6 lv), (n9, aI G 6 ln), (q, .inr (4, [.ref a1, .ref a2, .int (nI us), .int (nI pl)])), (a1, aB G 400 tx), (a2, aI G 5 nm)] s.heap.size = A at hD hE ⊢
  have hA : ∀ q : Nat, s.heap.size ≤ q → A q := fun q h => by rw [← hAe]; exact Or.inr h
  clear hAe
  have hS : va_S A s.heap s.heap [] := va_S.rf
  have hl := lv_entry ([.ref qn, .ref q]) (n := 2) (Nat.le_of_ble_eq_true rfl)
  have hent := lg_entry_eq m ([.ref qn, .ref q]) 2
  rw [← hav] at hent
  rw [hent]
  clear hent hav
  generalize (lg_sl ([.ref qn, .ref q]) ++ List.replicate (2 - (lg_sl ([.ref qn, .ref q])).length) Slot.unset).toArray = ls at hl ⊢
  have hl : lv_has ls 2 [(0, .ref qn), (1, .ref q)] := hl
  generalize hQ : MQ below _ args s 0 0 _ = Q
  have hP : va_P (gD G) vC [(qn, .inr (3, [.ref n1, .ref n2, .ref n3, .ref n4, .ref n5, .ref n6, .ref n7, .ref n8, .ref n9, .int (nI sa), .int (nI ol), .ref n10])), (n1, aI G 5 hh), (n2, aZ G 50 df), (n3, aZ G 50 mt), (n4, aZ G 50 ig), (n5, aI G 50 gl), (n6, aI G 50 gr), (n7, aI G 3 iv), (n8, aI G 6 lv), (n9, aI G 6 ln), (q, .inr (4, [.ref a1, .ref a2, .int (nI us), .int (nI pl)])), (a1, aB G 400 tx), (a2, aI G 5 nm)] s.heap := hP
  obtain ⟨H, hH⟩ : ∃ H : Heap, H = s.heap := ⟨_, rfl⟩
  obtain ⟨locs, hlc⟩ : ∃ L : List Loc, L = [] := ⟨_, rfl⟩
  have hS : va_S A s.heap H locs := by rw [hH, hlc]; exact hS
  have hP : va_P (gD G) vC [(qn, .inr (3, [.ref n1, .ref n2, .ref n3, .ref n4, .ref n5, .ref n6, .ref n7, .ref n8, .ref n9, .int (nI sa), .int (nI ol), .ref n10])), (n1, aI G 5 hh), (n2, aZ G 50 df), (n3, aZ G 50 mt), (n4, aZ G 50 ig), (n5, aI G 50 gl), (n6, aI G 50 gr), (n7, aI G 3 iv), (n8, aI G 6 lv), (n9, aI G 6 ln), (q, .inr (4, [.ref a1, .ref a2, .int (nI us), .int (nI pl)])), (a1, aB G 400 tx), (a2, aI G 5 nm)] H := by rw [hH]; exact hP
  have hgo : W p l e R s m args below meth c H locs 0 0 Q (F0 m 0 ls []) := by
    clear hH hlc
    refine lv_aload_n hx hb dN_read_0 rfl (lv_at hl 0 rfl) ?_
    refine k_v (ws2 := fun u => [(qn, .inr (3, [.ref n1, .ref n2, .ref n3, .ref n4, .ref n5, .ref n6, .ref n7, .ref n8, .ref n9, .int (nI (u.2.2.2.1)), .int (nI (u.2.2.2.2)), .ref n10])), (n1, aI G 5 hh), (n2, aZ G 50 (u.1)), (n3, aZ G 50 (u.2.1)), (n4, aZ G 50 (u.2.2.1)), (n5, aI G 50 gl), (n6, aI G 50 gr), (n7, aI G 3 iv), (n8, aI G 6 lv), (n9, aI G 6 ln), (q, .inr (4, [.ref a1, .ref a2, .int (nI us), .int (nI pl)])), (a1, aB G 400 tx), (a2, aI G 5 nm)]) (wr := [(n1, aI G 5 hh), (n5, aI G 50 gl), (n6, aI G 50 gr), (n7, aI G 3 iv), (n8, aI G 6 lv), (n9, aI G 6 ln), (q, .inr (4, [.ref a1, .ref a2, .int (nI us), .int (nI pl)])), (a1, aB G 400 tx), (a2, aI G 5 nm)]) (k_runV (n := 0) (As := []) (rest := []) hx hb hml hown htb hP hD hK hS hA hE (k_N_forget l G H.size qn n1 n2 n3 n4 n5 n6 n7 n8 n9 n10 sa ol df mt ig ) b242 b244 s0 b3 b245 (by decide +kernel) rfl rfl ⟨by rw [hRf]; exact Nat.le_of_ble_eq_true rfl, by rw [hRl]; exact Nat.le_of_ble_eq_true rfl⟩ [0, 2, 3, 4] rfl (by decide) 0 rfl rfl rfl rfl hl.1 rfl (Nat.le_of_ble_eq_true rfl) dN_read_1 ⟨Nat.zero_le _, Nat.zero_le _⟩) hP hD hS hA [0, 2, 3, 4] [1, 5, 6, 7, 8, 9, 10, 11, 12] [9, 0, 10, 11, 12, 1, 2, 3, 4, 5, 6, 7, 8] rfl rfl (by decide) (by decide) (fun u => rfl) (by decide) (fun u H locs hw hP hD hS => ?_)
    obtain ⟨d11, m11, i11, hc1_e, rfl⟩ := hw
    have hP : va_P (gD G) vC [(qn, .inr (3, [.ref n1, .ref n2, .ref n3, .ref n4, .ref n5, .ref n6, .ref n7, .ref n8, .ref n9, .int (nI 0), .int (nI 0), .ref n10])), (n1, aI G 5 hh), (n2, aZ G 50 d11), (n3, aZ G 50 m11), (n4, aZ G 50 i11), (n5, aI G 50 gl), (n6, aI G 50 gr), (n7, aI G 3 iv), (n8, aI G 6 lv), (n9, aI G 6 ln), (q, .inr (4, [.ref a1, .ref a2, .int (nI us), .int (nI pl)])), (a1, aB G 400 tx), (a2, aI G 5 nm)] H := hP
    have hD : va_D A [(qn, .inr (3, [.ref n1, .ref n2, .ref n3, .ref n4, .ref n5, .ref n6, .ref n7, .ref n8, .ref n9, .int (nI 0), .int (nI 0), .ref n10])), (n1, aI G 5 hh), (n2, aZ G 50 d11), (n3, aZ G 50 m11), (n4, aZ G 50 i11), (n5, aI G 50 gl), (n6, aI G 50 gr), (n7, aI G 3 iv), (n8, aI G 6 lv), (n9, aI G 6 ln), (q, .inr (4, [.ref a1, .ref a2, .int (nI us), .int (nI pl)])), (a1, aB G 400 tx), (a2, aI G 5 nm)] := hD
    refine lv_aload_n hx hb dN_read_4 rfl (lv_at hl 1 rfl) ?_
    refine k_v (ws2 := fun u => [(qn, .inr (3, [.ref n1, .ref n2, .ref n3, .ref n4, .ref n5, .ref n6, .ref n7, .ref n8, .ref n9, .int (nI 0), .int (nI 0), .ref n10])), (n1, aI G 5 hh), (n2, aZ G 50 d11), (n3, aZ G 50 m11), (n4, aZ G 50 i11), (n5, aI G 50 gl), (n6, aI G 50 gr), (n7, aI G 3 iv), (n8, aI G 6 lv), (n9, aI G 6 ln), (q, .inr (4, [.ref a1, .ref a2, .int (nI us), .int (nI (u))])), (a1, aB G 400 tx), (a2, aI G 5 nm)]) (wr := [(qn, .inr (3, [.ref n1, .ref n2, .ref n3, .ref n4, .ref n5, .ref n6, .ref n7, .ref n8, .ref n9, .int (nI 0), .int (nI 0), .ref n10])), (n1, aI G 5 hh), (n2, aZ G 50 d11), (n3, aZ G 50 m11), (n4, aZ G 50 i11), (n5, aI G 50 gl), (n6, aI G 50 gr), (n7, aI G 3 iv), (n8, aI G 6 lv), (n9, aI G 6 ln)]) (k_runV (n := 0) (As := []) (rest := []) hx hb hml hown htb hP hD hK hS hA hE (k_T_readFromFront l G H.size q a1 a2 tx nm us pl ) b246 b247 b248 b2 b249 (by decide +kernel) rfl rfl ⟨by rw [hRf]; exact Nat.le_of_ble_eq_true rfl, by rw [hRl]; exact Nat.le_of_ble_eq_true rfl⟩ [10, 11, 12] rfl (by decide) 10 rfl rfl rfl rfl hl.1 rfl (Nat.le_of_ble_eq_true rfl) dN_read_5 ⟨Nat.zero_le _, Nat.zero_le _⟩) hP hD hS hA [10, 11, 12] [0, 1, 2, 3, 4, 5, 6, 7, 8, 9] [0, 1, 2, 3, 4, 5, 6, 7, 8, 9, 10, 11, 12] rfl rfl (by decide) (by decide) (fun u => rfl) (by decide) (fun u H locs hw hP hD hS => ?_)
    obtain rfl := hw
    have hP : va_P (gD G) vC [(qn, .inr (3, [.ref n1, .ref n2, .ref n3, .ref n4, .ref n5, .ref n6, .ref n7, .ref n8, .ref n9, .int (nI 0), .int (nI 0), .ref n10])), (n1, aI G 5 hh), (n2, aZ G 50 d11), (n3, aZ G 50 m11), (n4, aZ G 50 i11), (n5, aI G 50 gl), (n6, aI G 50 gr), (n7, aI G 3 iv), (n8, aI G 6 lv), (n9, aI G 6 ln), (q, .inr (4, [.ref a1, .ref a2, .int (nI us), .int (nI 0)])), (a1, aB G 400 tx), (a2, aI G 5 nm)] H := hP
    have hD : va_D A [(qn, .inr (3, [.ref n1, .ref n2, .ref n3, .ref n4, .ref n5, .ref n6, .ref n7, .ref n8, .ref n9, .int (nI 0), .int (nI 0), .ref n10])), (n1, aI G 5 hh), (n2, aZ G 50 d11), (n3, aZ G 50 m11), (n4, aZ G 50 i11), (n5, aI G 50 gl), (n6, aI G 50 gr), (n7, aI G 3 iv), (n8, aI G 6 lv), (n9, aI G 6 ln), (q, .inr (4, [.ref a1, .ref a2, .int (nI us), .int (nI 0)])), (a1, aB G 400 tx), (a2, aI G 5 nm)] := hD
    refine lv_aload_n hx hb dN_read_8 rfl (lv_at hl 0 rfl) ?_
    refine lv_aload_n hx hb dN_read_9 rfl (lv_at hl 1 rfl) ?_
    refine k_i (ws2 := fun u => [(qn, .inr (3, [.ref n1, .ref n2, .ref n3, .ref n4, .ref n5, .ref n6, .ref n7, .ref n8, .ref n9, .int (nI 0), .int (nI 0), .ref n10])), (n1, aI G 5 (u.1)), (n2, aZ G 50 d11), (n3, aZ G 50 m11), (n4, aZ G 50 i11), (n5, aI G 50 gl), (n6, aI G 50 gr), (n7, aI G 3 iv), (n8, aI G 6 lv), (n9, aI G 6 ln), (q, .inr (4, [.ref a1, .ref a2, .int (nI us), .int (nI (u.2.2))])), (a1, aB G 400 tx), (a2, aI G 5 (u.2.1))]) (wr := []) (k_runV (n := 1) (As := [.ref q]) (rest := []) hx hb hml hown htb hP hD hK hS hA hE (k_N_readHeader l G H.size qn n1 n2 n3 n4 n5 n6 n7 n8 n9 n10 0 0 hh d11 m11 i11 gl gr iv lv ln q a1 a2 tx nm us 0 (show us ≤ 400 from by omega) (show 0 ≤ us from by omega) (show ∀ j, tx j < 128 from by omega) (show 0 = 0 from rfl)) b250 b252 s1 b3 b253 (by decide +kernel) rfl rfl ⟨by rw [hRf]; exact Nat.le_of_ble_eq_true rfl, by rw [hRl]; exact Nat.le_of_ble_eq_true rfl⟩ [0, 1, 2, 3, 4, 5, 6, 7, 8, 9, 10, 11, 12] rfl (by decide) 0 rfl rfl rfl rfl hl.1 rfl (Nat.le_of_ble_eq_true rfl) dN_read_10 ⟨Nat.zero_le _, Nat.zero_le _⟩) hP hD hS hA [0, 1, 2, 3, 4, 5, 6, 7, 8, 9, 10, 11, 12] [] [0, 1, 2, 3, 4, 5, 6, 7, 8, 9, 10, 11, 12] rfl rfl (by decide) (by decide) (fun u => rfl) (by decide) (fun r u H locs hw hP hD hS => ?_)
    rcases hw with ⟨li10, z10, hn10, nn10, hc10_e, hc10_a, hc10_b, rfl, rfl⟩ | ⟨z10, nn10, hc10_e, hc10_b, rfl, rfl⟩
    · skip
      have hP : va_P (gD G) vC [(qn, .inr (3, [.ref n1, .ref n2, .ref n3, .ref n4, .ref n5, .ref n6, .ref n7, .ref n8, .ref n9, .int (nI 0), .int (nI 0), .ref n10])), (n1, aI G 5 hn10), (n2, aZ G 50 d11), (n3, aZ G 50 m11), (n4, aZ G 50 i11), (n5, aI G 50 gl), (n6, aI G 50 gr), (n7, aI G 3 iv), (n8, aI G 6 lv), (n9, aI G 6 ln), (q, .inr (4, [.ref a1, .ref a2, .int (nI us), .int (nI z10)])), (a1, aB G 400 tx), (a2, aI G 5 nn10)] H := hP
      have hD : va_D A [(qn, .inr (3, [.ref n1, .ref n2, .ref n3, .ref n4, .ref n5, .ref n6, .ref n7, .ref n8, .ref n9, .int (nI 0), .int (nI 0), .ref n10])), (n1, aI G 5 hn10), (n2, aZ G 50 d11), (n3, aZ G 50 m11), (n4, aZ G 50 i11), (n5, aI G 50 gl), (n6, aI G 50 gr), (n7, aI G 3 iv), (n8, aI G 6 lv), (n9, aI G 6 ln), (q, .inr (4, [.ref a1, .ref a2, .int (nI us), .int (nI z10)])), (a1, aB G 400 tx), (a2, aI G 5 nn10)] := hD
      refine lv_if_eq (tgt := 66) hx hb dN_read_13 rfl (fun h13 => (by revert h13; first | decide | exact fun z => absurd z (by decide) | exact fun z => z.elim (by decide))) (fun _ => ?_)
      refine lv_aload_n hx hb dN_read_16 rfl (lv_at hl 0 rfl) ?_
      refine lv_aload_n hx hb dN_read_17 rfl (lv_at hl 1 rfl) ?_
      refine k_i (ws2 := fun u => [(qn, .inr (3, [.ref n1, .ref n2, .ref n3, .ref n4, .ref n5, .ref n6, .ref n7, .ref n8, .ref n9, .int (nI 0), .int (nI 0), .ref n10])), (n1, aI G 5 hn10), (n2, aZ G 50 (u.1)), (n3, aZ G 50 m11), (n4, aZ G 50 i11), (n5, aI G 50 gl), (n6, aI G 50 gr), (n7, aI G 3 (u.2.1)), (n8, aI G 6 lv), (n9, aI G 6 ln), (q, .inr (4, [.ref a1, .ref a2, .int (nI us), .int (nI (u.2.2.2))])), (a1, aB G 400 tx), (a2, aI G 5 (u.2.2.1))]) (wr := []) (k_runV (n := 1) (As := [.ref q]) (rest := []) hx hb hml hown htb hP hD hK hS hA hE (k_N_readInputs l G H.size qn n1 n2 n3 n4 n5 n6 n7 n8 n9 n10 0 0 hn10 d11 m11 i11 gl gr iv lv ln q a1 a2 tx nn10 us z10 (show us ≤ 400 from by omega) (show z10 ≤ us from by omega) (show ∀ j, tx j < 128 from by omega) (show ∀ c, c < 5 → hn10 c = hd (lk tx us) c from hc10_a) (show z10 = e0 (lk tx us) from (e0_s hc10_e).symm) (show nS (lk tx us) 0 0 0 0 d11 m11 i11 gl gr iv lv ln 0 0 from nS_0 hc1_e)) b274 b276 s4 b3 b277 (by decide +kernel) rfl rfl ⟨by rw [hRf]; exact Nat.le_of_ble_eq_true rfl, by rw [hRl]; exact Nat.le_of_ble_eq_true rfl⟩ [0, 1, 2, 3, 4, 5, 6, 7, 8, 9, 10, 11, 12] rfl (by decide) 0 rfl rfl rfl rfl hl.1 rfl (Nat.le_of_ble_eq_true rfl) dN_read_18 ⟨Nat.zero_le _, Nat.zero_le _⟩) hP hD hS hA [0, 1, 2, 3, 4, 5, 6, 7, 8, 9, 10, 11, 12] [] [0, 1, 2, 3, 4, 5, 6, 7, 8, 9, 10, 11, 12] rfl rfl (by decide) (by decide) (fun u => rfl) (by decide) (fun r u H locs hw hP hD hS => ?_)
      rcases hw with ⟨d118, i118, nn18, z18, hc18_o, hc18_s, hc18_p, hc18_b, rfl, rfl⟩ | ⟨d118, i118, nn18, z18, hc18_o, hc18_b, rfl, rfl⟩
      · skip
        have hP : va_P (gD G) vC [(qn, .inr (3, [.ref n1, .ref n2, .ref n3, .ref n4, .ref n5, .ref n6, .ref n7, .ref n8, .ref n9, .int (nI 0), .int (nI 0), .ref n10])), (n1, aI G 5 hn10), (n2, aZ G 50 d118), (n3, aZ G 50 m11), (n4, aZ G 50 i11), (n5, aI G 50 gl), (n6, aI G 50 gr), (n7, aI G 3 i118), (n8, aI G 6 lv), (n9, aI G 6 ln), (q, .inr (4, [.ref a1, .ref a2, .int (nI us), .int (nI z18)])), (a1, aB G 400 tx), (a2, aI G 5 nn18)] H := hP
        have hD : va_D A [(qn, .inr (3, [.ref n1, .ref n2, .ref n3, .ref n4, .ref n5, .ref n6, .ref n7, .ref n8, .ref n9, .int (nI 0), .int (nI 0), .ref n10])), (n1, aI G 5 hn10), (n2, aZ G 50 d118), (n3, aZ G 50 m11), (n4, aZ G 50 i11), (n5, aI G 50 gl), (n6, aI G 50 gr), (n7, aI G 3 i118), (n8, aI G 6 lv), (n9, aI G 6 ln), (q, .inr (4, [.ref a1, .ref a2, .int (nI us), .int (nI z18)])), (a1, aB G 400 tx), (a2, aI G 5 nn18)] := hD
        refine lv_if_eq (tgt := 66) hx hb dN_read_21 rfl (fun h21 => (by revert h21; first | decide | exact fun z => absurd z (by decide) | exact fun z => z.elim (by decide))) (fun _ => ?_)
        refine lv_aload_n hx hb dN_read_24 rfl (lv_at hl 0 rfl) ?_
        refine lv_aload_n hx hb dN_read_25 rfl (lv_at hl 1 rfl) ?_
        refine k_i (ws2 := fun u => [(qn, .inr (3, [.ref n1, .ref n2, .ref n3, .ref n4, .ref n5, .ref n6, .ref n7, .ref n8, .ref n9, .int (nI (u.2.2.2.2.1)), .int (nI 0), .ref n10])), (n1, aI G 5 hn10), (n2, aZ G 50 (u.1)), (n3, aZ G 50 (u.2.1)), (n4, aZ G 50 i11), (n5, aI G 50 gl), (n6, aI G 50 gr), (n7, aI G 3 i118), (n8, aI G 6 (u.2.2.1)), (n9, aI G 6 (u.2.2.2.1)), (q, .inr (4, [.ref a1, .ref a2, .int (nI us), .int (nI (u.2.2.2.2.2.2))])), (a1, aB G 400 tx), (a2, aI G 5 (u.2.2.2.2.2.1))]) (wr := []) (k_runV (n := 1) (As := [.ref q]) (rest := []) hx hb hml hown htb hP hD hK hS hA hE (k_N_readLatches l G H.size qn n1 n2 n3 n4 n5 n6 n7 n8 n9 n10 0 0 hn10 d118 m11 i11 gl gr i118 lv ln q a1 a2 tx nn18 us z18 (show us ≤ 400 from by omega) (show z18 ≤ us from by omega) (show ∀ j, tx j < 128 from by omega) (show ∀ c, c < 5 → hn10 c = hd (lk tx us) c from hc10_a) (show z18 = e1 (lk tx us) from hc18_p) (show nS (lk tx us) (hd (lk tx us) 1) 0 0 0 d118 m11 i11 gl gr i118 lv ln 0 0 from hc18_s)) b286 b288 s7 b3 b289 (by decide +kernel) rfl rfl ⟨by rw [hRf]; exact Nat.le_of_ble_eq_true rfl, by rw [hRl]; exact Nat.le_of_ble_eq_true rfl⟩ [0, 1, 2, 3, 4, 5, 6, 7, 8, 9, 10, 11, 12] rfl (by decide) 0 rfl rfl rfl rfl hl.1 rfl (Nat.le_of_ble_eq_true rfl) dN_read_26 ⟨Nat.zero_le _, Nat.zero_le _⟩) hP hD hS hA [0, 1, 2, 3, 4, 5, 6, 7, 8, 9, 10, 11, 12] [] [0, 1, 2, 3, 4, 5, 6, 7, 8, 9, 10, 11, 12] rfl rfl (by decide) (by decide) (fun u => rfl) (by decide) (fun r u H locs hw hP hD hS => ?_)
        rcases hw with ⟨d126, m126, l126, x126, s126, nn26, z26, hc26_o, hc26_s, hc26_p, hc26_b, rfl, rfl⟩ | ⟨d126, m126, l126, x126, s126, nn26, z26, hc26_o, hc26_b, rfl, rfl⟩
        · skip
          have hP : va_P (gD G) vC [(qn, .inr (3, [.ref n1, .ref n2, .ref n3, .ref n4, .ref n5, .ref n6, .ref n7, .ref n8, .ref n9, .int (nI s126), .int (nI 0), .ref n10])), (n1, aI G 5 hn10), (n2, aZ G 50 d126), (n3, aZ G 50 m126), (n4, aZ G 50 i11), (n5, aI G 50 gl), (n6, aI G 50 gr), (n7, aI G 3 i118), (n8, aI G 6 l126), (n9, aI G 6 x126), (q, .inr (4, [.ref a1, .ref a2, .int (nI us), .int (nI z26)])), (a1, aB G 400 tx), (a2, aI G 5 nn26)] H := hP
          have hD : va_D A [(qn, .inr (3, [.ref n1, .ref n2, .ref n3, .ref n4, .ref n5, .ref n6, .ref n7, .ref n8, .ref n9, .int (nI s126), .int (nI 0), .ref n10])), (n1, aI G 5 hn10), (n2, aZ G 50 d126), (n3, aZ G 50 m126), (n4, aZ G 50 i11), (n5, aI G 50 gl), (n6, aI G 50 gr), (n7, aI G 3 i118), (n8, aI G 6 l126), (n9, aI G 6 x126), (q, .inr (4, [.ref a1, .ref a2, .int (nI us), .int (nI z26)])), (a1, aB G 400 tx), (a2, aI G 5 nn26)] := hD
          refine lv_if_eq (tgt := 66) hx hb dN_read_29 rfl (fun h29 => (by revert h29; first | decide | exact fun z => absurd z (by decide) | exact fun z => z.elim (by decide))) (fun _ => ?_)
          refine lv_aload_n hx hb dN_read_32 rfl (lv_at hl 0 rfl) ?_
          refine lv_aload_n hx hb dN_read_33 rfl (lv_at hl 1 rfl) ?_
          refine k_i (ws2 := fun u => [(qn, .inr (3, [.ref n1, .ref n2, .ref n3, .ref n4, .ref n5, .ref n6, .ref n7, .ref n8, .ref n9, .int (nI s126), .int (nI (u.2.1)), .ref n10])), (n1, aI G 5 hn10), (n2, aZ G 50 d126), (n3, aZ G 50 (u.1)), (n4, aZ G 50 i11), (n5, aI G 50 gl), (n6, aI G 50 gr), (n7, aI G 3 i118), (n8, aI G 6 l126), (n9, aI G 6 x126), (q, .inr (4, [.ref a1, .ref a2, .int (nI us), .int (nI (u.2.2.2))])), (a1, aB G 400 tx), (a2, aI G 5 (u.2.2.1))]) (wr := []) (k_runV (n := 1) (As := [.ref q]) (rest := []) hx hb hml hown htb hP hD hK hS hA hE (k_N_readOutputs l G H.size qn n1 n2 n3 n4 n5 n6 n7 n8 n9 n10 s126 0 hn10 d126 m126 i11 gl gr i118 l126 x126 q a1 a2 tx nn26 us z26 (show us ≤ 400 from by omega) (show z26 ≤ us from by omega) (show ∀ j, tx j < 128 from by omega) (show ∀ c, c < 5 → hn10 c = hd (lk tx us) c from hc10_a) (show z26 = e2 (lk tx us) from hc26_p) (show nS (lk tx us) (hd (lk tx us) 1) (hd (lk tx us) 2) 0 0 d126 m126 i11 gl gr i118 l126 x126 s126 0 from hc26_s)) b294 b296 s9 b3 b297 (by decide +kernel) rfl rfl ⟨by rw [hRf]; exact Nat.le_of_ble_eq_true rfl, by rw [hRl]; exact Nat.le_of_ble_eq_true rfl⟩ [0, 1, 2, 3, 4, 5, 6, 7, 8, 9, 10, 11, 12] rfl (by decide) 0 rfl rfl rfl rfl hl.1 rfl (Nat.le_of_ble_eq_true rfl) dN_read_34 ⟨Nat.zero_le _, Nat.zero_le _⟩) hP hD hS hA [0, 1, 2, 3, 4, 5, 6, 7, 8, 9, 10, 11, 12] [] [0, 1, 2, 3, 4, 5, 6, 7, 8, 9, 10, 11, 12] rfl rfl (by decide) (by decide) (fun u => rfl) (by decide) (fun r u H locs hw hP hD hS => ?_)
          rcases hw with ⟨m134, o134, nn34, z34, hc34_o, hc34_s, hc34_p, hc34_b, rfl, rfl⟩ | ⟨m134, o134, nn34, z34, hc34_o, hc34_b, rfl, rfl⟩
          · skip
            have hP : va_P (gD G) vC [(qn, .inr (3, [.ref n1, .ref n2, .ref n3, .ref n4, .ref n5, .ref n6, .ref n7, .ref n8, .ref n9, .int (nI s126), .int (nI o134), .ref n10])), (n1, aI G 5 hn10), (n2, aZ G 50 d126), (n3, aZ G 50 m134), (n4, aZ G 50 i11), (n5, aI G 50 gl), (n6, aI G 50 gr), (n7, aI G 3 i118), (n8, aI G 6 l126), (n9, aI G 6 x126), (q, .inr (4, [.ref a1, .ref a2, .int (nI us), .int (nI z34)])), (a1, aB G 400 tx), (a2, aI G 5 nn34)] H := hP
            have hD : va_D A [(qn, .inr (3, [.ref n1, .ref n2, .ref n3, .ref n4, .ref n5, .ref n6, .ref n7, .ref n8, .ref n9, .int (nI s126), .int (nI o134), .ref n10])), (n1, aI G 5 hn10), (n2, aZ G 50 d126), (n3, aZ G 50 m134), (n4, aZ G 50 i11), (n5, aI G 50 gl), (n6, aI G 50 gr), (n7, aI G 3 i118), (n8, aI G 6 l126), (n9, aI G 6 x126), (q, .inr (4, [.ref a1, .ref a2, .int (nI us), .int (nI z34)])), (a1, aB G 400 tx), (a2, aI G 5 nn34)] := hD
            refine lv_if_eq (tgt := 66) hx hb dN_read_37 rfl (fun h37 => (by revert h37; first | decide | exact fun z => absurd z (by decide) | exact fun z => z.elim (by decide))) (fun _ => ?_)
            refine lv_aload_n hx hb dN_read_40 rfl (lv_at hl 0 rfl) ?_
            refine lv_aload_n hx hb dN_read_41 rfl (lv_at hl 1 rfl) ?_
            refine k_i (ws2 := fun u => [(qn, .inr (3, [.ref n1, .ref n2, .ref n3, .ref n4, .ref n5, .ref n6, .ref n7, .ref n8, .ref n9, .int (nI s126), .int (nI o134), .ref n10])), (n1, aI G 5 hn10), (n2, aZ G 50 (u.1)), (n3, aZ G 50 (u.2.1)), (n4, aZ G 50 (u.2.2.1)), (n5, aI G 50 (u.2.2.2.1)), (n6, aI G 50 (u.2.2.2.2.1)), (n7, aI G 3 i118), (n8, aI G 6 l126), (n9, aI G 6 x126), (q, .inr (4, [.ref a1, .ref a2, .int (nI us), .int (nI (u.2.2.2.2.2.2))])), (a1, aB G 400 tx), (a2, aI G 5 (u.2.2.2.2.2.1))]) (wr := []) (k_runV (n := 1) (As := [.ref q]) (rest := []) hx hb hml hown htb hP hD hK hS hA hE (k_N_readGates l G H.size qn n1 n2 n3 n4 n5 n6 n7 n8 n9 n10 s126 o134 hn10 d126 m134 i11 gl gr i118 l126 x126 q a1 a2 tx nn34 us z34 (show us ≤ 400 from by omega) (show z34 ≤ us from by omega) (show ∀ j, tx j < 128 from by omega) (show ∀ c, c < 5 → hn10 c = hd (lk tx us) c from hc10_a) (show z34 = e3 (lk tx us) from hc34_p) (show nS (lk tx us) (hd (lk tx us) 1) (hd (lk tx us) 2) (hd (lk tx us) 3) 0 d126 m134 i11 gl gr i118 l126 x126 s126 o134 from hc34_s)) b298 b300 s10 b3 b301 (by decide +kernel) rfl rfl ⟨by rw [hRf]; exact Nat.le_of_ble_eq_true rfl, by rw [hRl]; exact Nat.le_of_ble_eq_true rfl⟩ [0, 1, 2, 3, 4, 5, 6, 7, 8, 9, 10, 11, 12] rfl (by decide) 0 rfl rfl rfl rfl hl.1 rfl (Nat.le_of_ble_eq_true rfl) dN_read_42 ⟨Nat.zero_le _, Nat.zero_le _⟩) hP hD hS hA [0, 1, 2, 3, 4, 5, 6, 7, 8, 9, 10, 11, 12] [] [0, 1, 2, 3, 4, 5, 6, 7, 8, 9, 10, 11, 12] rfl rfl (by decide) (by decide) (fun u => rfl) (by decide) (fun r u H locs hw hP hD hS => ?_)
            rcases hw with ⟨d142, m142, i142, g142, r142, nn42, z42, hc42_o, hc42_s, hc42_p, hc42_b, rfl, rfl⟩ | ⟨d142, m142, i142, g142, r142, nn42, z42, hc42_o, hc42_b, rfl, rfl⟩
            · skip
              have hP : va_P (gD G) vC [(qn, .inr (3, [.ref n1, .ref n2, .ref n3, .ref n4, .ref n5, .ref n6, .ref n7, .ref n8, .ref n9, .int (nI s126), .int (nI o134), .ref n10])), (n1, aI G 5 hn10), (n2, aZ G 50 d142), (n3, aZ G 50 m142), (n4, aZ G 50 i142), (n5, aI G 50 g142), (n6, aI G 50 r142), (n7, aI G 3 i118), (n8, aI G 6 l126), (n9, aI G 6 x126), (q, .inr (4, [.ref a1, .ref a2, .int (nI us), .int (nI z42)])), (a1, aB G 400 tx), (a2, aI G 5 nn42)] H := hP
              have hD : va_D A [(qn, .inr (3, [.ref n1, .ref n2, .ref n3, .ref n4, .ref n5, .ref n6, .ref n7, .ref n8, .ref n9, .int (nI s126), .int (nI o134), .ref n10])), (n1, aI G 5 hn10), (n2, aZ G 50 d142), (n3, aZ G 50 m142), (n4, aZ G 50 i142), (n5, aI G 50 g142), (n6, aI G 50 r142), (n7, aI G 3 i118), (n8, aI G 6 l126), (n9, aI G 6 x126), (q, .inr (4, [.ref a1, .ref a2, .int (nI us), .int (nI z42)])), (a1, aB G 400 tx), (a2, aI G 5 nn42)] := hD
              refine lv_if_eq (tgt := 66) hx hb dN_read_45 rfl (fun h45 => (by revert h45; first | decide | exact fun z => absurd z (by decide) | exact fun z => z.elim (by decide))) (fun _ => ?_)
              refine lv_aload_n hx hb dN_read_48 rfl (lv_at hl 1 rfl) ?_
              refine k_i (ws2 := fun u => [(qn, .inr (3, [.ref n1, .ref n2, .ref n3, .ref n4, .ref n5, .ref n6, .ref n7, .ref n8, .ref n9, .int (nI s126), .int (nI o134), .ref n10])), (n1, aI G 5 hn10), (n2, aZ G 50 d142), (n3, aZ G 50 m142), (n4, aZ G 50 i142), (n5, aI G 50 g142), (n6, aI G 50 r142), (n7, aI G 3 i118), (n8, aI G 6 l126), (n9, aI G 6 x126), (q, .inr (4, [.ref a1, .ref a2, .int (nI us), .int (nI z42)])), (a1, aB G 400 tx), (a2, aI G 5 nn42)]) (wr := [(qn, .inr (3, [.ref n1, .ref n2, .ref n3, .ref n4, .ref n5, .ref n6, .ref n7, .ref n8, .ref n9, .int (nI s126), .int (nI o134), .ref n10])), (n1, aI G 5 hn10), (n2, aZ G 50 d142), (n3, aZ G 50 m142), (n4, aZ G 50 i142), (n5, aI G 50 g142), (n6, aI G 50 r142), (n7, aI G 3 i118), (n8, aI G 6 l126), (n9, aI G 6 x126)]) (k_runV (n := 0) (As := []) (rest := []) hx hb hml hown htb hP hD hK hS hA hE (k_T_allIsRead l G H.size q a1 a2 tx nn42 us z42 (show us ≤ 400 from by omega) (show z42 ≤ us from by omega) (show ∀ j, tx j < 128 from by omega)) b306 b307 b308 b2 b309 (by decide +kernel) rfl rfl ⟨by rw [hRf]; exact Nat.le_of_ble_eq_true rfl, by rw [hRl]; exact Nat.le_of_ble_eq_true rfl⟩ [10, 11, 12] rfl (by decide) 10 rfl rfl rfl rfl hl.1 rfl (Nat.le_of_ble_eq_true rfl) dN_read_49 ⟨Nat.zero_le _, Nat.zero_le _⟩) hP hD hS hA [10, 11, 12] [0, 1, 2, 3, 4, 5, 6, 7, 8, 9] [0, 1, 2, 3, 4, 5, 6, 7, 8, 9, 10, 11, 12] rfl rfl (by decide) (by decide) (fun u => rfl) (by decide) (fun r u H locs hw hP hD hS => ?_)
              rcases hw with ⟨hc49_e, rfl, rfl⟩ | ⟨hc49_e, rfl, rfl⟩
              · skip
                have hP : va_P (gD G) vC [(qn, .inr (3, [.ref n1, .ref n2, .ref n3, .ref n4, .ref n5, .ref n6, .ref n7, .ref n8, .ref n9, .int (nI s126), .int (nI o134), .ref n10])), (n1, aI G 5 hn10), (n2, aZ G 50 d142), (n3, aZ G 50 m142), (n4, aZ G 50 i142), (n5, aI G 50 g142), (n6, aI G 50 r142), (n7, aI G 3 i118), (n8, aI G 6 l126), (n9, aI G 6 x126), (q, .inr (4, [.ref a1, .ref a2, .int (nI us), .int (nI z42)])), (a1, aB G 400 tx), (a2, aI G 5 nn42)] H := hP
                have hD : va_D A [(qn, .inr (3, [.ref n1, .ref n2, .ref n3, .ref n4, .ref n5, .ref n6, .ref n7, .ref n8, .ref n9, .int (nI s126), .int (nI o134), .ref n10])), (n1, aI G 5 hn10), (n2, aZ G 50 d142), (n3, aZ G 50 m142), (n4, aZ G 50 i142), (n5, aI G 50 g142), (n6, aI G 50 r142), (n7, aI G 3 i118), (n8, aI G 6 l126), (n9, aI G 6 x126), (q, .inr (4, [.ref a1, .ref a2, .int (nI us), .int (nI z42)])), (a1, aB G 400 tx), (a2, aI G 5 nn42)] := hD
                refine lv_if_eq (tgt := 66) hx hb dN_read_52 rfl (fun h52 => (by revert h52; first | decide | exact fun z => absurd z (by decide) | exact fun z => z.elim (by decide))) (fun _ => ?_)
                refine lv_aload_n hx hb dN_read_55 rfl (lv_at hl 0 rfl) ?_
                refine k_i (ws2 := fun u => [(qn, .inr (3, [.ref n1, .ref n2, .ref n3, .ref n4, .ref n5, .ref n6, .ref n7, .ref n8, .ref n9, .int (nI s126), .int (nI o134), .ref n10])), (n1, aI G 5 hn10), (n2, aZ G 50 d142), (n3, aZ G 50 m142), (n4, aZ G 50 i142), (n5, aI G 50 g142), (n6, aI G 50 r142), (n7, aI G 3 i118), (n8, aI G 6 l126), (n9, aI G 6 x126), (q, .inr (4, [.ref a1, .ref a2, .int (nI us), .int (nI z42)])), (a1, aB G 400 tx), (a2, aI G 5 nn42)]) (wr := [(n1, aI G 5 hn10), (n4, aZ G 50 i142), (n5, aI G 50 g142), (n6, aI G 50 r142), (n7, aI G 3 i118), (n8, aI G 6 l126), (n9, aI G 6 x126), (q, .inr (4, [.ref a1, .ref a2, .int (nI us), .int (nI z42)])), (a1, aB G 400 tx), (a2, aI G 5 nn42)]) (k_runV (n := 0) (As := []) (rest := []) hx hb hml hown htb hP hD hK hS hA hE (k_N_allMentionedAreDefined l G H.size qn n1 n2 n3 n4 n5 n6 n7 n8 n9 n10 s126 o134 d142 m142 ) b310 b312 s12 b3 b313 (by decide +kernel) rfl rfl ⟨by rw [hRf]; exact Nat.le_of_ble_eq_true rfl, by rw [hRl]; exact Nat.le_of_ble_eq_true rfl⟩ [0, 2, 3] rfl (by decide) 0 rfl rfl rfl rfl hl.1 rfl (Nat.le_of_ble_eq_true rfl) dN_read_56 ⟨Nat.zero_le _, Nat.zero_le _⟩) hP hD hS hA [0, 2, 3] [1, 4, 5, 6, 7, 8, 9, 10, 11, 12] [10, 0, 11, 12, 1, 2, 3, 4, 5, 6, 7, 8, 9] rfl rfl (by decide) (by decide) (fun u => rfl) (by decide) (fun r u H locs hw hP hD hS => ?_)
                rcases hw with ⟨hc56_e, rfl, rfl⟩ | ⟨v56, hc56_e, rfl, rfl⟩
                · skip
                  have hP : va_P (gD G) vC [(qn, .inr (3, [.ref n1, .ref n2, .ref n3, .ref n4, .ref n5, .ref n6, .ref n7, .ref n8, .ref n9, .int (nI s126), .int (nI o134), .ref n10])), (n1, aI G 5 hn10), (n2, aZ G 50 d142), (n3, aZ G 50 m142), (n4, aZ G 50 i142), (n5, aI G 50 g142), (n6, aI G 50 r142), (n7, aI G 3 i118), (n8, aI G 6 l126), (n9, aI G 6 x126), (q, .inr (4, [.ref a1, .ref a2, .int (nI us), .int (nI z42)])), (a1, aB G 400 tx), (a2, aI G 5 nn42)] H := hP
                  have hD : va_D A [(qn, .inr (3, [.ref n1, .ref n2, .ref n3, .ref n4, .ref n5, .ref n6, .ref n7, .ref n8, .ref n9, .int (nI s126), .int (nI o134), .ref n10])), (n1, aI G 5 hn10), (n2, aZ G 50 d142), (n3, aZ G 50 m142), (n4, aZ G 50 i142), (n5, aI G 50 g142), (n6, aI G 50 r142), (n7, aI G 3 i118), (n8, aI G 6 l126), (n9, aI G 6 x126), (q, .inr (4, [.ref a1, .ref a2, .int (nI us), .int (nI z42)])), (a1, aB G 400 tx), (a2, aI G 5 nn42)] := hD
                  refine lv_if_eq (tgt := 66) hx hb dN_read_59 rfl (fun h59 => (by revert h59; first | decide | exact fun z => absurd z (by decide) | exact fun z => z.elim (by decide))) (fun _ => ?_)
                  refine lv_iconst (v := nI 1) hx hb dN_read_62 (by decide) ?_
                  refine lv_goto (tgt := 67) hx hb dN_read_63 rfl ?_
                  -- end 0
                  rw [← hQ]
                  exact k_iret hx hb hr hlocks (by decide) (u := (hn10, d142, m142, i142, g142, r142, i118, l126, x126, s126, o134, nn42, z42)) (Or.inl ⟨_, _, _, _, _, _, _, _, _, _, _, _, _, nS_end ⟨⟨_, hc10_e⟩, hc18_o, hc26_o, hc34_o, hc42_o, by rw [← hc42_p]; exact hc49_e⟩ hc42_s hc56_e, hc10_a, hc42_s, rfl, rfl⟩) hP hD hK hS dN_read_67
                · skip
                  have hP : va_P (gD G) vC [(qn, .inr (3, [.ref n1, .ref n2, .ref n3, .ref n4, .ref n5, .ref n6, .ref n7, .ref n8, .ref n9, .int (nI s126), .int (nI o134), .ref n10])), (n1, aI G 5 hn10), (n2, aZ G 50 d142), (n3, aZ G 50 m142), (n4, aZ G 50 i142), (n5, aI G 50 g142), (n6, aI G 50 r142), (n7, aI G 3 i118), (n8, aI G 6 l126), (n9, aI G 6 x126), (q, .inr (4, [.ref a1, .ref a2, .int (nI us), .int (nI z42)])), (a1, aB G 400 tx), (a2, aI G 5 nn42)] H := hP
                  have hD : va_D A [(qn, .inr (3, [.ref n1, .ref n2, .ref n3, .ref n4, .ref n5, .ref n6, .ref n7, .ref n8, .ref n9, .int (nI s126), .int (nI o134), .ref n10])), (n1, aI G 5 hn10), (n2, aZ G 50 d142), (n3, aZ G 50 m142), (n4, aZ G 50 i142), (n5, aI G 50 g142), (n6, aI G 50 r142), (n7, aI G 3 i118), (n8, aI G 6 l126), (n9, aI G 6 x126), (q, .inr (4, [.ref a1, .ref a2, .int (nI us), .int (nI z42)])), (a1, aB G 400 tx), (a2, aI G 5 nn42)] := hD
                  refine lv_if_eq (tgt := 66) hx hb dN_read_59 rfl (fun _ => ?_) (fun h59 => (by revert h59; first | decide | exact fun z => absurd z (by decide) | exact fun z => z.elim (by decide)))
                  refine lv_iconst (v := nI 0) hx hb dN_read_66 (by decide) ?_
                  -- end 1
                  rw [← hQ]
                  exact k_iret hx hb hr hlocks (by decide) (u := (hn10, d142, m142, i142, g142, r142, i118, l126, x126, s126, o134, nn42, z42)) (Or.inr ⟨_, _, _, _, _, _, _, _, _, _, _, _, _, no_end hc42_s hc56_e.1 hc56_e.2.1 hc56_e.2.2.1 hc56_e.2.2.2, rfl, rfl⟩) hP hD hK hS dN_read_67
              · skip
                have hP : va_P (gD G) vC [(qn, .inr (3, [.ref n1, .ref n2, .ref n3, .ref n4, .ref n5, .ref n6, .ref n7, .ref n8, .ref n9, .int (nI s126), .int (nI o134), .ref n10])), (n1, aI G 5 hn10), (n2, aZ G 50 d142), (n3, aZ G 50 m142), (n4, aZ G 50 i142), (n5, aI G 50 g142), (n6, aI G 50 r142), (n7, aI G 3 i118), (n8, aI G 6 l126), (n9, aI G 6 x126), (q, .inr (4, [.ref a1, .ref a2, .int (nI us), .int (nI z42)])), (a1, aB G 400 tx), (a2, aI G 5 nn42)] H := hP
                have hD : va_D A [(qn, .inr (3, [.ref n1, .ref n2, .ref n3, .ref n4, .ref n5, .ref n6, .ref n7, .ref n8, .ref n9, .int (nI s126), .int (nI o134), .ref n10])), (n1, aI G 5 hn10), (n2, aZ G 50 d142), (n3, aZ G 50 m142), (n4, aZ G 50 i142), (n5, aI G 50 g142), (n6, aI G 50 r142), (n7, aI G 3 i118), (n8, aI G 6 l126), (n9, aI G 6 x126), (q, .inr (4, [.ref a1, .ref a2, .int (nI us), .int (nI z42)])), (a1, aB G 400 tx), (a2, aI G 5 nn42)] := hD
                refine lv_if_eq (tgt := 66) hx hb dN_read_52 rfl (fun _ => ?_) (fun h52 => (by revert h52; first | decide | exact fun z => absurd z (by decide) | exact fun z => z.elim (by decide)))
                refine lv_iconst (v := nI 0) hx hb dN_read_66 (by decide) ?_
                -- end 2
                rw [← hQ]
                exact k_iret hx hb hr hlocks (by decide) (u := (hn10, d142, m142, i142, g142, r142, i118, l126, x126, s126, o134, nn42, z42)) (Or.inr ⟨_, _, _, _, _, _, _, _, _, _, _, _, _, fun q => hc49_e (by rw [hc42_p]; exact q.1.2.2.2.2.2), rfl, rfl⟩) hP hD hK hS dN_read_67
            · skip
              have hP : va_P (gD G) vC [(qn, .inr (3, [.ref n1, .ref n2, .ref n3, .ref n4, .ref n5, .ref n6, .ref n7, .ref n8, .ref n9, .int (nI s126), .int (nI o134), .ref n10])), (n1, aI G 5 hn10), (n2, aZ G 50 d142), (n3, aZ G 50 m142), (n4, aZ G 50 i142), (n5, aI G 50 g142), (n6, aI G 50 r142), (n7, aI G 3 i118), (n8, aI G 6 l126), (n9, aI G 6 x126), (q, .inr (4, [.ref a1, .ref a2, .int (nI us), .int (nI z42)])), (a1, aB G 400 tx), (a2, aI G 5 nn42)] H := hP
              have hD : va_D A [(qn, .inr (3, [.ref n1, .ref n2, .ref n3, .ref n4, .ref n5, .ref n6, .ref n7, .ref n8, .ref n9, .int (nI s126), .int (nI o134), .ref n10])), (n1, aI G 5 hn10), (n2, aZ G 50 d142), (n3, aZ G 50 m142), (n4, aZ G 50 i142), (n5, aI G 50 g142), (n6, aI G 50 r142), (n7, aI G 3 i118), (n8, aI G 6 l126), (n9, aI G 6 x126), (q, .inr (4, [.ref a1, .ref a2, .int (nI us), .int (nI z42)])), (a1, aB G 400 tx), (a2, aI G 5 nn42)] := hD
              refine lv_if_eq (tgt := 66) hx hb dN_read_45 rfl (fun _ => ?_) (fun h45 => (by revert h45; first | decide | exact fun z => absurd z (by decide) | exact fun z => z.elim (by decide)))
              refine lv_iconst (v := nI 0) hx hb dN_read_66 (by decide) ?_
              -- end 3
              rw [← hQ]
              exact k_iret hx hb hr hlocks (by decide) (u := (hn10, d142, m142, i142, g142, r142, i118, l126, x126, s126, o134, nn42, z42)) (Or.inr ⟨_, _, _, _, _, _, _, _, _, _, _, _, _, hc42_o, rfl, rfl⟩) hP hD hK hS dN_read_67
          · skip
            have hP : va_P (gD G) vC [(qn, .inr (3, [.ref n1, .ref n2, .ref n3, .ref n4, .ref n5, .ref n6, .ref n7, .ref n8, .ref n9, .int (nI s126), .int (nI o134), .ref n10])), (n1, aI G 5 hn10), (n2, aZ G 50 d126), (n3, aZ G 50 m134), (n4, aZ G 50 i11), (n5, aI G 50 gl), (n6, aI G 50 gr), (n7, aI G 3 i118), (n8, aI G 6 l126), (n9, aI G 6 x126), (q, .inr (4, [.ref a1, .ref a2, .int (nI us), .int (nI z34)])), (a1, aB G 400 tx), (a2, aI G 5 nn34)] H := hP
            have hD : va_D A [(qn, .inr (3, [.ref n1, .ref n2, .ref n3, .ref n4, .ref n5, .ref n6, .ref n7, .ref n8, .ref n9, .int (nI s126), .int (nI o134), .ref n10])), (n1, aI G 5 hn10), (n2, aZ G 50 d126), (n3, aZ G 50 m134), (n4, aZ G 50 i11), (n5, aI G 50 gl), (n6, aI G 50 gr), (n7, aI G 3 i118), (n8, aI G 6 l126), (n9, aI G 6 x126), (q, .inr (4, [.ref a1, .ref a2, .int (nI us), .int (nI z34)])), (a1, aB G 400 tx), (a2, aI G 5 nn34)] := hD
            refine lv_if_eq (tgt := 66) hx hb dN_read_37 rfl (fun _ => ?_) (fun h37 => (by revert h37; first | decide | exact fun z => absurd z (by decide) | exact fun z => z.elim (by decide)))
            refine lv_iconst (v := nI 0) hx hb dN_read_66 (by decide) ?_
            -- end 4
            rw [← hQ]
            exact k_iret hx hb hr hlocks (by decide) (u := (hn10, d126, m134, i11, gl, gr, i118, l126, x126, s126, o134, nn34, z34)) (Or.inr ⟨_, _, _, _, _, _, _, _, _, _, _, _, _, hc34_o, rfl, rfl⟩) hP hD hK hS dN_read_67
        · skip
          have hP : va_P (gD G) vC [(qn, .inr (3, [.ref n1, .ref n2, .ref n3, .ref n4, .ref n5, .ref n6, .ref n7, .ref n8, .ref n9, .int (nI s126), .int (nI 0), .ref n10])), (n1, aI G 5 hn10), (n2, aZ G 50 d126), (n3, aZ G 50 m126), (n4, aZ G 50 i11), (n5, aI G 50 gl), (n6, aI G 50 gr), (n7, aI G 3 i118), (n8, aI G 6 l126), (n9, aI G 6 x126), (q, .inr (4, [.ref a1, .ref a2, .int (nI us), .int (nI z26)])), (a1, aB G 400 tx), (a2, aI G 5 nn26)] H := hP
          have hD : va_D A [(qn, .inr (3, [.ref n1, .ref n2, .ref n3, .ref n4, .ref n5, .ref n6, .ref n7, .ref n8, .ref n9, .int (nI s126), .int (nI 0), .ref n10])), (n1, aI G 5 hn10), (n2, aZ G 50 d126), (n3, aZ G 50 m126), (n4, aZ G 50 i11), (n5, aI G 50 gl), (n6, aI G 50 gr), (n7, aI G 3 i118), (n8, aI G 6 l126), (n9, aI G 6 x126), (q, .inr (4, [.ref a1, .ref a2, .int (nI us), .int (nI z26)])), (a1, aB G 400 tx), (a2, aI G 5 nn26)] := hD
          refine lv_if_eq (tgt := 66) hx hb dN_read_29 rfl (fun _ => ?_) (fun h29 => (by revert h29; first | decide | exact fun z => absurd z (by decide) | exact fun z => z.elim (by decide)))
          refine lv_iconst (v := nI 0) hx hb dN_read_66 (by decide) ?_
          -- end 5
          rw [← hQ]
          exact k_iret hx hb hr hlocks (by decide) (u := (hn10, d126, m126, i11, gl, gr, i118, l126, x126, s126, 0, nn26, z26)) (Or.inr ⟨_, _, _, _, _, _, _, _, _, _, _, _, _, hc26_o, rfl, rfl⟩) hP hD hK hS dN_read_67
      · skip
        have hP : va_P (gD G) vC [(qn, .inr (3, [.ref n1, .ref n2, .ref n3, .ref n4, .ref n5, .ref n6, .ref n7, .ref n8, .ref n9, .int (nI 0), .int (nI 0), .ref n10])), (n1, aI G 5 hn10), (n2, aZ G 50 d118), (n3, aZ G 50 m11), (n4, aZ G 50 i11), (n5, aI G 50 gl), (n6, aI G 50 gr), (n7, aI G 3 i118), (n8, aI G 6 lv), (n9, aI G 6 ln), (q, .inr (4, [.ref a1, .ref a2, .int (nI us), .int (nI z18)])), (a1, aB G 400 tx), (a2, aI G 5 nn18)] H := hP
        have hD : va_D A [(qn, .inr (3, [.ref n1, .ref n2, .ref n3, .ref n4, .ref n5, .ref n6, .ref n7, .ref n8, .ref n9, .int (nI 0), .int (nI 0), .ref n10])), (n1, aI G 5 hn10), (n2, aZ G 50 d118), (n3, aZ G 50 m11), (n4, aZ G 50 i11), (n5, aI G 50 gl), (n6, aI G 50 gr), (n7, aI G 3 i118), (n8, aI G 6 lv), (n9, aI G 6 ln), (q, .inr (4, [.ref a1, .ref a2, .int (nI us), .int (nI z18)])), (a1, aB G 400 tx), (a2, aI G 5 nn18)] := hD
        refine lv_if_eq (tgt := 66) hx hb dN_read_21 rfl (fun _ => ?_) (fun h21 => (by revert h21; first | decide | exact fun z => absurd z (by decide) | exact fun z => z.elim (by decide)))
        refine lv_iconst (v := nI 0) hx hb dN_read_66 (by decide) ?_
        -- end 6
        rw [← hQ]
        exact k_iret hx hb hr hlocks (by decide) (u := (hn10, d118, m11, i11, gl, gr, i118, lv, ln, 0, 0, nn18, z18)) (Or.inr ⟨_, _, _, _, _, _, _, _, _, _, _, _, _, hc18_o, rfl, rfl⟩) hP hD hK hS dN_read_67
    · skip
      have hP : va_P (gD G) vC [(qn, .inr (3, [.ref n1, .ref n2, .ref n3, .ref n4, .ref n5, .ref n6, .ref n7, .ref n8, .ref n9, .int (nI 0), .int (nI 0), .ref n10])), (n1, aI G 5 hh), (n2, aZ G 50 d11), (n3, aZ G 50 m11), (n4, aZ G 50 i11), (n5, aI G 50 gl), (n6, aI G 50 gr), (n7, aI G 3 iv), (n8, aI G 6 lv), (n9, aI G 6 ln), (q, .inr (4, [.ref a1, .ref a2, .int (nI us), .int (nI z10)])), (a1, aB G 400 tx), (a2, aI G 5 nn10)] H := hP
      have hD : va_D A [(qn, .inr (3, [.ref n1, .ref n2, .ref n3, .ref n4, .ref n5, .ref n6, .ref n7, .ref n8, .ref n9, .int (nI 0), .int (nI 0), .ref n10])), (n1, aI G 5 hh), (n2, aZ G 50 d11), (n3, aZ G 50 m11), (n4, aZ G 50 i11), (n5, aI G 50 gl), (n6, aI G 50 gr), (n7, aI G 3 iv), (n8, aI G 6 lv), (n9, aI G 6 ln), (q, .inr (4, [.ref a1, .ref a2, .int (nI us), .int (nI z10)])), (a1, aB G 400 tx), (a2, aI G 5 nn10)] := hD
      refine lv_if_eq (tgt := 66) hx hb dN_read_13 rfl (fun _ => ?_) (fun h13 => (by revert h13; first | decide | exact fun z => absurd z (by decide) | exact fun z => z.elim (by decide)))
      refine lv_iconst (v := nI 0) hx hb dN_read_66 (by decide) ?_
      -- end 7
      rw [← hQ]
      exact k_iret hx hb hr hlocks (by decide) (u := (hh, d11, m11, i11, gl, gr, iv, lv, ln, 0, 0, nn10, z10)) (Or.inr ⟨_, _, _, _, _, _, _, _, _, _, _, _, _, fun q => (by obtain ⟨z9, h9⟩ := q.1.1; rw [hc10_e] at h9; cases h9), rfl, rfl⟩) hP hD hK hS dN_read_67
  rw [hH, hlc] at hgo
  exact hgo
