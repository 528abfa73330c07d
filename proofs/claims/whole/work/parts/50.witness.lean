set_option maxRecDepth 100000 in
set_option maxHeartbeats 4000000 in
theorem k_M_witness (l : Launch) (G : GG) (sz : Nat) (qm : Nat) (xt : Nat) (xh : Nat) (xi : Nat) (xl : Nat) (xo : Nat) (xg : Nat) (xd : Nat) (xs : Nat) (xn : Nat) (xb : Nat) (xv : Nat) (th : Nat) (ul : Nat) (pt : Nat) (ld : Bool) (stt : Nat) (sts : Nat) (drw : Nat) (bd : Nat) (rd : Nat) (fx : Nat → Nat) (fb : Nat → Bool) (x : Int32) (hz : sts ≤ 64) (hdw : 1 ≤ drw ∧ drw ≤ 8) (hxs : ∀ a b, a < sts → b < drw → fx (8 * a + b) < sts) (hst : stt < sts) : Ki l yM_witness cM_witness 8 .int 2 50 G [.ref qm, .int x] [(qm, .inr (6, [.int (nI th), .int (nI ul), .ref xt, .int (nI pt), .ref xh, .ref xi, .ref xl, .ref xo, .ref xg, .ref xd, .int (zB ld), .ref xs, .int (nI stt), .int (nI sts), .int (nI drw), .ref xn, .ref xb, .ref xv, .int (nI bd), .int (nI rd)])), (xn, aI G 512 fx), (xb, aZ G 512 fb)] sz (fun (r : Int32) (u : Nat) => (ld = false ∧ nI 0 = r ∧ 1 = u) ∨ (ld = true ∧ (∀ n, n < 64 → x = nI n → (lst (fun j => lb ((nF sts drw (nxF fx) (badOf sts drw (bdF fb))) j) stt) 64 < n ∨ lst (fun j => lb ((nF sts drw (nxF fx) (badOf sts drw (bdF fb))) j) stt) 64 = 64)) ∧ (-1) = r ∧ 0 = u) ∨ (∃ (n : Nat), ld = true ∧ (n ≤ lst (fun j => lb ((nF sts drw (nxF fx) (badOf sts drw (bdF fb))) j) stt) 64 ∧ lst (fun j => lb ((nF sts drw (nxF fx) (badOf sts drw (bdF fb))) j) stt) 64 < 64 ∧ x = nI n) ∧ nI (wrs (nF sts drw (nxF fx) (badOf sts drw (bdF fb))) (nxF fx) (bdF fb) drw (lst (fun j => lb ((nF sts drw (nxF fx) (badOf sts drw (bdF fb))) j) stt) 64) stt n) = r ∧ 0 = u)) (fun (u : Nat) => [(qm, .inr (6, [.int (nI u), .int (nI ul), .ref xt, .int (nI pt), .ref xh, .ref xi, .ref xl, .ref xo, .ref xg, .ref xd, .int (zB ld), .ref xs, .int (nI stt), .int (nI sts), .int (nI drw), .ref xn, .ref xb, .ref xv, .int (nI bd), .int (nI rd)])), (xn, aI G 512 fx), (xb, aZ G 512 fb)]) := by
  refine Met.ofW (cc := cM_witness) (maxL := 8) (ret := (some .int)) (by decide) rfl ?_
  intro p e s m args below meth c s₁ B hml hv
  obtain ⟨hav, hsz, hP, hK, hD0, hE⟩ := hv
  have hx := B.exec
  have hb := B.bytes
  have hr := B.returns
  have htb : ∀ w ∈ TB, w.before args s = true := fun w h => atoms_spec (ws := Cond.code yM_witness cM_witness 8 (some .int) :: TB) B.pre w (List.mem_cons_of_mem _ h)
  have hown : s.vm.findClass "CircuitProverModel" = some m.cls := findClass_of_methodNamed B.named
  have hlocks := B.notSynchronized
  subst hsz
  have hD := hD0.self (sz := s.heap.size)
  clear hD0
  generalize hRm : (headSpec (Cond.code yM_witness cM_witness 8 (some .int) :: TB) { frames := 2, cells := 0, slots := 0, locals := 50 }).room = R
  have hRf : R.frames = 2 := by rw [← hRm]; rfl
  have hRl : R.locals = 50 := by rw [← hRm]; rfl
  have hRc : R.cells = 0 := by rw [← hRm]; rfl
  have hRs : R.slots = 0 := by rw [← hRm]; rfl
  clear hRm
  generalize hAe : va_A [(qm, .inr (6, [.int (nI th), .int (nI ul), .ref xt, .int (nI pt), .ref xh, .ref xi, .ref xl, .ref xo, .ref xg, .ref xd, .int (zB ld), .ref xs, .int (nI stt), .int (nI sts), .int (nI drw), .ref xn, .ref xb, .ref xv, .int (nI bd), .int (nI rd)])), (xn, aI G 512 fx), (xb, aZ G 512 fb)] s.heap.size = A at hD hE ⊢
  have hA : ∀ q : Nat, s.heap.size ≤ q → A q := fun q h => by rw [← hAe]; exact Or.inr h
  clear hAe
  have hS : va_S A s.heap s.heap [] := va_S.rf
  have hl := lv_entry ([.ref qm, .int x]) (n := 8) (Nat.le_of_ble_eq_true rfl)
  have hent := lg_entry_eq m ([.ref qm, .int x]) 8
  rw [← hav] at hent
  rw [hent]
  clear hent hav
  generalize (lg_sl ([.ref qm, .int x]) ++ List.replicate (8 - (lg_sl ([.ref qm, .int x])).length) Slot.unset).toArray = ls at hl ⊢
  have hl : lv_has ls 8 [(0, .ref qm), (1, .int x)] := hl
  generalize hQ : MQ below _ args s 0 0 _ = Q
  have hP : va_P (gD G) vC [(qm, .inr (6, [.int (nI th), .int (nI ul), .ref xt, .int (nI pt), .ref xh, .ref xi, .ref xl, .ref xo, .ref xg, .ref xd, .int (zB ld), .ref xs, .int (nI stt), .int (nI sts), .int (nI drw), .ref xn, .ref xb, .ref xv, .int (nI bd), .int (nI rd)])), (xn, aI G 512 fx), (xb, aZ G 512 fb)] s.heap := hP
  obtain ⟨H, hH⟩ : ∃ H : Heap, H = s.heap := ⟨_, rfl⟩
  obtain ⟨locs, hlc⟩ : ∃ L : List Loc, L = [] := ⟨_, rfl⟩
  have hS : va_S A s.heap H locs := by rw [hH, hlc]; exact hS
  have hP : va_P (gD G) vC [(qm, .inr (6, [.int (nI th), .int (nI ul), .ref xt, .int (nI pt), .ref xh, .ref xi, .ref xl, .ref xo, .ref xg, .ref xd, .int (zB ld), .ref xs, .int (nI stt), .int (nI sts), .int (nI drw), .ref xn, .ref xb, .ref xv, .int (nI bd), .int (nI rd)])), (xn, aI G 512 fx), (xb, aZ G 512 fb)] H := by rw [hH]; exact hP
  have hgo : W p l e R s m args below meth c H locs 0 0 Q (F0 m 0 ls []) := by
    clear hH hlc
    have hn6 : ∀ a b, a < sts → b < drw → fx (8 * a + b) < 64 := fun a b h1 h2 => Nat.lt_of_lt_of_le (hxs a b h1 h2) hz
    refine lv_aload_n hx hb dM_witness_0 rfl (lv_at hl 0 rfl) ?_
    refine lv_aload_n hx hb dM_witness_1 rfl (lv_at hl 0 rfl) ?_
    refine va_get (D := gD G) (ci := 6) (v := .int (zB ld)) (C := "CircuitProverModel") (T := TM) (N := 20) hx hb htb inM hown hK hP 0 rfl rfl 10 (by decide) (htb _ b681) (fun _ h9 => h9) rfl dM_witness_2 ?_
    refine lv_if_eq (tgt := 12) hx hb dM_witness_5 rfl (fun h5 => ?_) (fun h5 => ?_)
    · have h5 : ld = false := zB_f h5
      refine lv_iconst (v := nI 1) hx hb dM_witness_12 (by decide) ?_
      refine va_put (D := gD G) (ci := 6) (v := .int (nI 1)) (ty := tyM 0) (C := "CircuitProverModel") (T := TM) (N := 20) hx hb htb inM tyM tyM_ok nmM hown hK hP hD hS 0 rfl rfl 0 (by decide) (htb _ b671) (fun _ h9 => h9) rfl (tyM_ok 0 (by decide)) rfl rfl (Nat.le_of_ble_eq_true rfl) dM_witness_13 (fun H locs hP hD hS => ?_)
      have hP : va_P (gD G) vC [(qm, .inr (6, [.int (nI 1), .int (nI ul), .ref xt, .int (nI pt), .ref xh, .ref xi, .ref xl, .ref xo, .ref xg, .ref xd, .int (zB ld), .ref xs, .int (nI stt), .int (nI sts), .int (nI drw), .ref xn, .ref xb, .ref xv, .int (nI bd), .int (nI rd)])), (xn, aI G 512 fx), (xb, aZ G 512 fb)] H := hP
      have hD : va_D A [(qm, .inr (6, [.int (nI 1), .int (nI ul), .ref xt, .int (nI pt), .ref xh, .ref xi, .ref xl, .ref xo, .ref xg, .ref xd, .int (zB ld), .ref xs, .int (nI stt), .int (nI sts), .int (nI drw), .ref xn, .ref xb, .ref xv, .int (nI bd), .int (nI rd)])), (xn, aI G 512 fx), (xb, aZ G 512 fb)] := hD
      refine lv_aload_n hx hb dM_witness_16 rfl (lv_at hl 0 rfl) ?_
      refine va_get (D := gD G) (ci := 6) (v := .int (zB ld)) (C := "CircuitProverModel") (T := TM) (N := 20) hx hb htb inM hown hK hP 0 rfl rfl 10 (by decide) (htb _ b681) (fun _ h9 => h9) rfl dM_witness_17 ?_
      refine lv_if_ne (tgt := 25) hx hb dM_witness_20 rfl (fun h20 => absurd (zB_t h20) (by rw [h5]; decide)) (fun _ => ?_)
      refine lv_iconst (v := nI 0) hx hb dM_witness_23 (by decide) ?_
      -- end 0
      rw [← hQ]
      exact k_iret hx hb hr hlocks rfl (u := 1) (Or.inl ⟨h5, rfl, rfl⟩) hP hD hK hS dM_witness_24
    · have h5 : ld = true := zB_t h5
      refine lv_iconst (v := nI 0) hx hb dM_witness_8 (by decide) ?_
      refine lv_goto (tgt := 13) hx hb dM_witness_9 rfl ?_
      refine va_put (D := gD G) (ci := 6) (v := .int (nI 0)) (ty := tyM 0) (C := "CircuitProverModel") (T := TM) (N := 20) hx hb htb inM tyM tyM_ok nmM hown hK hP hD hS 0 rfl rfl 0 (by decide) (htb _ b671) (fun _ h9 => h9) rfl (tyM_ok 0 (by decide)) rfl rfl (Nat.le_of_ble_eq_true rfl) dM_witness_13 (fun H locs hP hD hS => ?_)
      have hP : va_P (gD G) vC [(qm, .inr (6, [.int (nI 0), .int (nI ul), .ref xt, .int (nI pt), .ref xh, .ref xi, .ref xl, .ref xo, .ref xg, .ref xd, .int (zB ld), .ref xs, .int (nI stt), .int (nI sts), .int (nI drw), .ref xn, .ref xb, .ref xv, .int (nI bd), .int (nI rd)])), (xn, aI G 512 fx), (xb, aZ G 512 fb)] H := hP
      have hD : va_D A [(qm, .inr (6, [.int (nI 0), .int (nI ul), .ref xt, .int (nI pt), .ref xh, .ref xi, .ref xl, .ref xo, .ref xg, .ref xd, .int (zB ld), .ref xs, .int (nI stt), .int (nI sts), .int (nI drw), .ref xn, .ref xb, .ref xv, .int (nI bd), .int (nI rd)])), (xn, aI G 512 fx), (xb, aZ G 512 fb)] := hD
      refine lv_aload_n hx hb dM_witness_16 rfl (lv_at hl 0 rfl) ?_
      refine va_get (D := gD G) (ci := 6) (v := .int (zB ld)) (C := "CircuitProverModel") (T := TM) (N := 20) hx hb htb inM hown hK hP 0 rfl rfl 10 (by decide) (htb _ b681) (fun _ h9 => h9) rfl dM_witness_17 ?_
      refine lv_if_ne (tgt := 25) hx hb dM_witness_20 rfl (fun _ => ?_) (fun h20 => absurd (zB_f h20) (by rw [h5]; decide))
      refine lv_aload_n hx hb dM_witness_25 rfl (lv_at hl 0 rfl) ?_
      refine lv_aload_n hx hb dM_witness_26 rfl (lv_at hl 0 rfl) ?_
      refine va_get (D := gD G) (ci := 6) (v := .int (nI stt)) (C := "CircuitProverModel") (T := TM) (N := 20) hx hb htb inM hown hK hP 0 rfl rfl 12 (by decide) (htb _ b683) (fun _ h9 => h9) rfl dM_witness_27 ?_
      refine k_i (ws2 := fun u => [(qm, .inr (6, [.int (nI 0), .int (nI ul), .ref xt, .int (nI pt), .ref xh, .ref xi, .ref xl, .ref xo, .ref xg, .ref xd, .int (zB ld), .ref xs, .int (nI stt), .int (nI sts), .int (nI drw), .ref xn, .ref xb, .ref xv, .int (nI bd), .int (nI rd)])), (xn, aI G 512 fx), (xb, aZ G 512 fb)]) (wr := []) (k_runV (n := 1) (As := [.int (nI stt)]) (rest := []) hx hb hml hown htb hP hD hK hS hA hE (k_M_distance l G H.size qm xt xh xi xl xo xg xd xs xn xb xv 0 ul pt ld stt sts drw bd rd fx fb stt (show sts ≤ 64 from by omega) (show 1 ≤ drw ∧ drw ≤ 8 from by omega) (show ∀ a b, a < sts → b < drw → fx (8 * a + b) < 64 from hn6) (show stt < 64 from by omega)) b832 b834 s44 b7 b835 (by decide +kernel) rfl rfl ⟨by rw [hRf]; exact Nat.le_of_ble_eq_true rfl, by rw [hRl]; exact Nat.le_of_ble_eq_true rfl⟩ [0, 1, 2] rfl (by decide) 0 rfl rfl rfl rfl hl.1 rfl (Nat.le_of_ble_eq_true rfl) dM_witness_30 ⟨Nat.zero_le _, Nat.zero_le _⟩) hP hD hS hA [0, 1, 2] [] [0, 1, 2] rfl rfl (by decide) (by decide) (fun u => rfl) (by decide) (fun r u H locs hw hP hD hS => ?_)
      obtain ⟨rfl, rfl⟩ := hw
      have hP : va_P (gD G) vC [(qm, .inr (6, [.int (nI 0), .int (nI ul), .ref xt, .int (nI pt), .ref xh, .ref xi, .ref xl, .ref xo, .ref xg, .ref xd, .int (zB ld), .ref xs, .int (nI stt), .int (nI sts), .int (nI drw), .ref xn, .ref xb, .ref xv, .int (nI bd), .int (nI rd)])), (xn, aI G 512 fx), (xb, aZ G 512 fb)] H := hP
      have hD : va_D A [(qm, .inr (6, [.int (nI 0), .int (nI ul), .ref xt, .int (nI pt), .ref xh, .ref xi, .ref xl, .ref xo, .ref xg, .ref xd, .int (zB ld), .ref xs, .int (nI stt), .int (nI sts), .int (nI drw), .ref xn, .ref xb, .ref xv, .int (nI bd), .int (nI rd)])), (xn, aI G 512 fx), (xb, aZ G 512 fb)] := hD
      obtain ⟨d, hdd⟩ : ∃ d, d = lst (fun j => lb ((nF sts drw (nxF fx) (badOf sts drw (bdF fb))) j) stt) 64 := ⟨_, rfl⟩
      refine k_toi (y := nI d) (by rw [hdd]) ?_
      have hd64 : d ≤ 64 ∧ (∀ j, j < d → lb ((nF sts drw (nxF fx) (badOf sts drw (bdF fb))) j) stt = false) ∧ (d < 64 → lb ((nF sts drw (nxF fx) (badOf sts drw (bdF fb))) d) stt = true) := by rw [hdd]; exact lst_spec (fun j => lb ((nF sts drw (nxF fx) (badOf sts drw (bdF fb))) j) stt) 64
      refine lv_istore_n (lv' := [(2, .int (nI d)), (0, .ref qm), (1, .int x)]) hx hb dM_witness_33 rfl hl (by decide) rfl (fun ls hl => ?_)
      refine lv_iload_n hx hb dM_witness_34 rfl (lv_at hl 2 rfl) ?_
      refine lv_if_lt (tgt := 49) hx hb dM_witness_35 rfl (fun h35 => ?_) (fun h35 => ?_)
      · skip
        refine lv_iconst (v := (-1)) hx hb dM_witness_49 (by decide) ?_
        -- end 1
        rw [← hQ]
        exact k_iret hx hb hr hlocks rfl (u := 0) (Or.inr (Or.inl ⟨h5, fun n hn e9 => (by rw [e9] at h35; exact (nI_pos (by omega) h35).elim), rfl, rfl⟩)) hP hD hK hS dM_witness_50
      · skip
        refine lv_iload_n hx hb dM_witness_38 rfl (lv_at hl 2 rfl) ?_
        refine lv_iload_n hx hb dM_witness_39 rfl (lv_at hl 0 rfl) ?_
        refine lv_icmp_gt (tgt := 49) hx hb dM_witness_40 rfl (fun h40 => ?_) (fun h40 => ?_)
        · skip
          refine lv_iconst (v := (-1)) hx hb dM_witness_49 (by decide) ?_
          -- end 2
          rw [← hQ]
          exact k_iret hx hb hr hlocks rfl (u := 0) (Or.inr (Or.inl ⟨h5, fun n hn e9 => Or.inl (by rw [← hdd]; rw [e9] at h40; exact (nI_ltI (by omega) (by omega)).mp h40), rfl, rfl⟩)) hP hD hK hS dM_witness_50
        · skip
          refine lv_iload_n hx hb dM_witness_43 rfl (lv_at hl 0 rfl) ?_
          refine lv_bipush (v := nI 64) hx hb dM_witness_44 (by decide) ?_
          refine lv_icmp_ne (tgt := 51) hx hb dM_witness_46 rfl (fun h46 => ?_) (fun h46 => ?_)
          · have h46 : ¬ d = 64 := fun z => h46 ((nI_eq (a := d) (b := 64) (by omega) (by omega)).mpr z)
            obtain ⟨nq, hnq, rfl⟩ := ix_le (d := d) (by omega) h35 h40
            refine lv_aload_n hx hb dM_witness_51 rfl (lv_at hl 1 rfl) ?_
            refine va_get (D := gD G) (ci := 6) (v := .int (nI stt)) (C := "CircuitProverModel") (T := TM) (N := 20) hx hb htb inM hown hK hP 0 rfl rfl 12 (by decide) (htb _ b683) (fun _ h9 => h9) rfl dM_witness_52 ?_
            refine lv_istore_n (lv' := [(3, .int (nI stt)), (2, .int (nI d)), (0, .ref qm), (1, .int (nI nq))]) hx hb dM_witness_55 rfl hl (by decide) rfl (fun ls hl => ?_)
            refine lv_iconst (v := nI 0) hx hb dM_witness_56 (by decide) ?_
            refine lv_istore (lv' := [(4, .int (nI 0)), (3, .int (nI stt)), (2, .int (nI d)), (0, .ref qm), (1, .int (nI nq))]) hx hb dM_witness_57 hl (by decide) rfl (fun ls hl => ?_)
            refine lv_iconst (v := nI 0) hx hb dM_witness_59 (by decide) ?_
            refine lv_istore (lv' := [(5, .int (nI 0)), (4, .int (nI 0)), (3, .int (nI stt)), (2, .int (nI d)), (0, .ref qm), (1, .int (nI nq))]) hx hb dM_witness_60 hl (by decide) rfl (fun ls hl => ?_)
            have loop62 : ∀ (n : Nat) (stv : Nat) (rv : Nat) (k : Nat) (H : Heap) (locs : List Loc) (ls : Array Slot), nq + 1 - k < n → (k ≤ nq + 1 ∧ stv < sts) → (k ≤ d → stv = wst (nxF fx) (nF sts drw (nxF fx) (badOf sts drw (bdF fb))) drw d stt k ∧ lb ((nF sts drw (nxF fx) (badOf sts drw (bdF fb))) (d - k)) stv = true ∧ ∀ j, j < d - k → lb ((nF sts drw (nxF fx) (badOf sts drw (bdF fb))) j) stv = false) → (1 ≤ k → rv = wrs (nF sts drw (nxF fx) (badOf sts drw (bdF fb))) (nxF fx) (bdF fb) drw d stt (k - 1)) → va_P (gD G) vC [(qm, .inr (6, [.int (nI 0), .int (nI ul), .ref xt, .int (nI pt), .ref xh, .ref xi, .ref xl, .ref xo, .ref xg, .ref xd, .int (zB ld), .ref xs, .int (nI stt), .int (nI sts), .int (nI drw), .ref xn, .ref xb, .ref xv, .int (nI bd), .int (nI rd)])), (xn, aI G 512 fx), (xb, aZ G 512 fb)] H → va_D A [(qm, .inr (6, [.int (nI 0), .int (nI ul), .ref xt, .int (nI pt), .ref xh, .ref xi, .ref xl, .ref xo, .ref xg, .ref xd, .int (zB ld), .ref xs, .int (nI stt), .int (nI sts), .int (nI drw), .ref xn, .ref xb, .ref xv, .int (nI bd), .int (nI rd)])), (xn, aI G 512 fx), (xb, aZ G 512 fb)] → va_S A s.heap H locs → lv_has ls 8 [(0, .ref qm), (1, .int (nI nq)), (2, .int (nI d)), (3, .int (nI stv)), (4, .int (nI rv)), (5, .int (nI k))] → W p l e R s m args below meth c H locs 0 0 Q (F0 m 62 ls []) := by
              intro n
              induction n with
              | zero => intro stv rv k H locs ls hmu; omega
              | succ n ih =>
                intro stv rv k H locs ls hmu hk hin hr9 hP hD hS hl
                have ih62 := ih
                clear ih
                refine lv_iload hx hb dM_witness_62 (lv_at hl 5 rfl) ?_
                refine lv_iload_n hx hb dM_witness_64 rfl (lv_at hl 1 rfl) ?_
                refine lv_icmp_gt (tgt := 180) hx hb dM_witness_65 rfl (fun h65 => ?_) (fun h65 => ?_)
                · have h65 : nq < k := (nI_ltI (a := nq) (b := k) (by omega) (by omega)).mp h65
                  refine lv_iload hx hb dM_witness_180 (lv_at hl 4 rfl) ?_
                  -- end 3
                  rw [← hQ]
                  exact k_iret hx hb hr hlocks rfl (u := 0) (Or.inr (Or.inr ⟨nq, h5, by rw [← hdd]; exact ⟨hnq, by omega, rfl⟩, by rw [← hdd, hr9 (by omega), show k - 1 = nq by omega], rfl⟩)) hP hD hK hS dM_witness_182
                · have h65 : k ≤ nq := Nat.le_of_not_lt (fun z => h65 ((nI_ltI (a := nq) (b := k) (by omega) (by omega)).mpr z))
                  refine lv_iconst (v := (-1)) hx hb dM_witness_68 (by decide) ?_
                  refine lv_istore (lv' := [(4, .int (-1)), (0, .ref qm), (1, .int (nI nq)), (2, .int (nI d)), (3, .int (nI stv)), (5, .int (nI k))]) hx hb dM_witness_69 hl (by decide) rfl (fun ls hl => ?_)
                  refine lv_iconst (v := nI 0) hx hb dM_witness_71 (by decide) ?_
                  refine lv_istore (lv' := [(6, .int (nI 0)), (4, .int (-1)), (0, .ref qm), (1, .int (nI nq)), (2, .int (nI d)), (3, .int (nI stv)), (5, .int (nI k))]) hx hb dM_witness_72 hl (by decide) rfl (fun ls hl => ?_)
                  have loop74 : ∀ (n : Nat) (i : Nat) (H : Heap) (locs : List Loc) (ls : Array Slot), drw - i < n → (i ≤ drw) → (∀ j, j < i → pW (nF sts drw (nxF fx) (badOf sts drw (bdF fb))) (nxF fx) (bdF fb) d k stv j = false) → va_P (gD G) vC [(qm, .inr (6, [.int (nI 0), .int (nI ul), .ref xt, .int (nI pt), .ref xh, .ref xi, .ref xl, .ref xo, .ref xg, .ref xd, .int (zB ld), .ref xs, .int (nI stt), .int (nI sts), .int (nI drw), .ref xn, .ref xb, .ref xv, .int (nI bd), .int (nI rd)])), (xn, aI G 512 fx), (xb, aZ G 512 fb)] H → va_D A [(qm, .inr (6, [.int (nI 0), .int (nI ul), .ref xt, .int (nI pt), .ref xh, .ref xi, .ref xl, .ref xo, .ref xg, .ref xd, .int (zB ld), .ref xs, .int (nI stt), .int (nI sts), .int (nI drw), .ref xn, .ref xb, .ref xv, .int (nI bd), .int (nI rd)])), (xn, aI G 512 fx), (xb, aZ G 512 fb)] → va_S A s.heap H locs → lv_has ls 8 [(0, .ref qm), (1, .int (nI nq)), (2, .int (nI d)), (3, .int (nI stv)), (4, .int (-1)), (5, .int (nI k)), (6, .int (nI i))] → W p l e R s m args below meth c H locs 0 0 Q (F0 m 74 ls []) := by
                    intro n
                    induction n with
                    | zero => intro i H locs ls hmu; omega
                    | succ n ih =>
                      intro i H locs ls hmu hi ha hP hD hS hl
                      have ih74 := ih
                      clear ih
                      refine lv_iload hx hb dM_witness_74 (lv_at hl 6 rfl) ?_
                      refine lv_aload_n hx hb dM_witness_76 rfl (lv_at hl 0 rfl) ?_
                      refine va_get (D := gD G) (ci := 6) (v := .int (nI drw)) (C := "CircuitProverModel") (T := TM) (N := 20) hx hb htb inM hown hK hP 0 rfl rfl 14 (by decide) (htb _ b685) (fun _ h9 => h9) rfl dM_witness_77 ?_
                      refine lv_icmp_ge (tgt := 161) hx hb dM_witness_80 rfl (fun h80 => ?_) (fun h80 => ?_)
                      · have h80 : drw ≤ i := (nI_leI (a := drw) (b := i) (by omega) (by omega)).mp h80
                        exact (by obtain ⟨i9, h8, h9⟩ := pW_ex (bd := bdF fb) hz hk.2 (show k ≤ d by omega) (hin (by omega)).2.1 (hin (by omega)).2.2; rw [ha i9 (by omega)] at h9; cases h9)
                      · have h80 : i < drw := Nat.lt_of_not_le (fun z => h80 ((nI_leI (a := drw) (b := i) (by omega) (by omega)).mpr z))
                        refine lv_iload hx hb dM_witness_83 (lv_at hl 4 rfl) ?_
                        refine lv_if_ge (tgt := 161) hx hb dM_witness_85 rfl (fun h85 => (by revert h85; first | decide | exact fun z => absurd z (by decide) | exact fun z => z.elim (by decide))) (fun _ => ?_)
                        refine lv_iload hx hb dM_witness_88 (lv_at hl 5 rfl) ?_
                        refine lv_iload_n hx hb dM_witness_90 rfl (lv_at hl 2 rfl) ?_
                        refine lv_icmp_ne (tgt := 109) hx hb dM_witness_91 rfl (fun h91 => ?_) (fun h91 => ?_)
                        · have h91 : ¬ k = d := fun z => h91 ((nI_eq (a := k) (b := d) (by omega) (by omega)).mpr z)
                          refine lv_aload_n hx hb dM_witness_109 rfl (lv_at hl 0 rfl) ?_
                          refine lv_aload_n hx hb dM_witness_110 rfl (lv_at hl 0 rfl) ?_
                          refine va_get (D := gD G) (ci := 6) (v := .ref xn) (C := "CircuitProverModel") (T := TM) (N := 20) hx hb htb inM hown hK hP 0 rfl rfl 15 (by decide) (htb _ b686) (fun _ h9 => h9) rfl dM_witness_111 ?_
                          refine lv_bipush (v := nI 8) hx hb dM_witness_114 (by decide) ?_
                          refine lv_iload_n hx hb dM_witness_116 rfl (lv_at hl 3 rfl) ?_
                          refine lv_imul hx hb dM_witness_117 ?_
                          refine k_toi (y := nI (8 * stv)) (pk_mul _ _) ?_
                          refine lv_iload hx hb dM_witness_118 (lv_at hl 6 rfl) ?_
                          refine lv_iadd hx hb dM_witness_120 ?_
                          refine k_toi (y := nI ((8 * stv) + i)) (nI_add _ _) ?_
                          refine k_iald hx hb hK hP 1 rfl (k := (8 * stv) + i) (by omega) (by decide) dM_witness_121 ?_
                          refine k_i (ws2 := fun u => [(qm, .inr (6, [.int (nI 0), .int (nI ul), .ref xt, .int (nI pt), .ref xh, .ref xi, .ref xl, .ref xo, .ref xg, .ref xd, .int (zB ld), .ref xs, .int (nI stt), .int (nI sts), .int (nI drw), .ref xn, .ref xb, .ref xv, .int (nI bd), .int (nI rd)])), (xn, aI G 512 fx), (xb, aZ G 512 fb)]) (wr := []) (k_runV (n := 1) (As := [.int (nI (fx ((8 * stv) + i)))]) (rest := []) hx hb hml hown htb hP hD hK hS hA hE (k_M_distance l G H.size qm xt xh xi xl xo xg xd xs xn xb xv 0 ul pt ld stt sts drw bd rd fx fb (fx ((8 * stv) + i)) (show sts ≤ 64 from by omega) (show 1 ≤ drw ∧ drw ≤ 8 from by omega) (show ∀ a b, a < sts → b < drw → fx (8 * a + b) < 64 from hn6) (show (fx ((8 * stv) + i)) < 64 from hn6 stv i (by omega) (by omega))) b832 b834 s44 b7 b835 (by decide +kernel) rfl rfl ⟨by rw [hRf]; exact Nat.le_of_ble_eq_true rfl, by rw [hRl]; exact Nat.le_of_ble_eq_true rfl⟩ [0, 1, 2] rfl (by decide) 0 rfl rfl rfl rfl hl.1 rfl (Nat.le_of_ble_eq_true rfl) dM_witness_122 ⟨Nat.zero_le _, Nat.zero_le _⟩) hP hD hS hA [0, 1, 2] [] [0, 1, 2] rfl rfl (by decide) (by decide) (fun u => rfl) (by decide) (fun r u H locs hw hP hD hS => ?_)
                          obtain ⟨rfl, rfl⟩ := hw
                          have hP : va_P (gD G) vC [(qm, .inr (6, [.int (nI 0), .int (nI ul), .ref xt, .int (nI pt), .ref xh, .ref xi, .ref xl, .ref xo, .ref xg, .ref xd, .int (zB ld), .ref xs, .int (nI stt), .int (nI sts), .int (nI drw), .ref xn, .ref xb, .ref xv, .int (nI bd), .int (nI rd)])), (xn, aI G 512 fx), (xb, aZ G 512 fb)] H := hP
                          have hD : va_D A [(qm, .inr (6, [.int (nI 0), .int (nI ul), .ref xt, .int (nI pt), .ref xh, .ref xi, .ref xl, .ref xo, .ref xg, .ref xd, .int (zB ld), .ref xs, .int (nI stt), .int (nI sts), .int (nI drw), .ref xn, .ref xb, .ref xv, .int (nI bd), .int (nI rd)])), (xn, aI G 512 fx), (xb, aZ G 512 fb)] := hD
                          have hds := (lst_spec (fun j => lb ((nF sts drw (nxF fx) (badOf sts drw (bdF fb))) j) (fx ((8 * stv) + i))) 64).1
                          refine lv_iload_n hx hb dM_witness_125 rfl (lv_at hl 2 rfl) ?_
                          refine lv_iload hx hb dM_witness_126 (lv_at hl 5 rfl) ?_
                          refine lv_isub hx hb dM_witness_128 ?_
                          refine k_toi (y := nI (d - k)) (pk_sub (by omega)) ?_
                          refine lv_iconst (v := nI 1) hx hb dM_witness_129 (by decide) ?_
                          refine lv_isub hx hb dM_witness_130 ?_
                          refine k_toi (y := nI ((d - k) - 1)) (pk_sub (by omega)) ?_
                          refine lv_icmp_ne (tgt := 138) hx hb dM_witness_131 rfl (fun h131 => ?_) (fun h131 => ?_)
                          · have h131 : ¬ lst (fun j => lb ((nF sts drw (nxF fx) (badOf sts drw (bdF fb))) j) (fx ((8 * stv) + i))) 64 = (d - k) - 1 := fun z => h131 ((nI_eq (a := lst (fun j => lb ((nF sts drw (nxF fx) (badOf sts drw (bdF fb))) j) (fx ((8 * stv) + i))) 64) (b := (d - k) - 1) (by omega) (by omega)).mpr z)
                            refine lv_iconst (v := nI 0) hx hb dM_witness_138 (by decide) ?_
                            refine lv_istore (lv' := [(7, .int (nI 0)), (0, .ref qm), (1, .int (nI nq)), (2, .int (nI d)), (3, .int (nI stv)), (4, .int (-1)), (5, .int (nI k)), (6, .int (nI i))]) hx hb dM_witness_139 hl (by decide) rfl (fun ls hl => ?_)
                            refine lv_iload hx hb dM_witness_141 (lv_at hl 0 rfl) ?_
                            refine lv_if_eq (tgt := 151) hx hb dM_witness_143 rfl (fun _ => ?_) (fun h143 => (by revert h143; first | decide | exact fun z => absurd z (by decide) | exact fun z => z.elim (by decide)))
                            refine lv_iload hx hb dM_witness_151 (lv_at hl 5 rfl) ?_
                            refine lv_istore (lv' := [(4, .int (-1)), (7, .int (nI 0)), (0, .ref qm), (1, .int (nI nq)), (2, .int (nI d)), (3, .int (nI stv)), (5, .int (nI k)), (6, .int (nI i))]) hx hb dM_witness_153 hl (by decide) rfl (fun ls hl => ?_)
                            refine lv_iinc (v := nI (i + 1)) (lv' := [(6, .int (nI (i + 1))), (4, .int (-1)), (7, .int (nI 0)), (0, .ref qm), (1, .int (nI nq)), (2, .int (nI d)), (3, .int (nI stv)), (5, .int (nI k))]) hx hb dM_witness_155 hl (k := 7) rfl (nI_add _ 1) (by decide) rfl (fun ls hl => ?_)
                            refine lv_goto (tgt := 74) hx hb dM_witness_158 rfl ?_
                            have hl : lv_has ls 8 [(0, .ref qm), (1, .int (nI nq)), (2, .int (nI d)), (3, .int (nI stv)), (4, .int (-1)), (5, .int (nI k)), (6, .int (nI (i + 1)))] := lv_sub hl [3, 4, 5, 6, 1, 7, 0] rfl
                            have hin9 := hin (by omega)
                            have hpf : pW (nF sts drw (nxF fx) (badOf sts drw (bdF fb))) (nxF fx) (bdF fb) d k stv i = false := by unfold pW; first | (rw [if_pos h91]; exact h143) | (rw [if_neg h91]; (have h9 := fun z => h131 ((wit_iff hz hk.2 (show i < drw by omega) (e := d - k) (by omega) hin9.2.2).mpr z)); simpa using h9)
                            exact ih74 (i + 1) _ _ _ (by omega) (by omega) (fun j hj => by by_cases e9 : j = i; (subst e9; exact hpf); (exact ha j (by omega))) hP hD hS hl
                          · have h131 : lst (fun j => lb ((nF sts drw (nxF fx) (badOf sts drw (bdF fb))) j) (fx ((8 * stv) + i))) 64 = (d - k) - 1 := (nI_eq (a := lst (fun j => lb ((nF sts drw (nxF fx) (badOf sts drw (bdF fb))) j) (fx ((8 * stv) + i))) 64) (b := (d - k) - 1) (by omega) (by omega)).mp h131
                            refine lv_iconst (v := nI 1) hx hb dM_witness_134 (by decide) ?_
                            refine lv_goto (tgt := 139) hx hb dM_witness_135 rfl ?_
                            refine lv_istore (lv' := [(7, .int (nI 1)), (0, .ref qm), (1, .int (nI nq)), (2, .int (nI d)), (3, .int (nI stv)), (4, .int (-1)), (5, .int (nI k)), (6, .int (nI i))]) hx hb dM_witness_139 hl (by decide) rfl (fun ls hl => ?_)
                            refine lv_iload hx hb dM_witness_141 (lv_at hl 0 rfl) ?_
                            refine lv_if_eq (tgt := 151) hx hb dM_witness_143 rfl (fun h143 => (by revert h143; first | decide | exact fun z => absurd z (by decide) | exact fun z => z.elim (by decide))) (fun _ => ?_)
                            refine lv_iload hx hb dM_witness_146 (lv_at hl 7 rfl) ?_
                            refine lv_goto (tgt := 153) hx hb dM_witness_148 rfl ?_
                            refine lv_istore (lv' := [(4, .int (nI i)), (7, .int (nI 1)), (0, .ref qm), (1, .int (nI nq)), (2, .int (nI d)), (3, .int (nI stv)), (5, .int (nI k)), (6, .int (nI i))]) hx hb dM_witness_153 hl (by decide) rfl (fun ls hl => ?_)
                            refine lv_iinc (v := nI (i + 1)) (lv' := [(6, .int (nI (i + 1))), (4, .int (nI i)), (7, .int (nI 1)), (0, .ref qm), (1, .int (nI nq)), (2, .int (nI d)), (3, .int (nI stv)), (5, .int (nI k))]) hx hb dM_witness_155 hl (k := 7) rfl (nI_add _ 1) (by decide) rfl (fun ls hl => ?_)
                            refine lv_goto (tgt := 74) hx hb dM_witness_158 rfl ?_
                            refine lv_iload hx hb dM_witness_74 (lv_at hl 0 rfl) ?_
                            refine lv_aload_n hx hb dM_witness_76 rfl (lv_at hl 3 rfl) ?_
                            refine va_get (D := gD G) (ci := 6) (v := .int (nI drw)) (C := "CircuitProverModel") (T := TM) (N := 20) hx hb htb inM hown hK hP 0 rfl rfl 14 (by decide) (htb _ b685) (fun _ h9 => h9) rfl dM_witness_77 ?_
                            refine lv_icmp_ge (tgt := 161) hx hb dM_witness_80 rfl (fun h80 => ?_) (fun h80 => ?_)
                            · have h80 : drw ≤ i + 1 := (nI_leI (a := drw) (b := i + 1) (by omega) (by omega)).mp h80
                              refine lv_aload_n hx hb dM_witness_161 rfl (lv_at hl 3 rfl) ?_
                              refine va_get (D := gD G) (ci := 6) (v := .ref xn) (C := "CircuitProverModel") (T := TM) (N := 20) hx hb htb inM hown hK hP 0 rfl rfl 15 (by decide) (htb _ b686) (fun _ h9 => h9) rfl dM_witness_162 ?_
                              refine lv_bipush (v := nI 8) hx hb dM_witness_165 (by decide) ?_
                              refine lv_iload_n hx hb dM_witness_167 rfl (lv_at hl 6 rfl) ?_
                              refine lv_imul hx hb dM_witness_168 ?_
                              refine k_toi (y := nI (8 * stv)) (pk_mul _ _) ?_
                              refine lv_iload hx hb dM_witness_169 (lv_at hl 1 rfl) ?_
                              refine lv_iadd hx hb dM_witness_171 ?_
                              refine k_toi (y := nI ((8 * stv) + i)) (nI_add _ _) ?_
                              refine k_iald hx hb hK hP 1 rfl (k := (8 * stv) + i) (by omega) (by decide) dM_witness_172 ?_
                              refine lv_istore_n (lv' := [(3, .int (nI (fx ((8 * stv) + i)))), (6, .int (nI (i + 1))), (4, .int (nI i)), (7, .int (nI 1)), (0, .ref qm), (1, .int (nI nq)), (2, .int (nI d)), (5, .int (nI k))]) hx hb dM_witness_173 rfl hl (by decide) rfl (fun ls hl => ?_)
                              refine lv_iinc (v := nI (k + 1)) (lv' := [(5, .int (nI (k + 1))), (3, .int (nI (fx ((8 * stv) + i)))), (6, .int (nI (i + 1))), (4, .int (nI i)), (7, .int (nI 1)), (0, .ref qm), (1, .int (nI nq)), (2, .int (nI d))]) hx hb dM_witness_174 hl (k := 7) rfl (nI_add _ 1) (by decide) rfl (fun ls hl => ?_)
                              refine lv_goto (tgt := 62) hx hb dM_witness_177 rfl ?_
                              have hl : lv_has ls 8 [(0, .ref qm), (1, .int (nI nq)), (2, .int (nI d)), (3, .int (nI (fx ((8 * stv) + i)))), (4, .int (nI i)), (5, .int (nI (k + 1)))] := lv_sub hl [5, 6, 7, 1, 3, 0] rfl
                              have hin9 := hin (by omega)
                              have hpi : pW (nF sts drw (nxF fx) (badOf sts drw (bdF fb))) (nxF fx) (bdF fb) d k stv i = true := by unfold pW; first | (rw [if_pos h91]; exact h143) | (rw [if_neg h91]; exact (wit_iff hz hk.2 (show i < drw by omega) (e := d - k) (by omega) hin9.2.2).mp (by have h9 := h131; exact h9))
                              have hws := wit_step (bd := bdF fb) (Nf := (nF sts drw (nxF fx) (badOf sts drw (bdF fb)))) rfl hz hk.2 (show i < drw by omega) (show k ≤ d by omega) hin9.1 hin9.2.2 ha hpi
                              exact ih62 (fx ((8 * stv) + i)) i (k + 1) _ _ _ (by omega) (⟨by omega, hxs stv i (by omega) (by omega)⟩) hws.1 (fun _ => hws.2) hP hD hS hl
                            · have h80 : i + 1 < drw := Nat.lt_of_not_le (fun z => h80 ((nI_leI (a := drw) (b := i + 1) (by omega) (by omega)).mpr z))
                              refine lv_iload hx hb dM_witness_83 (lv_at hl 1 rfl) ?_
                              refine lv_if_ge (tgt := 161) hx hb dM_witness_85 rfl (fun h85 => ?_) (fun h85 => ?_)
                              · have h85 : 0 ≤ i := (nI_leI (a := 0) (b := i) (by omega) (by omega)).mp h85
                                refine lv_aload_n hx hb dM_witness_161 rfl (lv_at hl 3 rfl) ?_
                                refine va_get (D := gD G) (ci := 6) (v := .ref xn) (C := "CircuitProverModel") (T := TM) (N := 20) hx hb htb inM hown hK hP 0 rfl rfl 15 (by decide) (htb _ b686) (fun _ h9 => h9) rfl dM_witness_162 ?_
                                refine lv_bipush (v := nI 8) hx hb dM_witness_165 (by decide) ?_
                                refine lv_iload_n hx hb dM_witness_167 rfl (lv_at hl 6 rfl) ?_
                                refine lv_imul hx hb dM_witness_168 ?_
                                refine k_toi (y := nI (8 * stv)) (pk_mul _ _) ?_
                                refine lv_iload hx hb dM_witness_169 (lv_at hl 1 rfl) ?_
                                refine lv_iadd hx hb dM_witness_171 ?_
                                refine k_toi (y := nI ((8 * stv) + i)) (nI_add _ _) ?_
                                refine k_iald hx hb hK hP 1 rfl (k := (8 * stv) + i) (by omega) (by decide) dM_witness_172 ?_
                                refine lv_istore_n (lv' := [(3, .int (nI (fx ((8 * stv) + i)))), (6, .int (nI (i + 1))), (4, .int (nI i)), (7, .int (nI 1)), (0, .ref qm), (1, .int (nI nq)), (2, .int (nI d)), (5, .int (nI k))]) hx hb dM_witness_173 rfl hl (by decide) rfl (fun ls hl => ?_)
                                refine lv_iinc (v := nI (k + 1)) (lv' := [(5, .int (nI (k + 1))), (3, .int (nI (fx ((8 * stv) + i)))), (6, .int (nI (i + 1))), (4, .int (nI i)), (7, .int (nI 1)), (0, .ref qm), (1, .int (nI nq)), (2, .int (nI d))]) hx hb dM_witness_174 hl (k := 7) rfl (nI_add _ 1) (by decide) rfl (fun ls hl => ?_)
                                refine lv_goto (tgt := 62) hx hb dM_witness_177 rfl ?_
                                have hl : lv_has ls 8 [(0, .ref qm), (1, .int (nI nq)), (2, .int (nI d)), (3, .int (nI (fx ((8 * stv) + i)))), (4, .int (nI i)), (5, .int (nI (k + 1)))] := lv_sub hl [5, 6, 7, 1, 3, 0] rfl
                                have hin9 := hin (by omega)
                                have hpi : pW (nF sts drw (nxF fx) (badOf sts drw (bdF fb))) (nxF fx) (bdF fb) d k stv i = true := by unfold pW; first | (rw [if_pos h91]; exact h143) | (rw [if_neg h91]; exact (wit_iff hz hk.2 (show i < drw by omega) (e := d - k) (by omega) hin9.2.2).mp (by have h9 := h131; exact h9))
                                have hws := wit_step (bd := bdF fb) (Nf := (nF sts drw (nxF fx) (badOf sts drw (bdF fb)))) rfl hz hk.2 (show i < drw by omega) (show k ≤ d by omega) hin9.1 hin9.2.2 ha hpi
                                exact ih62 (fx ((8 * stv) + i)) i (k + 1) _ _ _ (by omega) (⟨by omega, hxs stv i (by omega) (by omega)⟩) hws.1 (fun _ => hws.2) hP hD hS hl
                              · have h85 : i < 0 := Nat.lt_of_not_le (fun z => h85 ((nI_leI (a := 0) (b := i) (by omega) (by omega)).mpr z))
                                exfalso; omega
                        · have h91 : k = d := (nI_eq (a := k) (b := d) (by omega) (by omega)).mp h91
                          refine lv_aload_n hx hb dM_witness_94 rfl (lv_at hl 0 rfl) ?_
                          refine va_get (D := gD G) (ci := 6) (v := .ref xb) (C := "CircuitProverModel") (T := TM) (N := 20) hx hb htb inM hown hK hP 0 rfl rfl 16 (by decide) (htb _ b687) (fun _ h9 => h9) rfl dM_witness_95 ?_
                          refine lv_bipush (v := nI 8) hx hb dM_witness_98 (by decide) ?_
                          refine lv_iload_n hx hb dM_witness_100 rfl (lv_at hl 3 rfl) ?_
                          refine lv_imul hx hb dM_witness_101 ?_
                          refine k_toi (y := nI (8 * stv)) (pk_mul _ _) ?_
                          refine lv_iload hx hb dM_witness_102 (lv_at hl 6 rfl) ?_
                          refine lv_iadd hx hb dM_witness_104 ?_
                          refine k_toi (y := nI ((8 * stv) + i)) (nI_add _ _) ?_
                          refine k_zald hx hb hK hP 2 rfl (k := (8 * stv) + i) (by omega) (by decide) dM_witness_105 ?_
                          refine lv_goto (tgt := 139) hx hb dM_witness_106 rfl ?_
                          refine lv_istore (lv' := [(7, .int (zB (fb ((8 * stv) + i)))), (0, .ref qm), (1, .int (nI nq)), (2, .int (nI d)), (3, .int (nI stv)), (4, .int (-1)), (5, .int (nI k)), (6, .int (nI i))]) hx hb dM_witness_139 hl (by decide) rfl (fun ls hl => ?_)
                          refine lv_iload hx hb dM_witness_141 (lv_at hl 0 rfl) ?_
                          refine lv_if_eq (tgt := 151) hx hb dM_witness_143 rfl (fun h143 => ?_) (fun h143 => ?_)
                          · have h143 : fb ((8 * stv) + i) = false := zB_f h143
                            refine lv_iload hx hb dM_witness_151 (lv_at hl 5 rfl) ?_
                            refine lv_istore (lv' := [(4, .int (-1)), (7, .int (zB (fb ((8 * stv) + i)))), (0, .ref qm), (1, .int (nI nq)), (2, .int (nI d)), (3, .int (nI stv)), (5, .int (nI k)), (6, .int (nI i))]) hx hb dM_witness_153 hl (by decide) rfl (fun ls hl => ?_)
                            refine lv_iinc (v := nI (i + 1)) (lv' := [(6, .int (nI (i + 1))), (4, .int (-1)), (7, .int (zB (fb ((8 * stv) + i)))), (0, .ref qm), (1, .int (nI nq)), (2, .int (nI d)), (3, .int (nI stv)), (5, .int (nI k))]) hx hb dM_witness_155 hl (k := 7) rfl (nI_add _ 1) (by decide) rfl (fun ls hl => ?_)
                            refine lv_goto (tgt := 74) hx hb dM_witness_158 rfl ?_
                            have hl : lv_has ls 8 [(0, .ref qm), (1, .int (nI nq)), (2, .int (nI d)), (3, .int (nI stv)), (4, .int (-1)), (5, .int (nI k)), (6, .int (nI (i + 1)))] := lv_sub hl [3, 4, 5, 6, 1, 7, 0] rfl
                            have hin9 := hin (by omega)
                            have hpf : pW (nF sts drw (nxF fx) (badOf sts drw (bdF fb))) (nxF fx) (bdF fb) d k stv i = false := by unfold pW; first | (rw [if_pos h91]; exact h143) | (rw [if_neg h91]; (have h9 := fun z => h131 ((wit_iff hz hk.2 (show i < drw by omega) (e := d - k) (by omega) hin9.2.2).mpr z)); simpa using h9)
                            exact ih74 (i + 1) _ _ _ (by omega) (by omega) (fun j hj => by by_cases e9 : j = i; (subst e9; exact hpf); (exact ha j (by omega))) hP hD hS hl
                          · have h143 : fb ((8 * stv) + i) = true := zB_t h143
                            refine lv_iload hx hb dM_witness_146 (lv_at hl 7 rfl) ?_
                            refine lv_goto (tgt := 153) hx hb dM_witness_148 rfl ?_
                            refine lv_istore (lv' := [(4, .int (nI i)), (7, .int (zB (fb ((8 * stv) + i)))), (0, .ref qm), (1, .int (nI nq)), (2, .int (nI d)), (3, .int (nI stv)), (5, .int (nI k)), (6, .int (nI i))]) hx hb dM_witness_153 hl (by decide) rfl (fun ls hl => ?_)
                            refine lv_iinc (v := nI (i + 1)) (lv' := [(6, .int (nI (i + 1))), (4, .int (nI i)), (7, .int (zB (fb ((8 * stv) + i)))), (0, .ref qm), (1, .int (nI nq)), (2, .int (nI d)), (3, .int (nI stv)), (5, .int (nI k))]) hx hb dM_witness_155 hl (k := 7) rfl (nI_add _ 1) (by decide) rfl (fun ls hl => ?_)
                            refine lv_goto (tgt := 74) hx hb dM_witness_158 rfl ?_
                            refine lv_iload hx hb dM_witness_74 (lv_at hl 0 rfl) ?_
                            refine lv_aload_n hx hb dM_witness_76 rfl (lv_at hl 3 rfl) ?_
                            refine va_get (D := gD G) (ci := 6) (v := .int (nI drw)) (C := "CircuitProverModel") (T := TM) (N := 20) hx hb htb inM hown hK hP 0 rfl rfl 14 (by decide) (htb _ b685) (fun _ h9 => h9) rfl dM_witness_77 ?_
                            refine lv_icmp_ge (tgt := 161) hx hb dM_witness_80 rfl (fun h80 => ?_) (fun h80 => ?_)
                            · have h80 : drw ≤ i + 1 := (nI_leI (a := drw) (b := i + 1) (by omega) (by omega)).mp h80
                              refine lv_aload_n hx hb dM_witness_161 rfl (lv_at hl 3 rfl) ?_
                              refine va_get (D := gD G) (ci := 6) (v := .ref xn) (C := "CircuitProverModel") (T := TM) (N := 20) hx hb htb inM hown hK hP 0 rfl rfl 15 (by decide) (htb _ b686) (fun _ h9 => h9) rfl dM_witness_162 ?_
                              refine lv_bipush (v := nI 8) hx hb dM_witness_165 (by decide) ?_
                              refine lv_iload_n hx hb dM_witness_167 rfl (lv_at hl 6 rfl) ?_
                              refine lv_imul hx hb dM_witness_168 ?_
                              refine k_toi (y := nI (8 * stv)) (pk_mul _ _) ?_
                              refine lv_iload hx hb dM_witness_169 (lv_at hl 1 rfl) ?_
                              refine lv_iadd hx hb dM_witness_171 ?_
                              refine k_toi (y := nI ((8 * stv) + i)) (nI_add _ _) ?_
                              refine k_iald hx hb hK hP 1 rfl (k := (8 * stv) + i) (by omega) (by decide) dM_witness_172 ?_
                              refine lv_istore_n (lv' := [(3, .int (nI (fx ((8 * stv) + i)))), (6, .int (nI (i + 1))), (4, .int (nI i)), (7, .int (zB (fb ((8 * stv) + i)))), (0, .ref qm), (1, .int (nI nq)), (2, .int (nI d)), (5, .int (nI k))]) hx hb dM_witness_173 rfl hl (by decide) rfl (fun ls hl => ?_)
                              refine lv_iinc (v := nI (k + 1)) (lv' := [(5, .int (nI (k + 1))), (3, .int (nI (fx ((8 * stv) + i)))), (6, .int (nI (i + 1))), (4, .int (nI i)), (7, .int (zB (fb ((8 * stv) + i)))), (0, .ref qm), (1, .int (nI nq)), (2, .int (nI d))]) hx hb dM_witness_174 hl (k := 7) rfl (nI_add _ 1) (by decide) rfl (fun ls hl => ?_)
                              refine lv_goto (tgt := 62) hx hb dM_witness_177 rfl ?_
                              have hl : lv_has ls 8 [(0, .ref qm), (1, .int (nI nq)), (2, .int (nI d)), (3, .int (nI (fx ((8 * stv) + i)))), (4, .int (nI i)), (5, .int (nI (k + 1)))] := lv_sub hl [5, 6, 7, 1, 3, 0] rfl
                              have hin9 := hin (by omega)
                              have hpi : pW (nF sts drw (nxF fx) (badOf sts drw (bdF fb))) (nxF fx) (bdF fb) d k stv i = true := by unfold pW; first | (rw [if_pos h91]; exact h143) | (rw [if_neg h91]; exact (wit_iff hz hk.2 (show i < drw by omega) (e := d - k) (by omega) hin9.2.2).mp (by have h9 := h131; exact h9))
                              have hws := wit_step (bd := bdF fb) (Nf := (nF sts drw (nxF fx) (badOf sts drw (bdF fb)))) rfl hz hk.2 (show i < drw by omega) (show k ≤ d by omega) hin9.1 hin9.2.2 ha hpi
                              exact ih62 (fx ((8 * stv) + i)) i (k + 1) _ _ _ (by omega) (⟨by omega, hxs stv i (by omega) (by omega)⟩) hws.1 (fun _ => hws.2) hP hD hS hl
                            · have h80 : i + 1 < drw := Nat.lt_of_not_le (fun z => h80 ((nI_leI (a := drw) (b := i + 1) (by omega) (by omega)).mpr z))
                              refine lv_iload hx hb dM_witness_83 (lv_at hl 1 rfl) ?_
                              refine lv_if_ge (tgt := 161) hx hb dM_witness_85 rfl (fun h85 => ?_) (fun h85 => ?_)
                              · have h85 : 0 ≤ i := (nI_leI (a := 0) (b := i) (by omega) (by omega)).mp h85
                                refine lv_aload_n hx hb dM_witness_161 rfl (lv_at hl 3 rfl) ?_
                                refine va_get (D := gD G) (ci := 6) (v := .ref xn) (C := "CircuitProverModel") (T := TM) (N := 20) hx hb htb inM hown hK hP 0 rfl rfl 15 (by decide) (htb _ b686) (fun _ h9 => h9) rfl dM_witness_162 ?_
                                refine lv_bipush (v := nI 8) hx hb dM_witness_165 (by decide) ?_
                                refine lv_iload_n hx hb dM_witness_167 rfl (lv_at hl 6 rfl) ?_
                                refine lv_imul hx hb dM_witness_168 ?_
                                refine k_toi (y := nI (8 * stv)) (pk_mul _ _) ?_
                                refine lv_iload hx hb dM_witness_169 (lv_at hl 1 rfl) ?_
                                refine lv_iadd hx hb dM_witness_171 ?_
                                refine k_toi (y := nI ((8 * stv) + i)) (nI_add _ _) ?_
                                refine k_iald hx hb hK hP 1 rfl (k := (8 * stv) + i) (by omega) (by decide) dM_witness_172 ?_
                                refine lv_istore_n (lv' := [(3, .int (nI (fx ((8 * stv) + i)))), (6, .int (nI (i + 1))), (4, .int (nI i)), (7, .int (zB (fb ((8 * stv) + i)))), (0, .ref qm), (1, .int (nI nq)), (2, .int (nI d)), (5, .int (nI k))]) hx hb dM_witness_173 rfl hl (by decide) rfl (fun ls hl => ?_)
                                refine lv_iinc (v := nI (k + 1)) (lv' := [(5, .int (nI (k + 1))), (3, .int (nI (fx ((8 * stv) + i)))), (6, .int (nI (i + 1))), (4, .int (nI i)), (7, .int (zB (fb ((8 * stv) + i)))), (0, .ref qm), (1, .int (nI nq)), (2, .int (nI d))]) hx hb dM_witness_174 hl (k := 7) rfl (nI_add _ 1) (by decide) rfl (fun ls hl => ?_)
                                refine lv_goto (tgt := 62) hx hb dM_witness_177 rfl ?_
                                have hl : lv_has ls 8 [(0, .ref qm), (1, .int (nI nq)), (2, .int (nI d)), (3, .int (nI (fx ((8 * stv) + i)))), (4, .int (nI i)), (5, .int (nI (k + 1)))] := lv_sub hl [5, 6, 7, 1, 3, 0] rfl
                                have hin9 := hin (by omega)
                                have hpi : pW (nF sts drw (nxF fx) (badOf sts drw (bdF fb))) (nxF fx) (bdF fb) d k stv i = true := by unfold pW; first | (rw [if_pos h91]; exact h143) | (rw [if_neg h91]; exact (wit_iff hz hk.2 (show i < drw by omega) (e := d - k) (by omega) hin9.2.2).mp (by have h9 := h131; exact h9))
                                have hws := wit_step (bd := bdF fb) (Nf := (nF sts drw (nxF fx) (badOf sts drw (bdF fb)))) rfl hz hk.2 (show i < drw by omega) (show k ≤ d by omega) hin9.1 hin9.2.2 ha hpi
                                exact ih62 (fx ((8 * stv) + i)) i (k + 1) _ _ _ (by omega) (⟨by omega, hxs stv i (by omega) (by omega)⟩) hws.1 (fun _ => hws.2) hP hD hS hl
                              · have h85 : i < 0 := Nat.lt_of_not_le (fun z => h85 ((nI_leI (a := 0) (b := i) (by omega) (by omega)).mpr z))
                                exfalso; omega
                  have hl : lv_has ls 8 [(0, .ref qm), (1, .int (nI nq)), (2, .int (nI d)), (3, .int (nI stv)), (4, .int (-1)), (5, .int (nI k)), (6, .int (nI 0))] := lv_sub hl [2, 3, 4, 5, 1, 6, 0] rfl
                  exact loop74 (drw - 0 + 1) 0 _ _ _ (by omega) (by omega) (fun j hj => absurd hj (Nat.not_lt_zero j)) hP hD hS hl
            have hl : lv_has ls 8 [(0, .ref qm), (1, .int (nI nq)), (2, .int (nI d)), (3, .int (nI stt)), (4, .int (nI 0)), (5, .int (nI 0))] := lv_sub hl [4, 5, 3, 2, 1, 0] rfl
            exact loop62 (nq + 1 - 0 + 1) stt 0 0 _ _ _ (by omega) (by omega) (fun _ => ⟨rfl, hd64.2.2 (by omega), hd64.2.1⟩) (fun h => by omega) hP hD hS hl
          · have h46 : d = 64 := (nI_eq (a := d) (b := 64) (by omega) (by omega)).mp h46
            refine lv_iconst (v := (-1)) hx hb dM_witness_49 (by decide) ?_
            -- end 4
            rw [← hQ]
            exact k_iret hx hb hr hlocks rfl (u := 0) (Or.inr (Or.inl ⟨h5, fun n hn e9 => Or.inr (by rw [← hdd]; exact h46), rfl, rfl⟩)) hP hD hK hS dM_witness_50
  rw [hH, hlc] at hgo
  exact hgo
