theorem tb_t {i k : Nat} (h : (i / 2 ^ k) % 2 = 1) : i.testBit k = true := by rw [Nat.testBit_eq_decide_div_mod_eq, decide_eq_true h]
theorem tb_f {i k : Nat} (h : ¬ (i / 2 ^ k) % 2 = 1) : i.testBit k = false := by rw [Nat.testBit_eq_decide_div_mod_eq, decide_eq_false h]
def gst (T : Nat → Nat) (w k : Nat) (v : Nat → Bool) : Nat → Bool := if xga T k 0 = 2 * w then va_up v w (litV v (xga T k 1) && litV v (xga T k 2)) else v
theorem gst_y {T : Nat → Nat} {w k : Nat} {v : Nat → Bool} {b : Bool} (h : xga T k 0 = 2 * w) (hb : (litV v (xga T k 1) && litV v (xga T k 2)) = b) : gst T w k v = va_up v w b := by unfold gst; rw [if_pos h, hb]
theorem gst_n {T : Nat → Nat} {w k : Nat} {v : Nat → Bool} (h : ¬ xga T k 0 = 2 * w) : gst T w k v = v := by unfold gst; rw [if_neg h]
theorem gsM_w {T : Nat → Nat} {w : Nat} (hw : 1 ≤ w) (v : Nat → Bool) : it (gst T w) (hd T 4) v = gsM T (w - 1) v := by
  obtain ⟨w, rfl⟩ : ∃ u, w = u + 1 := ⟨w - 1, by omega⟩
  rfl
theorem net_ex {T : Nat → Nat} {n : Nat} (hc : circOK T n) : ∃ (iv lv ln : Nat → Nat) (ig : Nat → Bool) (gl gr : Nat → Nat), netOK T iv lv ln ig gl gr := by
  have hD : dOK T (dN T) := hc.2.1
  have key : ∀ k, k < hd T 4 → ∀ h : ∃ j, j < hd T 4 ∧ xga T j 0 = 2 * (xga T k 0 / 2), Classical.choose h = k := fun k hk h => by
    have h1 := Classical.choose_spec h
    refine ga_inj hD h1.1 hk ?_
    rw [h1.2]
    have := (hD (hd T 1 + hd T 2 + k) (by unfold dN; omega)).1
    rw [dl_ga hk] at this
    unfold dfn at this
    omega
  have ex : ∀ k, k < hd T 4 → ∃ j, j < hd T 4 ∧ xga T j 0 = 2 * (xga T k 0 / 2) := fun k hk => ⟨k, hk, by
    have := (hD (hd T 1 + hd T 2 + k) (by unfold dN; omega)).1
    rw [dl_ga hk] at this
    unfold dfn at this
    omega⟩
  haveI : ∀ p : Prop, Decidable p := fun p => Classical.propDecidable p
  refine ⟨fun k => xin T k / 2, fun k => xla T k 0 / 2, fun k => xla T k 1, fun v => decide (∃ k, k < hd T 4 ∧ xga T k 0 = 2 * v),
    fun v => if h : ∃ j, j < hd T 4 ∧ xga T j 0 = 2 * v then xga T (Classical.choose h) 1 else 0, fun v => if h : ∃ j, j < hd T 4 ∧ xga T j 0 = 2 * v then xga T (Classical.choose h) 2 else 0, fun _ _ => rfl, fun _ _ => ⟨rfl, rfl⟩, fun v _ => decide_eq_true_iff, fun k hk => ?_⟩
  dsimp only
  rw [dif_pos (ex k hk), dif_pos (ex k hk), key k hk (ex k hk)]
  exact ⟨rfl, rfl⟩
theorem ev_ind {T : Nat → Nat} {n : Nat} (hc : circOK T n) (hL : hd T 2 ≤ 6) (v : Nat → Bool) {s i x : Nat} (hs : s < 64) (hx : mOK T x) : litV (evM T v s i) x = val T s i x := by
  obtain ⟨iv, lv, ln, ig, gl, gr, h⟩ := net_ex hc
  unfold val
  rw [← ev_agr hc hL h hs i (fun _ => 0) v x hx, ← ev_agr hc hL h hs i (fun _ => 0) (fun _ => false) x hx]
theorem add_or {a k : Nat} (h : a < 2 ^ k) : a + 2 ^ k = a ||| 2 ^ k := by
  have := Nat.two_pow_add_eq_or_of_lt h 1
  rw [Nat.mul_one] at this
  rw [Nat.add_comm, this, Nat.or_comm]
theorem add_or2 {a b k : Nat} (h : a < 2 ^ k) : a + b * 2 ^ k = a ||| b * 2 ^ k := by
  have := Nat.two_pow_add_eq_or_of_lt h b
  rw [Nat.add_comm, Nat.mul_comm b, this, Nat.or_comm]
theorem stB_lt {T : Nat → Nat} {n : Nat} (h : ∀ k, k < n → xla T k 2 < 2) : stB T n < 2 ^ n := by
  induction n with
  | zero => exact Nat.one_pos
  | succ n ih =>
    unfold stB
    rw [it_s]
    have h1 : 2 ^ n < 2 ^ (n + 1) := Nat.pow_lt_pow_right (by decide) (by omega)
    have h2 := ih (fun k hk => h k (by omega))
    unfold stB at h2
    refine Nat.or_lt_two_pow (by omega) ?_
    have h3 := h n (by omega)
    rcases (show xla T n 2 = 0 ∨ xla T n 2 = 1 by omega) with e | e
    · rw [e]; omega
    · rw [e]; omega
theorem stB_s {T : Nat → Nat} {n : Nat} (h : ∀ k, k < n → xla T k 2 < 2) : stB T n + xla T n 2 * 2 ^ n = stB T (n + 1) := by
  rw [add_or2 (stB_lt h)]
  rfl
def nxP (T : Nat → Nat) (s i n : Nat) : Nat := it (fun k a => if val T s i (xla T k 1) = true then a ||| 2 ^ k else a) n 0
theorem nxP_lt (T : Nat → Nat) (s i n : Nat) : nxP T s i n < 2 ^ n := or_it_lt (fun k => val T s i (xla T k 1) = true) n
theorem nxP_t {T : Nat → Nat} {s i n : Nat} (h : val T s i (xla T n 1) = true) : nxP T s i n + 2 ^ n = nxP T s i (n + 1) := by
  rw [add_or (nxP_lt T s i n)]
  unfold nxP
  rw [it_s, if_pos h]
theorem nxP_f {T : Nat → Nat} {s i n : Nat} (h : val T s i (xla T n 1) = false) : nxP T s i n + 0 = nxP T s i (n + 1) := by
  unfold nxP
  rw [it_s, if_neg (by rw [h]; decide)]; rfl
theorem up8 {α : Type} {f : Nat → α} {g : Nat → Nat → α} {s i D : Nat} {v : α} (hD : D ≤ 8) (hi : i < D) (h : ∀ a b, (a < s ∨ (a = s ∧ b < i)) → b < D → f (8 * a + b) = g a b) (hv : v = g s i) : ∀ a b, (a < s ∨ (a = s ∧ b < i + 1)) → b < D → va_up f ((8 * s) + i) v (8 * a + b) = g a b := by
  intro a b hab hb
  by_cases e : 8 * a + b = 8 * s + i
  · have e1 : a = s := by omega
    have e2 : b = i := by omega
    subst e1; subst e2
    rw [va_up_self]; exact hv
  · rw [va_up_ne _ _ e]; exact h a b (by omega) hb
set_option maxRecDepth 100000 in
set_option maxHeartbeats 4000000 in
theorem k_M_literal (l : Launch) (G : GG) (sz : Nat) (qm : Nat) (xt : Nat) (xh : Nat) (xi : Nat) (xl : Nat) (xo : Nat) (xg : Nat) (xd : Nat) (xs : Nat) (xn : Nat) (xb : Nat) (xv : Nat) (th : Nat) (ul : Nat) (pt : Nat) (ld : Bool) (stt : Nat) (sts : Nat) (drw : Nat) (bd : Nat) (rd : Nat) (fv : Nat → Bool) (x : Nat) (hx9 : x < 100) : Ki l yM_literal cM_literal 3 .boolean 0 0 G [.ref qm, .int (nI x)] [(qm, .inr (6, [.int (nI th), .int (nI ul), .ref xt, .int (nI pt), .ref xh, .ref xi, .ref xl, .ref xo, .ref xg, .ref xd, .int (zB ld), .ref xs, .int (nI stt), .int (nI sts), .int (nI drw), .ref xn, .ref xb, .ref xv, .int (nI bd), .int (nI rd)])), (xv, aZ G 100 fv)] sz (fun (r : Int32) (u : Unit) => (zB (litV fv x) = r ∧ () = u)) (fun (u : Unit) => [(qm, .inr (6, [.int (nI th), .int (nI ul), .ref xt, .int (nI pt), .ref xh, .ref xi, .ref xl, .ref xo, .ref xg, .ref xd, .int (zB ld), .ref xs, .int (nI stt), .int (nI sts), .int (nI drw), .ref xn, .ref xb, .ref xv, .int (nI bd), .int (nI rd)])), (xv, aZ G 100 fv)]) := by
  refine Met.ofW (cc := cM_literal) (maxL := 3) (ret := (some .boolean)) (by decide) rfl ?_
  intro p e s m args below meth c s₁ B hml hv
  obtain ⟨hav, hsz, hP, hK, hD0, hE⟩ := hv
  have hx := B.exec
  have hb := B.bytes
  have hr := B.returns
  have htb : ∀ w ∈ TB, w.before args s = true := fun w h => atoms_spec (ws := Cond.code yM_literal cM_literal 3 (some .boolean) :: TB) B.pre w (List.mem_cons_of_mem _ h)
  have hown : s.vm.findClass "CircuitProverModel" = some m.cls := findClass_of_methodNamed B.named
  have hlocks := B.notSynchronized
  subst hsz
  have hD := hD0.self (sz := s.heap.size)
  clear hD0
  generalize hRm : (headSpec (Cond.code yM_literal cM_literal 3 (some .boolean) :: TB) { frames := 0, cells := 0, slots := 0, locals := 0 }).room = R
  have hRf : R.frames = 0 := by rw [← hRm]; rfl
  have hRl : R.locals = 0 := by rw [← hRm]; rfl
  have hRc : R.cells = 0 := by rw [← hRm]; rfl
  have hRs : R.slots = 0 := by rw [← hRm]; rfl
  clear hRm
  generalize hAe : va_A [(qm, .inr (6, [.int (nI th), .int (nI ul), .ref xt, .int (nI pt), .ref xh, .ref xi, .ref xl, .ref xo, .ref xg, .ref xd, .int (zB ld), .ref xs, .int (nI stt), .int (nI sts), .int (nI drw), .ref xn, .ref xb, .ref xv, .int (nI bd), .int (nI rd)])), (xv, aZ G 100 fv)] s.heap.size = A at hD hE ⊢
  have hA : ∀ q : Nat, s.heap.size ≤ q → A q := fun q h => by rw [← hAe]; exact Or.inr h
  clear hAe
  have hS : va_S A s.heap s.heap [] := va_S.rf
  have hl := lv_entry ([.ref qm, .int (nI x)]) (n := 3) (Nat.le_of_ble_eq_true rfl)
  have hent := lg_entry_eq m ([.ref qm, .int (nI x)]) 3
  rw [← hav] at hent
  rw [hent]
  clear hent hav
  generalize (lg_sl ([.ref qm, .int (nI x)]) ++ List.replicate (3 - (lg_sl ([.ref qm, .int (nI x)])).length) Slot.unset).toArray = ls at hl ⊢
  have hl : lv_has ls 3 [(0, .ref qm), (1, .int (nI x))] := hl
  generalize hQ : MQ below _ args s 0 0 _ = Q
  have hP : va_P (gD G) vC [(qm, .inr (6, [.int (nI th), .int (nI ul), .ref xt, .int (nI pt), .ref xh, .ref xi, .ref xl, .ref xo, .ref xg, .ref xd, .int (zB ld), .ref xs, .int (nI stt), .int (nI sts), .int (nI drw), .ref xn, .ref xb, .ref xv, .int (nI bd), .int (nI rd)])), (xv, aZ G 100 fv)] s.heap := hP
  obtain ⟨H, hH⟩ : ∃ H : Heap, H = s.heap := ⟨_, rfl⟩
  obtain ⟨locs, hlc⟩ : ∃ L : List Loc, L = [] := ⟨_, rfl⟩
  have hS : va_S A s.heap H locs := by rw [hH, hlc]; exact hS
  have hP : va_P (gD G) vC [(qm, .inr (6, [.int (nI th), .int (nI ul), .ref xt, .int (nI pt), .ref xh, .ref xi, .ref xl, .ref xo, .ref xg, .ref xd, .int (zB ld), .ref xs, .int (nI stt), .int (nI sts), .int (nI drw), .ref xn, .ref xb, .ref xv, .int (nI bd), .int (nI rd)])), (xv, aZ G 100 fv)] H := by rw [hH]; exact hP
  have hgo : W p l e R s m args below meth c H locs 0 0 Q (F0 m 0 ls []) := by
    clear hH hlc
    refine lv_iload_n hx hb dM_literal_0 rfl (lv_at hl 1 rfl) ?_
    refine lv_iconst (v := nI 2) hx hb dM_literal_1 (by decide) ?_
    refine lv_icmp_lt (tgt := 20) hx hb dM_literal_2 rfl (fun h2 => ?_) (fun h2 => ?_)
    · have h2 : x < 2 := (nI_ltI (a := x) (b := 2) (by omega) (by omega)).mp h2
      refine lv_iconst (v := nI 0) hx hb dM_literal_20 (by decide) ?_
      refine lv_istore_n (lv' := [(2, .int (nI 0)), (0, .ref qm), (1, .int (nI x))]) hx hb dM_literal_21 rfl hl (by decide) rfl (fun ls hl => ?_)
      refine lv_iload_n hx hb dM_literal_22 rfl (lv_at hl 0 rfl) ?_
      refine lv_iload_n hx hb dM_literal_23 rfl (lv_at hl 2 rfl) ?_
      refine lv_iconst (v := nI 2) hx hb dM_literal_24 (by decide) ?_
      refine lv_irem hx hb dM_literal_25 (nI_ne0 (by omega) (by omega)) ?_
      refine k_toi (y := nI (x % 2)) (pk_rem (by omega) (by omega) (by omega)) ?_
      refine lv_iconst (v := nI 1) hx hb dM_literal_26 (by decide) ?_
      refine lv_icmp_ne (tgt := 34) hx hb dM_literal_27 rfl (fun h27 => ?_) (fun h27 => ?_)
      · have h27 : ¬ x % 2 = 1 := fun z => h27 ((nI_eq (a := x % 2) (b := 1) (by omega) (by omega)).mpr z)
        refine lv_iconst (v := nI 0) hx hb dM_literal_34 (by decide) ?_
        refine lv_icmp_eq (tgt := 42) hx hb dM_literal_35 rfl (fun _ => ?_) (fun h35 => (by revert h35; first | decide | exact fun z => absurd z (by decide) | exact fun z => z.elim (by decide)))
        refine lv_iconst (v := nI 0) hx hb dM_literal_42 (by decide) ?_
        -- end 0
        rw [← hQ]
        exact k_iret hx hb hr hlocks (by decide) (u := ()) (⟨by unfold litV; rw [decide_eq_false (show ¬ 2 ≤ x by omega), decide_eq_false h27]; rfl, rfl⟩) hP hD hK hS dM_literal_43
      · have h27 : x % 2 = 1 := (nI_eq (a := x % 2) (b := 1) (by omega) (by omega)).mp h27
        refine lv_iconst (v := nI 1) hx hb dM_literal_30 (by decide) ?_
        refine lv_goto (tgt := 35) hx hb dM_literal_31 rfl ?_
        refine lv_icmp_eq (tgt := 42) hx hb dM_literal_35 rfl (fun h35 => (by revert h35; first | decide | exact fun z => absurd z (by decide) | exact fun z => z.elim (by decide))) (fun _ => ?_)
        refine lv_iconst (v := nI 1) hx hb dM_literal_38 (by decide) ?_
        refine lv_goto (tgt := 43) hx hb dM_literal_39 rfl ?_
        -- end 1
        rw [← hQ]
        exact k_iret hx hb hr hlocks (by decide) (u := ()) (⟨by unfold litV; rw [decide_eq_false (show ¬ 2 ≤ x by omega), decide_eq_true h27]; rfl, rfl⟩) hP hD hK hS dM_literal_43
    · have h2 : 2 ≤ x := Nat.le_of_not_lt (fun z => h2 ((nI_ltI (a := x) (b := 2) (by omega) (by omega)).mpr z))
      refine lv_aload_n hx hb dM_literal_5 rfl (lv_at hl 0 rfl) ?_
      refine va_get (D := gD G) (ci := 6) (v := .ref xv) (C := "CircuitProverModel") (T := TM) (N := 20) hx hb htb inM hown hK hP 0 rfl rfl 17 (by decide) (htb _ b688) (fun _ h9 => h9) rfl dM_literal_6 ?_
      refine lv_iload_n hx hb dM_literal_9 rfl (lv_at hl 1 rfl) ?_
      refine lv_iconst (v := nI 2) hx hb dM_literal_10 (by decide) ?_
      refine lv_idiv hx hb dM_literal_11 (nI_ne0 (by omega) (by omega)) ?_
      refine k_toi (y := nI (x / 2)) (pk_div (by omega) (by omega) (by omega)) ?_
      refine k_zald hx hb hK hP 1 rfl (k := x / 2) (by omega) (by decide) dM_literal_12 ?_
      refine lv_if_eq (tgt := 20) hx hb dM_literal_13 rfl (fun h13 => ?_) (fun h13 => ?_)
      · have h13 : fv (x / 2) = false := zB_f h13
        refine lv_iconst (v := nI 0) hx hb dM_literal_20 (by decide) ?_
        refine lv_istore_n (lv' := [(2, .int (nI 0)), (0, .ref qm), (1, .int (nI x))]) hx hb dM_literal_21 rfl hl (by decide) rfl (fun ls hl => ?_)
        refine lv_iload_n hx hb dM_literal_22 rfl (lv_at hl 0 rfl) ?_
        refine lv_iload_n hx hb dM_literal_23 rfl (lv_at hl 2 rfl) ?_
        refine lv_iconst (v := nI 2) hx hb dM_literal_24 (by decide) ?_
        refine lv_irem hx hb dM_literal_25 (nI_ne0 (by omega) (by omega)) ?_
        refine k_toi (y := nI (x % 2)) (pk_rem (by omega) (by omega) (by omega)) ?_
        refine lv_iconst (v := nI 1) hx hb dM_literal_26 (by decide) ?_
        refine lv_icmp_ne (tgt := 34) hx hb dM_literal_27 rfl (fun h27 => ?_) (fun h27 => ?_)
        · have h27 : ¬ x % 2 = 1 := fun z => h27 ((nI_eq (a := x % 2) (b := 1) (by omega) (by omega)).mpr z)
          refine lv_iconst (v := nI 0) hx hb dM_literal_34 (by decide) ?_
          refine lv_icmp_eq (tgt := 42) hx hb dM_literal_35 rfl (fun _ => ?_) (fun h35 => (by revert h35; first | decide | exact fun z => absurd z (by decide) | exact fun z => z.elim (by decide)))
          refine lv_iconst (v := nI 0) hx hb dM_literal_42 (by decide) ?_
          -- end 2
          rw [← hQ]
          exact k_iret hx hb hr hlocks (by decide) (u := ()) (⟨by unfold litV; rw [h13, Bool.and_false, decide_eq_false h27]; rfl, rfl⟩) hP hD hK hS dM_literal_43
        · have h27 : x % 2 = 1 := (nI_eq (a := x % 2) (b := 1) (by omega) (by omega)).mp h27
          refine lv_iconst (v := nI 1) hx hb dM_literal_30 (by decide) ?_
          refine lv_goto (tgt := 35) hx hb dM_literal_31 rfl ?_
          refine lv_icmp_eq (tgt := 42) hx hb dM_literal_35 rfl (fun h35 => (by revert h35; first | decide | exact fun z => absurd z (by decide) | exact fun z => z.elim (by decide))) (fun _ => ?_)
          refine lv_iconst (v := nI 1) hx hb dM_literal_38 (by decide) ?_
          refine lv_goto (tgt := 43) hx hb dM_literal_39 rfl ?_
          -- end 3
          rw [← hQ]
          exact k_iret hx hb hr hlocks (by decide) (u := ()) (⟨by unfold litV; rw [h13, Bool.and_false, decide_eq_true h27]; rfl, rfl⟩) hP hD hK hS dM_literal_43
      · have h13 : fv (x / 2) = true := zB_t h13
        refine lv_iconst (v := nI 1) hx hb dM_literal_16 (by decide) ?_
        refine lv_goto (tgt := 21) hx hb dM_literal_17 rfl ?_
        refine lv_istore_n (lv' := [(2, .int (nI 1)), (0, .ref qm), (1, .int (nI x))]) hx hb dM_literal_21 rfl hl (by decide) rfl (fun ls hl => ?_)
        refine lv_iload_n hx hb dM_literal_22 rfl (lv_at hl 0 rfl) ?_
        refine lv_iload_n hx hb dM_literal_23 rfl (lv_at hl 2 rfl) ?_
        refine lv_iconst (v := nI 2) hx hb dM_literal_24 (by decide) ?_
        refine lv_irem hx hb dM_literal_25 (nI_ne0 (by omega) (by omega)) ?_
        refine k_toi (y := nI (x % 2)) (pk_rem (by omega) (by omega) (by omega)) ?_
        refine lv_iconst (v := nI 1) hx hb dM_literal_26 (by decide) ?_
        refine lv_icmp_ne (tgt := 34) hx hb dM_literal_27 rfl (fun h27 => ?_) (fun h27 => ?_)
        · have h27 : ¬ x % 2 = 1 := fun z => h27 ((nI_eq (a := x % 2) (b := 1) (by omega) (by omega)).mpr z)
          refine lv_iconst (v := nI 0) hx hb dM_literal_34 (by decide) ?_
          refine lv_icmp_eq (tgt := 42) hx hb dM_literal_35 rfl (fun h35 => (by revert h35; first | decide | exact fun z => absurd z (by decide) | exact fun z => z.elim (by decide))) (fun _ => ?_)
          refine lv_iconst (v := nI 1) hx hb dM_literal_38 (by decide) ?_
          refine lv_goto (tgt := 43) hx hb dM_literal_39 rfl ?_
          -- end 4
          rw [← hQ]
          exact k_iret hx hb hr hlocks (by decide) (u := ()) (⟨by unfold litV; rw [decide_eq_true (show 2 ≤ x by omega), h13, decide_eq_false h27]; rfl, rfl⟩) hP hD hK hS dM_literal_43
        · have h27 : x % 2 = 1 := (nI_eq (a := x % 2) (b := 1) (by omega) (by omega)).mp h27
          refine lv_iconst (v := nI 1) hx hb dM_literal_30 (by decide) ?_
          refine lv_goto (tgt := 35) hx hb dM_literal_31 rfl ?_
          refine lv_icmp_eq (tgt := 42) hx hb dM_literal_35 rfl (fun _ => ?_) (fun h35 => (by revert h35; first | decide | exact fun z => absurd z (by decide) | exact fun z => z.elim (by decide)))
          refine lv_iconst (v := nI 0) hx hb dM_literal_42 (by decide) ?_
          -- end 5
          rw [← hQ]
          exact k_iret hx hb hr hlocks (by decide) (u := ()) (⟨by unfold litV; rw [decide_eq_true (show 2 ≤ x by omega), h13, decide_eq_true h27]; rfl, rfl⟩) hP hD hK hS dM_literal_43
  rw [hH, hlc] at hgo
  exact hgo
set_option maxRecDepth 100000 in
set_option maxHeartbeats 4000000 in
theorem k_M_evaluate (l : Launch) (G : GG) (sz : Nat) (qm : Nat) (xt : Nat) (xh : Nat) (xi : Nat) (xl : Nat) (xo : Nat) (xg : Nat) (xd : Nat) (xs : Nat) (xn : Nat) (xb : Nat) (xv : Nat) (th : Nat) (ul : Nat) (pt : Nat) (ld : Bool) (stt : Nat) (sts : Nat) (drw : Nat) (bd : Nat) (rd : Nat) (hh : Nat → Nat) (fi : Nat → Nat) (fl : Nat → Nat) (fg : Nat → Nat) (fv : Nat → Bool) (TT : Nat → Nat) (st9 : Nat) (dr : Nat) (hH : ∀ c, c < 5 → hh c = hd TT c) (hI : mIn TT fi (hd TT 1)) (hL : mLa TT fl (hd TT 2)) (hG : mGa TT fg (hd TT 4)) (hm1 : hd TT 1 ≤ 3) (hm2 : hd TT 2 ≤ 6) (hs9 : st9 < 64) (hdr : dr < 8) : Kv l yM_evaluate cM_evaluate 7 1 22 0 0 G [.ref qm, .int (nI st9), .int (nI dr)] [(qm, .inr (6, [.int (nI th), .int (nI ul), .ref xt, .int (nI pt), .ref xh, .ref xi, .ref xl, .ref xo, .ref xg, .ref xd, .int (zB ld), .ref xs, .int (nI stt), .int (nI sts), .int (nI drw), .ref xn, .ref xb, .ref xv, .int (nI bd), .int (nI rd)])), (xh, aI G 5 hh), (xi, aI G 100 fi), (xl, aI G 300 fl), (xg, aI G 300 fg), (xv, aZ G 100 fv)] sz (fun (u : (Nat → Bool)) => (evM TT fv st9 dr = u)) (fun (u : (Nat → Bool)) => [(qm, .inr (6, [.int (nI th), .int (nI ul), .ref xt, .int (nI pt), .ref xh, .ref xi, .ref xl, .ref xo, .ref xg, .ref xd, .int (zB ld), .ref xs, .int (nI stt), .int (nI sts), .int (nI drw), .ref xn, .ref xb, .ref xv, .int (nI bd), .int (nI rd)])), (xh, aI G 5 hh), (xi, aI G 100 fi), (xl, aI G 300 fl), (xg, aI G 300 fg), (xv, aZ G 100 u)]) := by
  refine Met.ofW (cc := cM_evaluate) (maxL := 7) (ret := none) (by decide) rfl ?_
  intro p e s m args below meth c s₁ B hml hv
  obtain ⟨hav, hsz, hP, hK, hD0, hE⟩ := hv
  have hx := B.exec
  have hb := B.bytes
  have hr := B.returns
  have htb : ∀ w ∈ TB, w.before args s = true := fun w h => atoms_spec (ws := Cond.code yM_evaluate cM_evaluate 7 none :: TB) B.pre w (List.mem_cons_of_mem _ h)
  have hown : s.vm.findClass "CircuitProverModel" = some m.cls := findClass_of_methodNamed B.named
  have hlocks := B.notSynchronized
  subst hsz
  have hD := hD0.self (sz := s.heap.size)
  clear hD0
  generalize hRm : (headSpec (Cond.code yM_evaluate cM_evaluate 7 none :: TB) { frames := 1, cells := 0, slots := 0, locals := 22 }).room = R
  have hRf : R.frames = 1 := by rw [← hRm]; rfl
  have hRl : R.locals = 22 := by rw [← hRm]; rfl
  have hRc : R.cells = 0 := by rw [← hRm]; rfl
  have hRs : R.slots = 0 := by rw [← hRm]; rfl
  clear hRm
  generalize hAe : va_A [(qm, .inr (6, [.int (nI th), .int (nI ul), .ref xt, .int (nI pt), .ref xh, .ref xi, .ref xl, .ref xo, .ref xg, .ref xd, .int (zB ld), .ref xs, .int (nI stt), .int (nI sts), .int (nI drw), .ref xn, .ref xb, .ref xv, .int (nI bd), .int (nI rd)])), (xh, aI G 5 hh), (xi, aI G 100 fi), (xl, aI G 300 fl), (xg, aI G 300 fg), (xv, aZ G 100 fv)] s.heap.size = A at hD hE ⊢
  have hA : ∀ q : Nat, s.heap.size ≤ q → A q := fun q h => by rw [← hAe]; exact Or.inr h
  clear hAe
  have hS : va_S A s.heap s.heap [] := va_S.rf
  have hl := lv_entry ([.ref qm, .int (nI st9), .int (nI dr)]) (n := 7) (Nat.le_of_ble_eq_true rfl)
  have hent := lg_entry_eq m ([.ref qm, .int (nI st9), .int (nI dr)]) 7
  rw [← hav] at hent
  rw [hent]
  clear hent hav
  generalize (lg_sl ([.ref qm, .int (nI st9), .int (nI dr)]) ++ List.replicate (7 - (lg_sl ([.ref qm, .int (nI st9), .int (nI dr)])).length) Slot.unset).toArray = ls at hl ⊢
  have hl : lv_has ls 7 [(0, .ref qm), (1, .int (nI st9)), (2, .int (nI dr))] := hl
  generalize hQ : MQ below _ args s 0 0 _ = Q
  have hP : va_P (gD G) vC [(qm, .inr (6, [.int (nI th), .int (nI ul), .ref xt, .int (nI pt), .ref xh, .ref xi, .ref xl, .ref xo, .ref xg, .ref xd, .int (zB ld), .ref xs, .int (nI stt), .int (nI sts), .int (nI drw), .ref xn, .ref xb, .ref xv, .int (nI bd), .int (nI rd)])), (xh, aI G 5 hh), (xi, aI G 100 fi), (xl, aI G 300 fl), (xg, aI G 300 fg), (xv, aZ G 100 fv)] s.heap := hP
  obtain ⟨H, hH⟩ : ∃ H : Heap, H = s.heap := ⟨_, rfl⟩
  obtain ⟨locs, hlc⟩ : ∃ L : List Loc, L = [] := ⟨_, rfl⟩
  have hS : va_S A s.heap H locs := by rw [hH, hlc]; exact hS
  have hP : va_P (gD G) vC [(qm, .inr (6, [.int (nI th), .int (nI ul), .ref xt, .int (nI pt), .ref xh, .ref xi, .ref xl, .ref xo, .ref xg, .ref xd, .int (zB ld), .ref xs, .int (nI stt), .int (nI sts), .int (nI drw), .ref xn, .ref xb, .ref xv, .int (nI bd), .int (nI rd)])), (xh, aI G 5 hh), (xi, aI G 100 fi), (xl, aI G 300 fl), (xg, aI G 300 fg), (xv, aZ G 100 fv)] H := by rw [hH]; exact hP
  have hgo : W p l e R s m args below meth c H locs 0 0 Q (F0 m 0 ls []) := by
    clear hH hlc
    have hb0 := hd_lt TT 0
    have hb1 := hd_lt TT 1
    have hb2 := hd_lt TT 2
    have hb3 := hd_lt TT 3
    have hb4 := hd_lt TT 4
    have hz0 := hH 0 (by decide)
    have hz1 := hH 1 (by decide)
    have hz2 := hH 2 (by decide)
    have hz3 := hH 3 (by decide)
    have hz4 := hH 4 (by decide)
    refine lv_iconst (v := nI 0) hx hb dM_evaluate_0 (by decide) ?_
    refine lv_istore_n (lv' := [(3, .int (nI 0)), (0, .ref qm), (1, .int (nI st9)), (2, .int (nI dr))]) hx hb dM_evaluate_1 rfl hl (by decide) rfl (fun ls hl => ?_)
    have loop2 : ∀ (n : Nat) (kA : Nat) (vA : Nat → Bool) (H : Heap) (locs : List Loc) (ls : Array Slot), hd TT 1 - kA < n → (kA ≤ hd TT 1) → (vA = it (fun k v => va_up v (xin TT k / 2) (dr.testBit k))  kA fv) → va_P (gD G) vC [(qm, .inr (6, [.int (nI th), .int (nI ul), .ref xt, .int (nI pt), .ref xh, .ref xi, .ref xl, .ref xo, .ref xg, .ref xd, .int (zB ld), .ref xs, .int (nI stt), .int (nI sts), .int (nI drw), .ref xn, .ref xb, .ref xv, .int (nI bd), .int (nI rd)])), (xh, aI G 5 hh), (xi, aI G 100 fi), (xl, aI G 300 fl), (xg, aI G 300 fg), (xv, aZ G 100 vA)] H → va_D A [(qm, .inr (6, [.int (nI th), .int (nI ul), .ref xt, .int (nI pt), .ref xh, .ref xi, .ref xl, .ref xo, .ref xg, .ref xd, .int (zB ld), .ref xs, .int (nI stt), .int (nI sts), .int (nI drw), .ref xn, .ref xb, .ref xv, .int (nI bd), .int (nI rd)])), (xh, aI G 5 hh), (xi, aI G 100 fi), (xl, aI G 300 fl), (xg, aI G 300 fg), (xv, aZ G 100 vA)] → va_S A s.heap H locs → lv_has ls 7 [(0, .ref qm), (1, .int (nI st9)), (2, .int (nI dr)), (3, .int (nI kA))] → W p l e R s m args below meth c H locs 0 0 Q (F0 m 2 ls []) := by
      intro n
      induction n with
      | zero => intro kA vA H locs ls hmu; omega
      | succ n ih =>
        intro kA vA H locs ls hmu hkA hvA hP hD hS hl
        have ih2 := ih
        clear ih
        refine lv_iload_n hx hb dM_evaluate_2 rfl (lv_at hl 3 rfl) ?_
        refine lv_aload_n hx hb dM_evaluate_3 rfl (lv_at hl 0 rfl) ?_
        refine va_get (D := gD G) (ci := 6) (v := .ref xh) (C := "CircuitProverModel") (T := TM) (N := 20) hx hb htb inM hown hK hP 0 rfl rfl 4 (by decide) (htb _ b675) (fun _ h9 => h9) rfl dM_evaluate_4 ?_
        refine lv_iconst (v := nI 1) hx hb dM_evaluate_7 (by decide) ?_
        refine k_iald hx hb hK hP 1 rfl (k := 1) (by omega) (by decide) dM_evaluate_8 ?_
        refine lv_icmp_ge (tgt := 45) hx hb dM_evaluate_9 rfl (fun h9 => ?_) (fun h9 => ?_)
        · have h9 : hh 1 ≤ kA := (nI_leI (a := hh 1) (b := kA) (by omega) (by omega)).mp h9
          refine lv_iconst (v := nI 0) hx hb dM_evaluate_45 (by decide) ?_
          refine lv_istore_n (lv' := [(3, .int (nI 0)), (0, .ref qm), (1, .int (nI st9)), (2, .int (nI dr))]) hx hb dM_evaluate_46 rfl hl (by decide) rfl (fun ls hl => ?_)
          have loop47 : ∀ (n : Nat) (kB : Nat) (vB : Nat → Bool) (H : Heap) (locs : List Loc) (ls : Array Slot), hd TT 2 - kB < n → (kB ≤ hd TT 2) → (vB = it (fun k v => va_up v (xla TT k 0 / 2) (st9.testBit k))  kB vA) → va_P (gD G) vC [(qm, .inr (6, [.int (nI th), .int (nI ul), .ref xt, .int (nI pt), .ref xh, .ref xi, .ref xl, .ref xo, .ref xg, .ref xd, .int (zB ld), .ref xs, .int (nI stt), .int (nI sts), .int (nI drw), .ref xn, .ref xb, .ref xv, .int (nI bd), .int (nI rd)])), (xh, aI G 5 hh), (xi, aI G 100 fi), (xl, aI G 300 fl), (xg, aI G 300 fg), (xv, aZ G 100 vB)] H → va_D A [(qm, .inr (6, [.int (nI th), .int (nI ul), .ref xt, .int (nI pt), .ref xh, .ref xi, .ref xl, .ref xo, .ref xg, .ref xd, .int (zB ld), .ref xs, .int (nI stt), .int (nI sts), .int (nI drw), .ref xn, .ref xb, .ref xv, .int (nI bd), .int (nI rd)])), (xh, aI G 5 hh), (xi, aI G 100 fi), (xl, aI G 300 fl), (xg, aI G 300 fg), (xv, aZ G 100 vB)] → va_S A s.heap H locs → lv_has ls 7 [(0, .ref qm), (1, .int (nI st9)), (2, .int (nI dr)), (3, .int (nI kB))] → W p l e R s m args below meth c H locs 0 0 Q (F0 m 47 ls []) := by
            intro n
            induction n with
            | zero => intro kB vB H locs ls hmu; omega
            | succ n ih =>
              intro kB vB H locs ls hmu hkB hvB hP hD hS hl
              have ih47 := ih
              clear ih
              refine lv_iload_n hx hb dM_evaluate_47 rfl (lv_at hl 3 rfl) ?_
              refine lv_aload_n hx hb dM_evaluate_48 rfl (lv_at hl 0 rfl) ?_
              refine va_get (D := gD G) (ci := 6) (v := .ref xh) (C := "CircuitProverModel") (T := TM) (N := 20) hx hb htb inM hown hK hP 0 rfl rfl 4 (by decide) (htb _ b675) (fun _ h9 => h9) rfl dM_evaluate_49 ?_
              refine lv_iconst (v := nI 2) hx hb dM_evaluate_52 (by decide) ?_
              refine k_iald hx hb hK hP 1 rfl (k := 2) (by omega) (by decide) dM_evaluate_53 ?_
              refine lv_icmp_ge (tgt := 92) hx hb dM_evaluate_54 rfl (fun h54 => ?_) (fun h54 => ?_)
              · have h54 : hh 2 ≤ kB := (nI_leI (a := hh 2) (b := kB) (by omega) (by omega)).mp h54
                refine lv_iconst (v := nI 1) hx hb dM_evaluate_92 (by decide) ?_
                refine lv_istore_n (lv' := [(3, .int (nI 1)), (0, .ref qm), (1, .int (nI st9)), (2, .int (nI dr))]) hx hb dM_evaluate_93 rfl hl (by decide) rfl (fun ls hl => ?_)
                have loop94 : ∀ (n : Nat) (wC : Nat) (uC : Nat → Bool) (H : Heap) (locs : List Loc) (ls : Array Slot), hd TT 0 + 1 - wC < n → (1 ≤ wC ∧ wC ≤ hd TT 0 + 1) → (uC = it (gsM TT) (wC - 1) vB) → va_P (gD G) vC [(qm, .inr (6, [.int (nI th), .int (nI ul), .ref xt, .int (nI pt), .ref xh, .ref xi, .ref xl, .ref xo, .ref xg, .ref xd, .int (zB ld), .ref xs, .int (nI stt), .int (nI sts), .int (nI drw), .ref xn, .ref xb, .ref xv, .int (nI bd), .int (nI rd)])), (xh, aI G 5 hh), (xi, aI G 100 fi), (xl, aI G 300 fl), (xg, aI G 300 fg), (xv, aZ G 100 uC)] H → va_D A [(qm, .inr (6, [.int (nI th), .int (nI ul), .ref xt, .int (nI pt), .ref xh, .ref xi, .ref xl, .ref xo, .ref xg, .ref xd, .int (zB ld), .ref xs, .int (nI stt), .int (nI sts), .int (nI drw), .ref xn, .ref xb, .ref xv, .int (nI bd), .int (nI rd)])), (xh, aI G 5 hh), (xi, aI G 100 fi), (xl, aI G 300 fl), (xg, aI G 300 fg), (xv, aZ G 100 uC)] → va_S A s.heap H locs → lv_has ls 7 [(0, .ref qm), (1, .int (nI st9)), (2, .int (nI dr)), (3, .int (nI wC))] → W p l e R s m args below meth c H locs 0 0 Q (F0 m 94 ls []) := by
                  intro n
                  induction n with
                  | zero => intro wC uC H locs ls hmu; omega
                  | succ n ih =>
                    intro wC uC H locs ls hmu hkC hvC hP hD hS hl
                    have ih94 := ih
                    clear ih
                    refine lv_iload_n hx hb dM_evaluate_94 rfl (lv_at hl 3 rfl) ?_
                    refine lv_aload_n hx hb dM_evaluate_95 rfl (lv_at hl 0 rfl) ?_
                    refine va_get (D := gD G) (ci := 6) (v := .ref xh) (C := "CircuitProverModel") (T := TM) (N := 20) hx hb htb inM hown hK hP 0 rfl rfl 4 (by decide) (htb _ b675) (fun _ h9 => h9) rfl dM_evaluate_96 ?_
                    refine lv_iconst (v := nI 0) hx hb dM_evaluate_99 (by decide) ?_
                    refine k_iald hx hb hK hP 1 rfl (k := 0) (by omega) (by decide) dM_evaluate_100 ?_
                    refine lv_icmp_gt (tgt := 200) hx hb dM_evaluate_101 rfl (fun h101 => ?_) (fun h101 => ?_)
                    · have h101 : hh 0 < wC := (nI_ltI (a := hh 0) (b := wC) (by omega) (by omega)).mp h101
                      -- end 0
                      rw [← hQ]
                      exact k_vret hx hb hr hlocks (u := uC) (by unfold evM bsM; rw [← (show kA = hd TT 1 by omega), ← hvA, ← (show kB = hd TT 2 by omega), ← hvB, hvC, show wC - 1 = hd TT 0 by omega]) hP hD hK hS dM_evaluate_200
                    · have h101 : wC ≤ hh 0 := Nat.le_of_not_lt (fun z => h101 ((nI_ltI (a := hh 0) (b := wC) (by omega) (by omega)).mpr z))
                      refine lv_iconst (v := nI 0) hx hb dM_evaluate_104 (by decide) ?_
                      refine lv_istore (lv' := [(4, .int (nI 0)), (0, .ref qm), (1, .int (nI st9)), (2, .int (nI dr)), (3, .int (nI wC))]) hx hb dM_evaluate_105 hl (by decide) rfl (fun ls hl => ?_)
                      have loop107 : ∀ (n : Nat) (kD : Nat) (vD : Nat → Bool) (H : Heap) (locs : List Loc) (ls : Array Slot), hd TT 4 - kD < n → (kD ≤ hd TT 4) → (vD = it (gst TT wC) kD uC) → va_P (gD G) vC [(qm, .inr (6, [.int (nI th), .int (nI ul), .ref xt, .int (nI pt), .ref xh, .ref xi, .ref xl, .ref xo, .ref xg, .ref xd, .int (zB ld), .ref xs, .int (nI stt), .int (nI sts), .int (nI drw), .ref xn, .ref xb, .ref xv, .int (nI bd), .int (nI rd)])), (xh, aI G 5 hh), (xi, aI G 100 fi), (xl, aI G 300 fl), (xg, aI G 300 fg), (xv, aZ G 100 vD)] H → va_D A [(qm, .inr (6, [.int (nI th), .int (nI ul), .ref xt, .int (nI pt), .ref xh, .ref xi, .ref xl, .ref xo, .ref xg, .ref xd, .int (zB ld), .ref xs, .int (nI stt), .int (nI sts), .int (nI drw), .ref xn, .ref xb, .ref xv, .int (nI bd), .int (nI rd)])), (xh, aI G 5 hh), (xi, aI G 100 fi), (xl, aI G 300 fl), (xg, aI G 300 fg), (xv, aZ G 100 vD)] → va_S A s.heap H locs → lv_has ls 7 [(0, .ref qm), (1, .int (nI st9)), (2, .int (nI dr)), (3, .int (nI wC)), (4, .int (nI kD))] → W p l e R s m args below meth c H locs 0 0 Q (F0 m 107 ls []) := by
                        intro n
                        induction n with
                        | zero => intro kD vD H locs ls hmu; omega
                        | succ n ih =>
                          intro kD vD H locs ls hmu hkD hvD hP hD hS hl
                          have ih107 := ih
                          clear ih
                          refine lv_iload hx hb dM_evaluate_107 (lv_at hl 4 rfl) ?_
                          refine lv_aload_n hx hb dM_evaluate_109 rfl (lv_at hl 0 rfl) ?_
                          refine va_get (D := gD G) (ci := 6) (v := .ref xh) (C := "CircuitProverModel") (T := TM) (N := 20) hx hb htb inM hown hK hP 0 rfl rfl 4 (by decide) (htb _ b675) (fun _ h9 => h9) rfl dM_evaluate_110 ?_
                          refine lv_iconst (v := nI 4) hx hb dM_evaluate_113 (by decide) ?_
                          refine k_iald hx hb hK hP 1 rfl (k := 4) (by omega) (by decide) dM_evaluate_114 ?_
                          refine lv_icmp_ge (tgt := 194) hx hb dM_evaluate_115 rfl (fun h115 => ?_) (fun h115 => ?_)
                          · have h115 : hh 4 ≤ kD := (nI_leI (a := hh 4) (b := kD) (by omega) (by omega)).mp h115
                            refine lv_iinc (v := nI (wC + 1)) (lv' := [(3, .int (nI (wC + 1))), (0, .ref qm), (1, .int (nI st9)), (2, .int (nI dr)), (4, .int (nI kD))]) hx hb dM_evaluate_194 hl (k := 3) rfl (nI_add _ 1) (by decide) rfl (fun ls hl => ?_)
                            refine lv_goto (tgt := 94) hx hb dM_evaluate_197 rfl ?_
                            have hl : lv_has ls 7 [(0, .ref qm), (1, .int (nI st9)), (2, .int (nI dr)), (3, .int (nI (wC + 1)))] := lv_sub hl [1, 2, 3, 0] rfl
                            exact ih94 (wC + 1) vD _ _ _ (by omega) (by omega) (by rw [hvD, show kD = hd TT 4 by omega, gsM_w hkC.1, hvC, show wC + 1 - 1 = (wC - 1) + 1 by omega, it_s]) hP hD hS hl
                          · have h115 : kD < hh 4 := Nat.lt_of_not_le (fun z => h115 ((nI_leI (a := hh 4) (b := kD) (by omega) (by omega)).mpr z))
                            refine lv_aload_n hx hb dM_evaluate_118 rfl (lv_at hl 0 rfl) ?_
                            refine va_get (D := gD G) (ci := 6) (v := .ref xg) (C := "CircuitProverModel") (T := TM) (N := 20) hx hb htb inM hown hK hP 0 rfl rfl 8 (by decide) (htb _ b679) (fun _ h9 => h9) rfl dM_evaluate_119 ?_
                            refine lv_iconst (v := nI 3) hx hb dM_evaluate_122 (by decide) ?_
                            refine lv_iload hx hb dM_evaluate_123 (lv_at hl 4 rfl) ?_
                            refine lv_imul hx hb dM_evaluate_125 ?_
                            refine k_toi (y := nI (3 * kD)) (pk_mul _ _) ?_
                            have hy1 : fg (3 * kD) = xga TT kD 0 := hG kD (by omega) 0 (by decide)
                            have hy2 : fg (3 * kD + 1) = xga TT kD 1 := hG kD (by omega) 1 (by decide)
                            have hy3 : fg (3 * kD + 2) = xga TT kD 2 := hG kD (by omega) 2 (by decide)
                            have hl1 := xga_lt TT kD 0
                            have hl2 := xga_lt TT kD 1
                            have hl3 := xga_lt TT kD 2
                            refine k_iald hx hb hK hP 4 rfl (k := 3 * kD) (by omega) (by decide) dM_evaluate_126 ?_
                            refine lv_iconst (v := nI 2) hx hb dM_evaluate_127 (by decide) ?_
                            refine lv_iload_n hx hb dM_evaluate_128 rfl (lv_at hl 3 rfl) ?_
                            refine lv_imul hx hb dM_evaluate_129 ?_
                            refine k_toi (y := nI (2 * wC)) (pk_mul _ _) ?_
                            refine lv_icmp_ne (tgt := 188) hx hb dM_evaluate_130 rfl (fun h130 => ?_) (fun h130 => ?_)
                            · have h130 : ¬ fg (3 * kD) = 2 * wC := fun z => h130 ((nI_eq (a := fg (3 * kD)) (b := 2 * wC) (by omega) (by omega)).mpr z)
                              refine lv_iinc (v := nI (kD + 1)) (lv' := [(4, .int (nI (kD + 1))), (0, .ref qm), (1, .int (nI st9)), (2, .int (nI dr)), (3, .int (nI wC))]) hx hb dM_evaluate_188 hl (k := 4) rfl (nI_add _ 1) (by decide) rfl (fun ls hl => ?_)
                              refine lv_goto (tgt := 107) hx hb dM_evaluate_191 rfl ?_
                              have hl : lv_has ls 7 [(0, .ref qm), (1, .int (nI st9)), (2, .int (nI dr)), (3, .int (nI wC)), (4, .int (nI (kD + 1)))] := lv_sub hl [1, 2, 3, 4, 0] rfl
                              exact ih107 (kD + 1) vD _ _ _ (by omega) (by omega) (by rw [it_s, ← hvD]; first | exact (gst_n (by omega)).symm | (refine (gst_y (by omega) ?_).symm; rw [← hy2, ← hy3]; first | rw [h174, h179, Bool.and_true] | rw [h174, Bool.false_and] | rw [h179, Bool.and_false])) hP hD hS hl
                            · have h130 : fg (3 * kD) = 2 * wC := (nI_eq (a := fg (3 * kD)) (b := 2 * wC) (by omega) (by omega)).mp h130
                              refine lv_aload_n hx hb dM_evaluate_133 rfl (lv_at hl 0 rfl) ?_
                              refine lv_aload_n hx hb dM_evaluate_134 rfl (lv_at hl 0 rfl) ?_
                              refine va_get (D := gD G) (ci := 6) (v := .ref xg) (C := "CircuitProverModel") (T := TM) (N := 20) hx hb htb inM hown hK hP 0 rfl rfl 8 (by decide) (htb _ b679) (fun _ h9 => h9) rfl dM_evaluate_135 ?_
                              refine lv_iconst (v := nI 3) hx hb dM_evaluate_138 (by decide) ?_
                              refine lv_iload hx hb dM_evaluate_139 (lv_at hl 4 rfl) ?_
                              refine lv_imul hx hb dM_evaluate_141 ?_
                              refine k_toi (y := nI (3 * kD)) (pk_mul _ _) ?_
                              refine lv_iconst (v := nI 1) hx hb dM_evaluate_142 (by decide) ?_
                              refine lv_iadd hx hb dM_evaluate_143 ?_
                              refine k_toi (y := nI ((3 * kD) + 1)) (nI_add _ _) ?_
                              refine k_iald hx hb hK hP 4 rfl (k := (3 * kD) + 1) (by omega) (by decide) dM_evaluate_144 ?_
                              refine k_i (ws2 := fun u => [(qm, .inr (6, [.int (nI th), .int (nI ul), .ref xt, .int (nI pt), .ref xh, .ref xi, .ref xl, .ref xo, .ref xg, .ref xd, .int (zB ld), .ref xs, .int (nI stt), .int (nI sts), .int (nI drw), .ref xn, .ref xb, .ref xv, .int (nI bd), .int (nI rd)])), (xh, aI G 5 hh), (xi, aI G 100 fi), (xl, aI G 300 fl), (xg, aI G 300 fg), (xv, aZ G 100 vD)]) (wr := [(xh, aI G 5 hh), (xi, aI G 100 fi), (xl, aI G 300 fl), (xg, aI G 300 fg)]) (k_runV (n := 1) (As := [.int (nI (fg ((3 * kD) + 1)))]) (rest := []) hx hb hml hown htb hP hD hK hS hA hE (k_M_literal l G H.size qm xt xh xi xl xo xg xd xs xn xb xv th ul pt ld stt sts drw bd rd vD (fg ((3 * kD) + 1)) (show (fg ((3 * kD) + 1)) < 100 from by omega)) b788 b790 s38 b7 b791 (by decide +kernel) rfl rfl ⟨by rw [hRf]; exact Nat.le_of_ble_eq_true rfl, by rw [hRl]; exact Nat.le_of_ble_eq_true rfl⟩ [0, 5] rfl (by decide) 0 rfl rfl rfl rfl hl.1 rfl (Nat.le_of_ble_eq_true rfl) dM_evaluate_145 ⟨Nat.zero_le _, Nat.zero_le _⟩) hP hD hS hA [0, 5] [1, 2, 3, 4] [4, 0, 1, 2, 3, 5] rfl rfl (by decide) (by decide) (fun u => rfl) (by decide) (fun r u H locs hw hP hD hS => ?_)
                              obtain ⟨rfl, rfl⟩ := hw
                              have hP : va_P (gD G) vC [(qm, .inr (6, [.int (nI th), .int (nI ul), .ref xt, .int (nI pt), .ref xh, .ref xi, .ref xl, .ref xo, .ref xg, .ref xd, .int (zB ld), .ref xs, .int (nI stt), .int (nI sts), .int (nI drw), .ref xn, .ref xb, .ref xv, .int (nI bd), .int (nI rd)])), (xh, aI G 5 hh), (xi, aI G 100 fi), (xl, aI G 300 fl), (xg, aI G 300 fg), (xv, aZ G 100 vD)] H := hP
                              have hD : va_D A [(qm, .inr (6, [.int (nI th), .int (nI ul), .ref xt, .int (nI pt), .ref xh, .ref xi, .ref xl, .ref xo, .ref xg, .ref xd, .int (zB ld), .ref xs, .int (nI stt), .int (nI sts), .int (nI drw), .ref xn, .ref xb, .ref xv, .int (nI bd), .int (nI rd)])), (xh, aI G 5 hh), (xi, aI G 100 fi), (xl, aI G 300 fl), (xg, aI G 300 fg), (xv, aZ G 100 vD)] := hD
                              refine lv_istore (lv' := [(5, .int (zB (litV vD (fg ((3 * kD) + 1))))), (0, .ref qm), (1, .int (nI st9)), (2, .int (nI dr)), (3, .int (nI wC)), (4, .int (nI kD))]) hx hb dM_evaluate_148 hl (by decide) rfl (fun ls hl => ?_)
                              refine lv_aload_n hx hb dM_evaluate_150 rfl (lv_at hl 1 rfl) ?_
                              refine lv_aload_n hx hb dM_evaluate_151 rfl (lv_at hl 1 rfl) ?_
                              refine va_get (D := gD G) (ci := 6) (v := .ref xg) (C := "CircuitProverModel") (T := TM) (N := 20) hx hb htb inM hown hK hP 0 rfl rfl 8 (by decide) (htb _ b679) (fun _ h9 => h9) rfl dM_evaluate_152 ?_
                              refine lv_iconst (v := nI 3) hx hb dM_evaluate_155 (by decide) ?_
                              refine lv_iload hx hb dM_evaluate_156 (lv_at hl 5 rfl) ?_
                              refine lv_imul hx hb dM_evaluate_158 ?_
                              refine k_toi (y := nI (3 * kD)) (pk_mul _ _) ?_
                              refine lv_iconst (v := nI 2) hx hb dM_evaluate_159 (by decide) ?_
                              refine lv_iadd hx hb dM_evaluate_160 ?_
                              refine k_toi (y := nI ((3 * kD) + 2)) (nI_add _ _) ?_
                              refine k_iald hx hb hK hP 4 rfl (k := (3 * kD) + 2) (by omega) (by decide) dM_evaluate_161 ?_
                              refine k_i (ws2 := fun u => [(qm, .inr (6, [.int (nI th), .int (nI ul), .ref xt, .int (nI pt), .ref xh, .ref xi, .ref xl, .ref xo, .ref xg, .ref xd, .int (zB ld), .ref xs, .int (nI stt), .int (nI sts), .int (nI drw), .ref xn, .ref xb, .ref xv, .int (nI bd), .int (nI rd)])), (xh, aI G 5 hh), (xi, aI G 100 fi), (xl, aI G 300 fl), (xg, aI G 300 fg), (xv, aZ G 100 vD)]) (wr := [(xh, aI G 5 hh), (xi, aI G 100 fi), (xl, aI G 300 fl), (xg, aI G 300 fg)]) (k_runV (n := 1) (As := [.int (nI (fg ((3 * kD) + 2)))]) (rest := []) hx hb hml hown htb hP hD hK hS hA hE (k_M_literal l G H.size qm xt xh xi xl xo xg xd xs xn xb xv th ul pt ld stt sts drw bd rd vD (fg ((3 * kD) + 2)) (show (fg ((3 * kD) + 2)) < 100 from by omega)) b788 b790 s38 b7 b791 (by decide +kernel) rfl rfl ⟨by rw [hRf]; exact Nat.le_of_ble_eq_true rfl, by rw [hRl]; exact Nat.le_of_ble_eq_true rfl⟩ [0, 5] rfl (by decide) 0 rfl rfl rfl rfl hl.1 rfl (Nat.le_of_ble_eq_true rfl) dM_evaluate_162 ⟨Nat.zero_le _, Nat.zero_le _⟩) hP hD hS hA [0, 5] [1, 2, 3, 4] [4, 0, 1, 2, 3, 5] rfl rfl (by decide) (by decide) (fun u => rfl) (by decide) (fun r u H locs hw hP hD hS => ?_)
                              obtain ⟨rfl, rfl⟩ := hw
                              have hP : va_P (gD G) vC [(qm, .inr (6, [.int (nI th), .int (nI ul), .ref xt, .int (nI pt), .ref xh, .ref xi, .ref xl, .ref xo, .ref xg, .ref xd, .int (zB ld), .ref xs, .int (nI stt), .int (nI sts), .int (nI drw), .ref xn, .ref xb, .ref xv, .int (nI bd), .int (nI rd)])), (xh, aI G 5 hh), (xi, aI G 100 fi), (xl, aI G 300 fl), (xg, aI G 300 fg), (xv, aZ G 100 vD)] H := hP
                              have hD : va_D A [(qm, .inr (6, [.int (nI th), .int (nI ul), .ref xt, .int (nI pt), .ref xh, .ref xi, .ref xl, .ref xo, .ref xg, .ref xd, .int (zB ld), .ref xs, .int (nI stt), .int (nI sts), .int (nI drw), .ref xn, .ref xb, .ref xv, .int (nI bd), .int (nI rd)])), (xh, aI G 5 hh), (xi, aI G 100 fi), (xl, aI G 300 fl), (xg, aI G 300 fg), (xv, aZ G 100 vD)] := hD
                              refine lv_istore (lv' := [(6, .int (zB (litV vD (fg ((3 * kD) + 2))))), (5, .int (zB (litV vD (fg ((3 * kD) + 1))))), (0, .ref qm), (1, .int (nI st9)), (2, .int (nI dr)), (3, .int (nI wC)), (4, .int (nI kD))]) hx hb dM_evaluate_165 hl (by decide) rfl (fun ls hl => ?_)
                              refine lv_aload_n hx hb dM_evaluate_167 rfl (lv_at hl 2 rfl) ?_
                              refine va_get (D := gD G) (ci := 6) (v := .ref xv) (C := "CircuitProverModel") (T := TM) (N := 20) hx hb htb inM hown hK hP 0 rfl rfl 17 (by decide) (htb _ b688) (fun _ h9 => h9) rfl dM_evaluate_168 ?_
                              refine lv_iload_n hx hb dM_evaluate_171 rfl (lv_at hl 5 rfl) ?_
                              refine lv_iload hx hb dM_evaluate_172 (lv_at hl 1 rfl) ?_
                              refine lv_if_eq (tgt := 186) hx hb dM_evaluate_174 rfl (fun h174 => ?_) (fun h174 => ?_)
                              · have h174 : litV vD (fg ((3 * kD) + 1)) = false := zB_f h174
                                refine lv_iconst (v := nI 0) hx hb dM_evaluate_186 (by decide) ?_
                                refine k_toi (y := zB false) (by decide) ?_
                                refine k_zast hx hb hK hP hD hS 5 rfl (k := wC) (v := false) (by omega) (by decide) dM_evaluate_187 (fun H locs hP hD hS => ?_)
                                have hP : va_P (gD G) vC [(qm, .inr (6, [.int (nI th), .int (nI ul), .ref xt, .int (nI pt), .ref xh, .ref xi, .ref xl, .ref xo, .ref xg, .ref xd, .int (zB ld), .ref xs, .int (nI stt), .int (nI sts), .int (nI drw), .ref xn, .ref xb, .ref xv, .int (nI bd), .int (nI rd)])), (xh, aI G 5 hh), (xi, aI G 100 fi), (xl, aI G 300 fl), (xg, aI G 300 fg), (xv, aZ G 100 (va_up vD wC false))] H := hP
                                have hD : va_D A [(qm, .inr (6, [.int (nI th), .int (nI ul), .ref xt, .int (nI pt), .ref xh, .ref xi, .ref xl, .ref xo, .ref xg, .ref xd, .int (zB ld), .ref xs, .int (nI stt), .int (nI sts), .int (nI drw), .ref xn, .ref xb, .ref xv, .int (nI bd), .int (nI rd)])), (xh, aI G 5 hh), (xi, aI G 100 fi), (xl, aI G 300 fl), (xg, aI G 300 fg), (xv, aZ G 100 (va_up vD wC false))] := hD
                                refine lv_iinc (v := nI (kD + 1)) (lv' := [(4, .int (nI (kD + 1))), (6, .int (zB (litV vD (fg ((3 * kD) + 2))))), (5, .int (zB (litV vD (fg ((3 * kD) + 1))))), (0, .ref qm), (1, .int (nI st9)), (2, .int (nI dr)), (3, .int (nI wC))]) hx hb dM_evaluate_188 hl (k := 6) rfl (nI_add _ 1) (by decide) rfl (fun ls hl => ?_)
                                refine lv_goto (tgt := 107) hx hb dM_evaluate_191 rfl ?_
                                have hl : lv_has ls 7 [(0, .ref qm), (1, .int (nI st9)), (2, .int (nI dr)), (3, .int (nI wC)), (4, .int (nI (kD + 1)))] := lv_sub hl [3, 4, 5, 6, 0] rfl
                                exact ih107 (kD + 1) (va_up vD wC false) _ _ _ (by omega) (by omega) (by rw [it_s, ← hvD]; first | exact (gst_n (by omega)).symm | (refine (gst_y (by omega) ?_).symm; rw [← hy2, ← hy3]; first | rw [h174, h179, Bool.and_true] | rw [h174, Bool.false_and] | rw [h179, Bool.and_false])) hP hD hS hl
                              · have h174 : litV vD (fg ((3 * kD) + 1)) = true := zB_t h174
                                refine lv_iload hx hb dM_evaluate_177 (lv_at hl 0 rfl) ?_
                                refine lv_if_eq (tgt := 186) hx hb dM_evaluate_179 rfl (fun h179 => ?_) (fun h179 => ?_)
                                · have h179 : litV vD (fg ((3 * kD) + 2)) = false := zB_f h179
                                  refine lv_iconst (v := nI 0) hx hb dM_evaluate_186 (by decide) ?_
                                  refine k_toi (y := zB false) (by decide) ?_
                                  refine k_zast hx hb hK hP hD hS 5 rfl (k := wC) (v := false) (by omega) (by decide) dM_evaluate_187 (fun H locs hP hD hS => ?_)
                                  have hP : va_P (gD G) vC [(qm, .inr (6, [.int (nI th), .int (nI ul), .ref xt, .int (nI pt), .ref xh, .ref xi, .ref xl, .ref xo, .ref xg, .ref xd, .int (zB ld), .ref xs, .int (nI stt), .int (nI sts), .int (nI drw), .ref xn, .ref xb, .ref xv, .int (nI bd), .int (nI rd)])), (xh, aI G 5 hh), (xi, aI G 100 fi), (xl, aI G 300 fl), (xg, aI G 300 fg), (xv, aZ G 100 (va_up vD wC false))] H := hP
                                  have hD : va_D A [(qm, .inr (6, [.int (nI th), .int (nI ul), .ref xt, .int (nI pt), .ref xh, .ref xi, .ref xl, .ref xo, .ref xg, .ref xd, .int (zB ld), .ref xs, .int (nI stt), .int (nI sts), .int (nI drw), .ref xn, .ref xb, .ref xv, .int (nI bd), .int (nI rd)])), (xh, aI G 5 hh), (xi, aI G 100 fi), (xl, aI G 300 fl), (xg, aI G 300 fg), (xv, aZ G 100 (va_up vD wC false))] := hD
                                  refine lv_iinc (v := nI (kD + 1)) (lv' := [(4, .int (nI (kD + 1))), (6, .int (zB (litV vD (fg ((3 * kD) + 2))))), (5, .int (zB (litV vD (fg ((3 * kD) + 1))))), (0, .ref qm), (1, .int (nI st9)), (2, .int (nI dr)), (3, .int (nI wC))]) hx hb dM_evaluate_188 hl (k := 6) rfl (nI_add _ 1) (by decide) rfl (fun ls hl => ?_)
                                  refine lv_goto (tgt := 107) hx hb dM_evaluate_191 rfl ?_
                                  have hl : lv_has ls 7 [(0, .ref qm), (1, .int (nI st9)), (2, .int (nI dr)), (3, .int (nI wC)), (4, .int (nI (kD + 1)))] := lv_sub hl [3, 4, 5, 6, 0] rfl
                                  exact ih107 (kD + 1) (va_up vD wC false) _ _ _ (by omega) (by omega) (by rw [it_s, ← hvD]; first | exact (gst_n (by omega)).symm | (refine (gst_y (by omega) ?_).symm; rw [← hy2, ← hy3]; first | rw [h174, h179, Bool.and_true] | rw [h174, Bool.false_and] | rw [h179, Bool.and_false])) hP hD hS hl
                                · have h179 : litV vD (fg ((3 * kD) + 2)) = true := zB_t h179
                                  refine lv_iconst (v := nI 1) hx hb dM_evaluate_182 (by decide) ?_
                                  refine lv_goto (tgt := 187) hx hb dM_evaluate_183 rfl ?_
                                  refine k_toi (y := zB true) (by decide) ?_
                                  refine k_zast hx hb hK hP hD hS 5 rfl (k := wC) (v := true) (by omega) (by decide) dM_evaluate_187 (fun H locs hP hD hS => ?_)
                                  have hP : va_P (gD G) vC [(qm, .inr (6, [.int (nI th), .int (nI ul), .ref xt, .int (nI pt), .ref xh, .ref xi, .ref xl, .ref xo, .ref xg, .ref xd, .int (zB ld), .ref xs, .int (nI stt), .int (nI sts), .int (nI drw), .ref xn, .ref xb, .ref xv, .int (nI bd), .int (nI rd)])), (xh, aI G 5 hh), (xi, aI G 100 fi), (xl, aI G 300 fl), (xg, aI G 300 fg), (xv, aZ G 100 (va_up vD wC true))] H := hP
                                  have hD : va_D A [(qm, .inr (6, [.int (nI th), .int (nI ul), .ref xt, .int (nI pt), .ref xh, .ref xi, .ref xl, .ref xo, .ref xg, .ref xd, .int (zB ld), .ref xs, .int (nI stt), .int (nI sts), .int (nI drw), .ref xn, .ref xb, .ref xv, .int (nI bd), .int (nI rd)])), (xh, aI G 5 hh), (xi, aI G 100 fi), (xl, aI G 300 fl), (xg, aI G 300 fg), (xv, aZ G 100 (va_up vD wC true))] := hD
                                  refine lv_iinc (v := nI (kD + 1)) (lv' := [(4, .int (nI (kD + 1))), (6, .int (zB (litV vD (fg ((3 * kD) + 2))))), (5, .int (zB (litV vD (fg ((3 * kD) + 1))))), (0, .ref qm), (1, .int (nI st9)), (2, .int (nI dr)), (3, .int (nI wC))]) hx hb dM_evaluate_188 hl (k := 6) rfl (nI_add _ 1) (by decide) rfl (fun ls hl => ?_)
                                  refine lv_goto (tgt := 107) hx hb dM_evaluate_191 rfl ?_
                                  have hl : lv_has ls 7 [(0, .ref qm), (1, .int (nI st9)), (2, .int (nI dr)), (3, .int (nI wC)), (4, .int (nI (kD + 1)))] := lv_sub hl [3, 4, 5, 6, 0] rfl
                                  exact ih107 (kD + 1) (va_up vD wC true) _ _ _ (by omega) (by omega) (by rw [it_s, ← hvD]; first | exact (gst_n (by omega)).symm | (refine (gst_y (by omega) ?_).symm; rw [← hy2, ← hy3]; first | rw [h174, h179, Bool.and_true] | rw [h174, Bool.false_and] | rw [h179, Bool.and_false])) hP hD hS hl
                      have hl : lv_has ls 7 [(0, .ref qm), (1, .int (nI st9)), (2, .int (nI dr)), (3, .int (nI wC)), (4, .int (nI 0))] := lv_sub hl [1, 2, 3, 4, 0] rfl
                      exact loop107 (hd TT 4 - 0 + 1) 0 uC _ _ _ (by omega) (by omega) rfl hP hD hS hl
                have hl : lv_has ls 7 [(0, .ref qm), (1, .int (nI st9)), (2, .int (nI dr)), (3, .int (nI 1))] := lv_sub hl [1, 2, 3, 0] rfl
                exact loop94 (hd TT 0 + 1 - 1 + 1) 1 vB _ _ _ (by omega) (by omega) rfl hP hD hS hl
              · have h54 : kB < hh 2 := Nat.lt_of_not_le (fun z => h54 ((nI_leI (a := hh 2) (b := kB) (by omega) (by omega)).mpr z))
                refine lv_aload_n hx hb dM_evaluate_57 rfl (lv_at hl 0 rfl) ?_
                refine va_get (D := gD G) (ci := 6) (v := .ref xv) (C := "CircuitProverModel") (T := TM) (N := 20) hx hb htb inM hown hK hP 0 rfl rfl 17 (by decide) (htb _ b688) (fun _ h9 => h9) rfl dM_evaluate_58 ?_
                refine lv_aload_n hx hb dM_evaluate_61 rfl (lv_at hl 0 rfl) ?_
                refine va_get (D := gD G) (ci := 6) (v := .ref xl) (C := "CircuitProverModel") (T := TM) (N := 20) hx hb htb inM hown hK hP 0 rfl rfl 6 (by decide) (htb _ b677) (fun _ h9 => h9) rfl dM_evaluate_62 ?_
                refine lv_iconst (v := nI 3) hx hb dM_evaluate_65 (by decide) ?_
                refine lv_iload_n hx hb dM_evaluate_66 rfl (lv_at hl 3 rfl) ?_
                refine lv_imul hx hb dM_evaluate_67 ?_
                refine k_toi (y := nI (3 * kB)) (pk_mul _ _) ?_
                have hy1 : fl (3 * kB) = xla TT kB 0 := hL kB (by omega) 0 (by decide)
                have hl1 := xla_lt TT kB 0
                have hq1 := Nat.div_le_self st9 (2 ^ kB)
                refine k_iald hx hb hK hP 3 rfl (k := 3 * kB) (by omega) (by decide) dM_evaluate_68 ?_
                refine lv_iconst (v := nI 2) hx hb dM_evaluate_69 (by decide) ?_
                refine lv_idiv hx hb dM_evaluate_70 (nI_ne0 (by omega) (by omega)) ?_
                refine k_toi (y := nI ((fl (3 * kB)) / 2)) (pk_div (by omega) (by omega) (by omega)) ?_
                refine lv_iload_n hx hb dM_evaluate_71 rfl (lv_at hl 1 rfl) ?_
                refine lv_iload_n hx hb dM_evaluate_72 rfl (lv_at hl 3 rfl) ?_
                refine lv_ishr hx hb dM_evaluate_73 ?_
                refine k_toi (y := nI (st9 / 2 ^ kB)) (shrn (by omega) (by omega)) ?_
                refine lv_iconst (v := nI 1) hx hb dM_evaluate_74 (by decide) ?_
                refine lv_iand hx hb dM_evaluate_75 ?_
                refine k_toi (y := nI ((st9 / 2 ^ kB) % 2)) (pk_andN (by omega) 1 (by decide)) ?_
                refine lv_iconst (v := nI 1) hx hb dM_evaluate_76 (by decide) ?_
                refine lv_icmp_ne (tgt := 84) hx hb dM_evaluate_77 rfl (fun h77 => ?_) (fun h77 => ?_)
                · have h77 : ¬ (st9 / 2 ^ kB) % 2 = 1 := fun z => h77 ((nI_eq (a := (st9 / 2 ^ kB) % 2) (b := 1) (by omega) (by omega)).mpr z)
                  refine lv_iconst (v := nI 0) hx hb dM_evaluate_84 (by decide) ?_
                  refine k_toi (y := zB false) (by decide) ?_
                  refine k_zast hx hb hK hP hD hS 5 rfl (k := (fl (3 * kB)) / 2) (v := false) (by omega) (by decide) dM_evaluate_85 (fun H locs hP hD hS => ?_)
                  have hP : va_P (gD G) vC [(qm, .inr (6, [.int (nI th), .int (nI ul), .ref xt, .int (nI pt), .ref xh, .ref xi, .ref xl, .ref xo, .ref xg, .ref xd, .int (zB ld), .ref xs, .int (nI stt), .int (nI sts), .int (nI drw), .ref xn, .ref xb, .ref xv, .int (nI bd), .int (nI rd)])), (xh, aI G 5 hh), (xi, aI G 100 fi), (xl, aI G 300 fl), (xg, aI G 300 fg), (xv, aZ G 100 (va_up vB ((fl (3 * kB)) / 2) false))] H := hP
                  have hD : va_D A [(qm, .inr (6, [.int (nI th), .int (nI ul), .ref xt, .int (nI pt), .ref xh, .ref xi, .ref xl, .ref xo, .ref xg, .ref xd, .int (zB ld), .ref xs, .int (nI stt), .int (nI sts), .int (nI drw), .ref xn, .ref xb, .ref xv, .int (nI bd), .int (nI rd)])), (xh, aI G 5 hh), (xi, aI G 100 fi), (xl, aI G 300 fl), (xg, aI G 300 fg), (xv, aZ G 100 (va_up vB ((fl (3 * kB)) / 2) false))] := hD
                  refine lv_iinc (v := nI (kB + 1)) (lv' := [(3, .int (nI (kB + 1))), (0, .ref qm), (1, .int (nI st9)), (2, .int (nI dr))]) hx hb dM_evaluate_86 hl (k := 3) rfl (nI_add _ 1) (by decide) rfl (fun ls hl => ?_)
                  refine lv_goto (tgt := 47) hx hb dM_evaluate_89 rfl ?_
                  have hl : lv_has ls 7 [(0, .ref qm), (1, .int (nI st9)), (2, .int (nI dr)), (3, .int (nI (kB + 1)))] := lv_sub hl [1, 2, 3, 0] rfl
                  exact ih47 (kB + 1) (va_up vB ((fl (3 * kB)) / 2) false) _ _ _ (by omega) (by omega) (by rw [it_s, ← hvB, hy1]; first | rw [tb_t h77] | rw [tb_f h77]) hP hD hS hl
                · have h77 : (st9 / 2 ^ kB) % 2 = 1 := (nI_eq (a := (st9 / 2 ^ kB) % 2) (b := 1) (by omega) (by omega)).mp h77
                  refine lv_iconst (v := nI 1) hx hb dM_evaluate_80 (by decide) ?_
                  refine lv_goto (tgt := 85) hx hb dM_evaluate_81 rfl ?_
                  refine k_toi (y := zB true) (by decide) ?_
                  refine k_zast hx hb hK hP hD hS 5 rfl (k := (fl (3 * kB)) / 2) (v := true) (by omega) (by decide) dM_evaluate_85 (fun H locs hP hD hS => ?_)
                  have hP : va_P (gD G) vC [(qm, .inr (6, [.int (nI th), .int (nI ul), .ref xt, .int (nI pt), .ref xh, .ref xi, .ref xl, .ref xo, .ref xg, .ref xd, .int (zB ld), .ref xs, .int (nI stt), .int (nI sts), .int (nI drw), .ref xn, .ref xb, .ref xv, .int (nI bd), .int (nI rd)])), (xh, aI G 5 hh), (xi, aI G 100 fi), (xl, aI G 300 fl), (xg, aI G 300 fg), (xv, aZ G 100 (va_up vB ((fl (3 * kB)) / 2) true))] H := hP
                  have hD : va_D A [(qm, .inr (6, [.int (nI th), .int (nI ul), .ref xt, .int (nI pt), .ref xh, .ref xi, .ref xl, .ref xo, .ref xg, .ref xd, .int (zB ld), .ref xs, .int (nI stt), .int (nI sts), .int (nI drw), .ref xn, .ref xb, .ref xv, .int (nI bd), .int (nI rd)])), (xh, aI G 5 hh), (xi, aI G 100 fi), (xl, aI G 300 fl), (xg, aI G 300 fg), (xv, aZ G 100 (va_up vB ((fl (3 * kB)) / 2) true))] := hD
                  refine lv_iinc (v := nI (kB + 1)) (lv' := [(3, .int (nI (kB + 1))), (0, .ref qm), (1, .int (nI st9)), (2, .int (nI dr))]) hx hb dM_evaluate_86 hl (k := 3) rfl (nI_add _ 1) (by decide) rfl (fun ls hl => ?_)
                  refine lv_goto (tgt := 47) hx hb dM_evaluate_89 rfl ?_
                  have hl : lv_has ls 7 [(0, .ref qm), (1, .int (nI st9)), (2, .int (nI dr)), (3, .int (nI (kB + 1)))] := lv_sub hl [1, 2, 3, 0] rfl
                  exact ih47 (kB + 1) (va_up vB ((fl (3 * kB)) / 2) true) _ _ _ (by omega) (by omega) (by rw [it_s, ← hvB, hy1]; first | rw [tb_t h77] | rw [tb_f h77]) hP hD hS hl
          have hl : lv_has ls 7 [(0, .ref qm), (1, .int (nI st9)), (2, .int (nI dr)), (3, .int (nI 0))] := lv_sub hl [1, 2, 3, 0] rfl
          exact loop47 (hd TT 2 - 0 + 1) 0 vA _ _ _ (by omega) (by omega) rfl hP hD hS hl
        · have h9 : kA < hh 1 := Nat.lt_of_not_le (fun z => h9 ((nI_leI (a := hh 1) (b := kA) (by omega) (by omega)).mpr z))
          refine lv_aload_n hx hb dM_evaluate_12 rfl (lv_at hl 0 rfl) ?_
          refine va_get (D := gD G) (ci := 6) (v := .ref xv) (C := "CircuitProverModel") (T := TM) (N := 20) hx hb htb inM hown hK hP 0 rfl rfl 17 (by decide) (htb _ b688) (fun _ h9 => h9) rfl dM_evaluate_13 ?_
          refine lv_aload_n hx hb dM_evaluate_16 rfl (lv_at hl 0 rfl) ?_
          refine va_get (D := gD G) (ci := 6) (v := .ref xi) (C := "CircuitProverModel") (T := TM) (N := 20) hx hb htb inM hown hK hP 0 rfl rfl 5 (by decide) (htb _ b676) (fun _ h9 => h9) rfl dM_evaluate_17 ?_
          refine lv_iload_n hx hb dM_evaluate_20 rfl (lv_at hl 3 rfl) ?_
          have hy1 : fi kA = xin TT kA := hI kA (by omega)
          have hl1 := xin_lt TT kA
          have hq1 := Nat.div_le_self dr (2 ^ kA)
          refine k_iald hx hb hK hP 2 rfl (k := kA) (by omega) (by decide) dM_evaluate_21 ?_
          refine lv_iconst (v := nI 2) hx hb dM_evaluate_22 (by decide) ?_
          refine lv_idiv hx hb dM_evaluate_23 (nI_ne0 (by omega) (by omega)) ?_
          refine k_toi (y := nI ((fi kA) / 2)) (pk_div (by omega) (by omega) (by omega)) ?_
          refine lv_iload_n hx hb dM_evaluate_24 rfl (lv_at hl 2 rfl) ?_
          refine lv_iload_n hx hb dM_evaluate_25 rfl (lv_at hl 3 rfl) ?_
          refine lv_ishr hx hb dM_evaluate_26 ?_
          refine k_toi (y := nI (dr / 2 ^ kA)) (shrn (by omega) (by omega)) ?_
          refine lv_iconst (v := nI 1) hx hb dM_evaluate_27 (by decide) ?_
          refine lv_iand hx hb dM_evaluate_28 ?_
          refine k_toi (y := nI ((dr / 2 ^ kA) % 2)) (pk_andN (by omega) 1 (by decide)) ?_
          refine lv_iconst (v := nI 1) hx hb dM_evaluate_29 (by decide) ?_
          refine lv_icmp_ne (tgt := 37) hx hb dM_evaluate_30 rfl (fun h30 => ?_) (fun h30 => ?_)
          · have h30 : ¬ (dr / 2 ^ kA) % 2 = 1 := fun z => h30 ((nI_eq (a := (dr / 2 ^ kA) % 2) (b := 1) (by omega) (by omega)).mpr z)
            refine lv_iconst (v := nI 0) hx hb dM_evaluate_37 (by decide) ?_
            refine k_toi (y := zB false) (by decide) ?_
            refine k_zast hx hb hK hP hD hS 5 rfl (k := (fi kA) / 2) (v := false) (by omega) (by decide) dM_evaluate_38 (fun H locs hP hD hS => ?_)
            have hP : va_P (gD G) vC [(qm, .inr (6, [.int (nI th), .int (nI ul), .ref xt, .int (nI pt), .ref xh, .ref xi, .ref xl, .ref xo, .ref xg, .ref xd, .int (zB ld), .ref xs, .int (nI stt), .int (nI sts), .int (nI drw), .ref xn, .ref xb, .ref xv, .int (nI bd), .int (nI rd)])), (xh, aI G 5 hh), (xi, aI G 100 fi), (xl, aI G 300 fl), (xg, aI G 300 fg), (xv, aZ G 100 (va_up vA ((fi kA) / 2) false))] H := hP
            have hD : va_D A [(qm, .inr (6, [.int (nI th), .int (nI ul), .ref xt, .int (nI pt), .ref xh, .ref xi, .ref xl, .ref xo, .ref xg, .ref xd, .int (zB ld), .ref xs, .int (nI stt), .int (nI sts), .int (nI drw), .ref xn, .ref xb, .ref xv, .int (nI bd), .int (nI rd)])), (xh, aI G 5 hh), (xi, aI G 100 fi), (xl, aI G 300 fl), (xg, aI G 300 fg), (xv, aZ G 100 (va_up vA ((fi kA) / 2) false))] := hD
            refine lv_iinc (v := nI (kA + 1)) (lv' := [(3, .int (nI (kA + 1))), (0, .ref qm), (1, .int (nI st9)), (2, .int (nI dr))]) hx hb dM_evaluate_39 hl (k := 3) rfl (nI_add _ 1) (by decide) rfl (fun ls hl => ?_)
            refine lv_goto (tgt := 2) hx hb dM_evaluate_42 rfl ?_
            have hl : lv_has ls 7 [(0, .ref qm), (1, .int (nI st9)), (2, .int (nI dr)), (3, .int (nI (kA + 1)))] := lv_sub hl [1, 2, 3, 0] rfl
            exact ih2 (kA + 1) (va_up vA ((fi kA) / 2) false) _ _ _ (by omega) (by omega) (by rw [it_s, ← hvA, hy1]; first | rw [tb_t h30] | rw [tb_f h30]) hP hD hS hl
          · have h30 : (dr / 2 ^ kA) % 2 = 1 := (nI_eq (a := (dr / 2 ^ kA) % 2) (b := 1) (by omega) (by omega)).mp h30
            refine lv_iconst (v := nI 1) hx hb dM_evaluate_33 (by decide) ?_
            refine lv_goto (tgt := 38) hx hb dM_evaluate_34 rfl ?_
            refine k_toi (y := zB true) (by decide) ?_
            refine k_zast hx hb hK hP hD hS 5 rfl (k := (fi kA) / 2) (v := true) (by omega) (by decide) dM_evaluate_38 (fun H locs hP hD hS => ?_)
            have hP : va_P (gD G) vC [(qm, .inr (6, [.int (nI th), .int (nI ul), .ref xt, .int (nI pt), .ref xh, .ref xi, .ref xl, .ref xo, .ref xg, .ref xd, .int (zB ld), .ref xs, .int (nI stt), .int (nI sts), .int (nI drw), .ref xn, .ref xb, .ref xv, .int (nI bd), .int (nI rd)])), (xh, aI G 5 hh), (xi, aI G 100 fi), (xl, aI G 300 fl), (xg, aI G 300 fg), (xv, aZ G 100 (va_up vA ((fi kA) / 2) true))] H := hP
            have hD : va_D A [(qm, .inr (6, [.int (nI th), .int (nI ul), .ref xt, .int (nI pt), .ref xh, .ref xi, .ref xl, .ref xo, .ref xg, .ref xd, .int (zB ld), .ref xs, .int (nI stt), .int (nI sts), .int (nI drw), .ref xn, .ref xb, .ref xv, .int (nI bd), .int (nI rd)])), (xh, aI G 5 hh), (xi, aI G 100 fi), (xl, aI G 300 fl), (xg, aI G 300 fg), (xv, aZ G 100 (va_up vA ((fi kA) / 2) true))] := hD
            refine lv_iinc (v := nI (kA + 1)) (lv' := [(3, .int (nI (kA + 1))), (0, .ref qm), (1, .int (nI st9)), (2, .int (nI dr))]) hx hb dM_evaluate_39 hl (k := 3) rfl (nI_add _ 1) (by decide) rfl (fun ls hl => ?_)
            refine lv_goto (tgt := 2) hx hb dM_evaluate_42 rfl ?_
            have hl : lv_has ls 7 [(0, .ref qm), (1, .int (nI st9)), (2, .int (nI dr)), (3, .int (nI (kA + 1)))] := lv_sub hl [1, 2, 3, 0] rfl
            exact ih2 (kA + 1) (va_up vA ((fi kA) / 2) true) _ _ _ (by omega) (by omega) (by rw [it_s, ← hvA, hy1]; first | rw [tb_t h30] | rw [tb_f h30]) hP hD hS hl
    have hl : lv_has ls 7 [(0, .ref qm), (1, .int (nI st9)), (2, .int (nI dr)), (3, .int (nI 0))] := lv_sub hl [1, 2, 3, 0] rfl
    exact loop2 (hd TT 1 - 0 + 1) 0 fv _ _ _ (by omega) (by omega) rfl hP hD hS hl
  rw [hH, hlc] at hgo
  exact hgo
set_option maxRecDepth 100000 in
set_option maxHeartbeats 4000000 in
theorem k_M_load (l : Launch) (G : GG) (sz : Nat) (qm : Nat) (xt : Nat) (xh : Nat) (xi : Nat) (xl : Nat) (xo : Nat) (xg : Nat) (xd : Nat) (xs : Nat) (xn : Nat) (xb : Nat) (xv : Nat) (th : Nat) (ul : Nat) (pt : Nat) (ld : Bool) (stt : Nat) (sts : Nat) (drw : Nat) (bd : Nat) (rd : Nat) (tx : Nat → Nat) (hh : Nat → Nat) (fi : Nat → Nat) (fl : Nat → Nat) (fo : Nat → Nat) (fg : Nat → Nat) (fd : Nat → Bool) (fs : Nat → Nat) (fx : Nat → Nat) (fb : Nat → Bool) (fv : Nat → Bool) (hul : ul ≤ 400) (htx : ∀ j, tx j < 128) : Ki l yM_load cM_load 6 .int 5 115 G [.ref qm] [(qm, .inr (6, [.int (nI th), .int (nI ul), .ref xt, .int (nI pt), .ref xh, .ref xi, .ref xl, .ref xo, .ref xg, .ref xd, .int (zB ld), .ref xs, .int (nI stt), .int (nI sts), .int (nI drw), .ref xn, .ref xb, .ref xv, .int (nI bd), .int (nI rd)])), (xt, aI G 400 tx), (xh, aI G 5 hh), (xi, aI G 100 fi), (xl, aI G 300 fl), (xo, aI G 100 fo), (xg, aI G 300 fg), (xd, aZ G 100 fd), (xs, aI G 5 fs), (xn, aI G 512 fx), (xb, aZ G 512 fb), (xv, aZ G 100 fv)] sz (fun (r : Int32) (u : Nat × Nat × Nat × Bool × Nat × Nat × Nat × (Nat → Nat) × (Nat → Nat) × (Nat → Nat) × (Nat → Nat) × (Nat → Nat) × (Nat → Bool) × (Nat → Nat) × (Nat → Nat) × (Nat → Bool) × (Nat → Bool)) => (∃ (pt9 : Nat), ∃ (hh9 : Nat → Nat), ∃ (fi9 : Nat → Nat), ∃ (fl9 : Nat → Nat), ∃ (fo9 : Nat → Nat), ∃ (fg9 : Nat → Nat), ∃ (fd9 : Nat → Bool), ∃ (fs9 : Nat → Nat), ∃ (fx9 : Nat → Nat), ∃ (fb9 : Nat → Bool), ∃ (fv9 : Nat → Bool), (circOK (lk tx ul) ul ∧ small (lk tx ul)) ∧ (∀ c, c < 5 → fs9 c = hd (lk tx ul) c) ∧ (∀ a b, a < (2 ^ hd (lk tx ul) 2) → b < (2 ^ hd (lk tx ul) 1) → fx9 (8 * a + b) = nxT (lk tx ul) a b) ∧ (∀ a b, a < (2 ^ hd (lk tx ul) 2) → b < (2 ^ hd (lk tx ul) 1) → fb9 (8 * a + b) = bdT (lk tx ul) a b) ∧ nI (hd (lk tx ul) 2) = r ∧ (0, 0, pt9, true, stB (lk tx ul) (hd (lk tx ul) 2), 2 ^ hd (lk tx ul) 2, 2 ^ hd (lk tx ul) 1, hh9, fi9, fl9, fo9, fg9, fd9, fs9, fx9, fb9, fv9) = u) ∨ (∃ (pt9 : Nat), ∃ (hh9 : Nat → Nat), ∃ (fi9 : Nat → Nat), ∃ (fl9 : Nat → Nat), ∃ (fo9 : Nat → Nat), ∃ (fg9 : Nat → Nat), ∃ (fd9 : Nat → Bool), (circOK (lk tx ul) ul ∧ ¬ small (lk tx ul)) ∧ nI 0 = r ∧ (2, ul, pt9, ld, stt, sts, drw, hh9, fi9, fl9, fo9, fg9, fd9, fs, fx, fb, fv) = u) ∨ (∃ (pt9 : Nat), ∃ (hh9 : Nat → Nat), ∃ (fi9 : Nat → Nat), ∃ (fl9 : Nat → Nat), ∃ (fo9 : Nat → Nat), ∃ (fg9 : Nat → Nat), ∃ (fd9 : Nat → Bool), ¬ circOK (lk tx ul) ul ∧ nI 0 = r ∧ (1, ul, pt9, ld, stt, sts, drw, hh9, fi9, fl9, fo9, fg9, fd9, fs, fx, fb, fv) = u)) (fun (u : Nat × Nat × Nat × Bool × Nat × Nat × Nat × (Nat → Nat) × (Nat → Nat) × (Nat → Nat) × (Nat → Nat) × (Nat → Nat) × (Nat → Bool) × (Nat → Nat) × (Nat → Nat) × (Nat → Bool) × (Nat → Bool)) => [(qm, .inr (6, [.int (nI u.1), .int (nI u.2.1), .ref xt, .int (nI u.2.2.1), .ref xh, .ref xi, .ref xl, .ref xo, .ref xg, .ref xd, .int (zB u.2.2.2.1), .ref xs, .int (nI u.2.2.2.2.1), .int (nI u.2.2.2.2.2.1), .int (nI u.2.2.2.2.2.2.1), .ref xn, .ref xb, .ref xv, .int (nI bd), .int (nI rd)])), (xt, aI G 400 tx), (xh, aI G 5 u.2.2.2.2.2.2.2.1), (xi, aI G 100 u.2.2.2.2.2.2.2.2.1), (xl, aI G 300 u.2.2.2.2.2.2.2.2.2.1), (xo, aI G 100 u.2.2.2.2.2.2.2.2.2.2.1), (xg, aI G 300 u.2.2.2.2.2.2.2.2.2.2.2.1), (xd, aZ G 100 u.2.2.2.2.2.2.2.2.2.2.2.2.1), (xs, aI G 5 u.2.2.2.2.2.2.2.2.2.2.2.2.2.1), (xn, aI G 512 u.2.2.2.2.2.2.2.2.2.2.2.2.2.2.1), (xb, aZ G 512 u.2.2.2.2.2.2.2.2.2.2.2.2.2.2.2.1), (xv, aZ G 100 u.2.2.2.2.2.2.2.2.2.2.2.2.2.2.2.2)]) := by
  refine Met.ofW (cc := cM_load) (maxL := 6) (ret := (some .int)) (by decide) rfl ?_
  intro p e s m args below meth c s₁ B hml hv
  obtain ⟨hav, hsz, hP, hK, hD0, hE⟩ := hv
  have hx := B.exec
  have hb := B.bytes
  have hr := B.returns
  have htb : ∀ w ∈ TB, w.before args s = true := fun w h => atoms_spec (ws := Cond.code yM_load cM_load 6 (some .int) :: TB) B.pre w (List.mem_cons_of_mem _ h)
  have hown : s.vm.findClass "CircuitProverModel" = some m.cls := findClass_of_methodNamed B.named
  have hlocks := B.notSynchronized
  subst hsz
  have hD := hD0.self (sz := s.heap.size)
  clear hD0
  generalize hRm : (headSpec (Cond.code yM_load cM_load 6 (some .int) :: TB) { frames := 5, cells := 0, slots := 0, locals := 115 }).room = R
  have hRf : R.frames = 5 := by rw [← hRm]; rfl
  have hRl : R.locals = 115 := by rw [← hRm]; rfl
  have hRc : R.cells = 0 := by rw [← hRm]; rfl
  have hRs : R.slots = 0 := by rw [← hRm]; rfl
  clear hRm
  generalize hAe : va_A [(qm, .inr (6, [.int (nI th), .int (nI ul), .ref xt, .int (nI pt), .ref xh, .ref xi, .ref xl, .ref xo, .ref xg, .ref xd, .int (zB ld), .ref xs, .int (nI stt), .int (nI sts), .int (nI drw), .ref xn, .ref xb, .ref xv, .int (nI bd), .int (nI rd)])), (xt, aI G 400 tx), (xh, aI G 5 hh), (xi, aI G 100 fi), (xl, aI G 300 fl), (xo, aI G 100 fo), (xg, aI G 300 fg), (xd, aZ G 100 fd), (xs, aI G 5 fs), (xn, aI G 512 fx), (xb, aZ G 512 fb), (xv, aZ G 100 fv)] s.heap.size = A at hD hE ⊢
  have hA : ∀ q : Nat, s.heap.size ≤ q → A q := fun q h => by rw [← hAe]; exact Or.inr h
  clear hAe
  have hS : va_S A s.heap s.heap [] := va_S.rf
  have hl := lv_entry ([.ref qm]) (n := 6) (Nat.le_of_ble_eq_true rfl)
  have hent := lg_entry_eq m ([.ref qm]) 6
  rw [← hav] at hent
  rw [hent]
  clear hent hav
  generalize (lg_sl ([.ref qm]) ++ List.replicate (6 - (lg_sl ([.ref qm])).length) Slot.unset).toArray = ls at hl ⊢
  have hl : lv_has ls 6 [(0, .ref qm)] := hl
  generalize hQ : MQ below _ args s 0 0 _ = Q
  have hP : va_P (gD G) vC [(qm, .inr (6, [.int (nI th), .int (nI ul), .ref xt, .int (nI pt), .ref xh, .ref xi, .ref xl, .ref xo, .ref xg, .ref xd, .int (zB ld), .ref xs, .int (nI stt), .int (nI sts), .int (nI drw), .ref xn, .ref xb, .ref xv, .int (nI bd), .int (nI rd)])), (xt, aI G 400 tx), (xh, aI G 5 hh), (xi, aI G 100 fi), (xl, aI G 300 fl), (xo, aI G 100 fo), (xg, aI G 300 fg), (xd, aZ G 100 fd), (xs, aI G 5 fs), (xn, aI G 512 fx), (xb, aZ G 512 fb), (xv, aZ G 100 fv)] s.heap := hP
  obtain ⟨H, hH⟩ : ∃ H : Heap, H = s.heap := ⟨_, rfl⟩
  obtain ⟨locs, hlc⟩ : ∃ L : List Loc, L = [] := ⟨_, rfl⟩
  have hS : va_S A s.heap H locs := by rw [hH, hlc]; exact hS
  have hP : va_P (gD G) vC [(qm, .inr (6, [.int (nI th), .int (nI ul), .ref xt, .int (nI pt), .ref xh, .ref xi, .ref xl, .ref xo, .ref xg, .ref xd, .int (zB ld), .ref xs, .int (nI stt), .int (nI sts), .int (nI drw), .ref xn, .ref xb, .ref xv, .int (nI bd), .int (nI rd)])), (xt, aI G 400 tx), (xh, aI G 5 hh), (xi, aI G 100 fi), (xl, aI G 300 fl), (xo, aI G 100 fo), (xg, aI G 300 fg), (xd, aZ G 100 fd), (xs, aI G 5 fs), (xn, aI G 512 fx), (xb, aZ G 512 fb), (xv, aZ G 100 fv)] H := by rw [hH]; exact hP
  have hgo : W p l e R s m args below meth c H locs 0 0 Q (F0 m 0 ls []) := by
    clear hH hlc
    refine lv_aload_n hx hb dM_load_0 rfl (lv_at hl 0 rfl) ?_
    refine lv_aload_n hx hb dM_load_1 rfl (lv_at hl 0 rfl) ?_
    refine k_i (ws2 := fun u => [(qm, .inr (6, [.int (nI th), .int (nI ul), .ref xt, .int (nI (u.1)), .ref xh, .ref xi, .ref xl, .ref xo, .ref xg, .ref xd, .int (zB ld), .ref xs, .int (nI stt), .int (nI sts), .int (nI drw), .ref xn, .ref xb, .ref xv, .int (nI bd), .int (nI rd)])), (xt, aI G 400 tx), (xh, aI G 5 (u.2.1)), (xi, aI G 100 (u.2.2.1)), (xl, aI G 300 (u.2.2.2.1)), (xo, aI G 100 (u.2.2.2.2.1)), (xg, aI G 300 (u.2.2.2.2.2.1)), (xd, aZ G 100 (u.2.2.2.2.2.2)), (xs, aI G 5 fs), (xn, aI G 512 fx), (xb, aZ G 512 fb), (xv, aZ G 100 fv)]) (wr := [(xs, aI G 5 fs), (xn, aI G 512 fx), (xb, aZ G 512 fb), (xv, aZ G 100 fv)]) (k_runV (n := 0) (As := []) (rest := [.ref qm]) hx hb hml hown htb hP hD hK hS hA hE (k_M_reads l G H.size qm xt xh xi xl xo xg xd xs xn xb xv th ul pt ld stt sts drw bd rd tx hh fi fl fo fg fd (show ul ≤ 400 from by omega) (show ∀ j, tx j < 128 from by omega)) b752 b754 s29 b7 b755 (by decide +kernel) rfl rfl ⟨by rw [hRf]; exact Nat.le_of_ble_eq_true rfl, by rw [hRl]; exact Nat.le_of_ble_eq_true rfl⟩ [0, 1, 2, 3, 4, 5, 6, 7] rfl (by decide) 0 rfl rfl rfl rfl hl.1 rfl (Nat.le_of_ble_eq_true rfl) dM_load_2 ⟨Nat.zero_le _, Nat.zero_le _⟩) hP hD hS hA [0, 1, 2, 3, 4, 5, 6, 7] [8, 9, 10, 11] [4, 5, 6, 7, 8, 9, 10, 11, 0, 1, 2, 3] rfl rfl (by decide) (by decide) (fun u => rfl) (by decide) (fun r u H locs hw hP hD hS => ?_)
    obtain ⟨pt92, hh92, fi92, fl92, fo92, fg92, fd92, b92, hc2_o, hc2_f, rfl, rfl⟩ := hw
    have hP : va_P (gD G) vC [(qm, .inr (6, [.int (nI th), .int (nI ul), .ref xt, .int (nI pt92), .ref xh, .ref xi, .ref xl, .ref xo, .ref xg, .ref xd, .int (zB ld), .ref xs, .int (nI stt), .int (nI sts), .int (nI drw), .ref xn, .ref xb, .ref xv, .int (nI bd), .int (nI rd)])), (xt, aI G 400 tx), (xh, aI G 5 hh92), (xi, aI G 100 fi92), (xl, aI G 300 fl92), (xo, aI G 100 fo92), (xg, aI G 300 fg92), (xd, aZ G 100 fd92), (xs, aI G 5 fs), (xn, aI G 512 fx), (xb, aZ G 512 fb), (xv, aZ G 100 fv)] H := hP
    have hD : va_D A [(qm, .inr (6, [.int (nI th), .int (nI ul), .ref xt, .int (nI pt92), .ref xh, .ref xi, .ref xl, .ref xo, .ref xg, .ref xd, .int (zB ld), .ref xs, .int (nI stt), .int (nI sts), .int (nI drw), .ref xn, .ref xb, .ref xv, .int (nI bd), .int (nI rd)])), (xt, aI G 400 tx), (xh, aI G 5 hh92), (xi, aI G 100 fi92), (xl, aI G 300 fl92), (xo, aI G 100 fo92), (xg, aI G 300 fg92), (xd, aZ G 100 fd92), (xs, aI G 5 fs), (xn, aI G 512 fx), (xb, aZ G 512 fb), (xv, aZ G 100 fv)] := hD
    refine lv_if_ne (tgt := 12) hx hb dM_load_5 rfl (fun h5 => ?_) (fun h5 => ?_)
    · have h5 : b92 = true := zB_t h5
      obtain ⟨hH, hI, hL, hO, hG⟩ := hc2_f h5
      have hcO := hc2_o.mp h5
      have hlx := hcO.2.2.1
      have hb0 := hd_lt (lk tx ul) 0
      have hb1 := hd_lt (lk tx ul) 1
      have hb2 := hd_lt (lk tx ul) 2
      have hb3 := hd_lt (lk tx ul) 3
      have hb4 := hd_lt (lk tx ul) 4
      have hz0 := hH 0 (by decide)
      have hz1 := hH 1 (by decide)
      have hz2 := hH 2 (by decide)
      have hz3 := hH 3 (by decide)
      have hz4 := hH 4 (by decide)
      refine lv_aload_n hx hb dM_load_12 rfl (lv_at hl 0 rfl) ?_
      refine va_get (D := gD G) (ci := 6) (v := .ref xh) (C := "CircuitProverModel") (T := TM) (N := 20) hx hb htb inM hown hK hP 0 rfl rfl 4 (by decide) (htb _ b675) (fun _ h9 => h9) rfl dM_load_13 ?_
      refine lv_iconst (v := nI 1) hx hb dM_load_16 (by decide) ?_
      refine k_iald hx hb hK hP 2 rfl (k := 1) (by omega) (by decide) dM_load_17 ?_
      refine lv_iconst (v := nI 3) hx hb dM_load_18 (by decide) ?_
      refine lv_icmp_gt (tgt := 54) hx hb dM_load_19 rfl (fun h19 => ?_) (fun h19 => ?_)
      · have h19 : 3 < hh92 1 := (nI_ltI (a := 3) (b := hh92 1) (by omega) (by omega)).mp h19
        refine lv_iconst (v := nI 2) hx hb dM_load_54 (by decide) ?_
        refine lv_goto (tgt := 59) hx hb dM_load_55 rfl ?_
        refine va_put (D := gD G) (ci := 6) (v := .int (nI 2)) (ty := tyM 0) (C := "CircuitProverModel") (T := TM) (N := 20) hx hb htb inM tyM tyM_ok nmM hown hK hP hD hS 0 rfl rfl 0 (by decide) (htb _ b671) (fun _ h9 => h9) rfl (tyM_ok 0 (by decide)) rfl rfl (Nat.le_of_ble_eq_true rfl) dM_load_59 (fun H locs hP hD hS => ?_)
        have hP : va_P (gD G) vC [(qm, .inr (6, [.int (nI 2), .int (nI ul), .ref xt, .int (nI pt92), .ref xh, .ref xi, .ref xl, .ref xo, .ref xg, .ref xd, .int (zB ld), .ref xs, .int (nI stt), .int (nI sts), .int (nI drw), .ref xn, .ref xb, .ref xv, .int (nI bd), .int (nI rd)])), (xt, aI G 400 tx), (xh, aI G 5 hh92), (xi, aI G 100 fi92), (xl, aI G 300 fl92), (xo, aI G 100 fo92), (xg, aI G 300 fg92), (xd, aZ G 100 fd92), (xs, aI G 5 fs), (xn, aI G 512 fx), (xb, aZ G 512 fb), (xv, aZ G 100 fv)] H := hP
        have hD : va_D A [(qm, .inr (6, [.int (nI 2), .int (nI ul), .ref xt, .int (nI pt92), .ref xh, .ref xi, .ref xl, .ref xo, .ref xg, .ref xd, .int (zB ld), .ref xs, .int (nI stt), .int (nI sts), .int (nI drw), .ref xn, .ref xb, .ref xv, .int (nI bd), .int (nI rd)])), (xt, aI G 400 tx), (xh, aI G 5 hh92), (xi, aI G 100 fi92), (xl, aI G 300 fl92), (xo, aI G 100 fo92), (xg, aI G 300 fg92), (xd, aZ G 100 fd92), (xs, aI G 5 fs), (xn, aI G 512 fx), (xb, aZ G 512 fb), (xv, aZ G 100 fv)] := hD
        refine lv_aload_n hx hb dM_load_62 rfl (lv_at hl 0 rfl) ?_
        refine va_get (D := gD G) (ci := 6) (v := .int (nI 2)) (C := "CircuitProverModel") (T := TM) (N := 20) hx hb htb inM hown hK hP 0 rfl rfl 0 (by decide) (htb _ b671) (fun _ h9 => h9) rfl dM_load_63 ?_
        refine lv_if_le (tgt := 71) hx hb dM_load_66 rfl (fun h66 => (by revert h66; first | decide | exact fun z => absurd z (by decide) | exact fun z => z.elim (by decide))) (fun _ => ?_)
        refine lv_iconst (v := nI 0) hx hb dM_load_69 (by decide) ?_
        -- end 0
        rw [← hQ]
        exact k_iret hx hb hr hlocks rfl (u := (2, ul, pt92, ld, stt, sts, drw, hh92, fi92, fl92, fo92, fg92, fd92, fs, fx, fb, fv)) (Or.inr (Or.inl ⟨_, _, _, _, _, _, _, ⟨hcO, fun q => by have := q.1; omega⟩, rfl, rfl⟩)) hP hD hK hS dM_load_70
      · have h19 : hh92 1 ≤ 3 := Nat.le_of_not_lt (fun z => h19 ((nI_ltI (a := 3) (b := hh92 1) (by omega) (by omega)).mpr z))
        refine lv_aload_n hx hb dM_load_22 rfl (lv_at hl 0 rfl) ?_
        refine va_get (D := gD G) (ci := 6) (v := .ref xh) (C := "CircuitProverModel") (T := TM) (N := 20) hx hb htb inM hown hK hP 0 rfl rfl 4 (by decide) (htb _ b675) (fun _ h9 => h9) rfl dM_load_23 ?_
        refine lv_iconst (v := nI 2) hx hb dM_load_26 (by decide) ?_
        refine k_iald hx hb hK hP 2 rfl (k := 2) (by omega) (by decide) dM_load_27 ?_
        refine lv_bipush (v := nI 6) hx hb dM_load_28 (by decide) ?_
        refine lv_icmp_gt (tgt := 54) hx hb dM_load_30 rfl (fun h30 => ?_) (fun h30 => ?_)
        · have h30 : 6 < hh92 2 := (nI_ltI (a := 6) (b := hh92 2) (by omega) (by omega)).mp h30
          refine lv_iconst (v := nI 2) hx hb dM_load_54 (by decide) ?_
          refine lv_goto (tgt := 59) hx hb dM_load_55 rfl ?_
          refine va_put (D := gD G) (ci := 6) (v := .int (nI 2)) (ty := tyM 0) (C := "CircuitProverModel") (T := TM) (N := 20) hx hb htb inM tyM tyM_ok nmM hown hK hP hD hS 0 rfl rfl 0 (by decide) (htb _ b671) (fun _ h9 => h9) rfl (tyM_ok 0 (by decide)) rfl rfl (Nat.le_of_ble_eq_true rfl) dM_load_59 (fun H locs hP hD hS => ?_)
          have hP : va_P (gD G) vC [(qm, .inr (6, [.int (nI 2), .int (nI ul), .ref xt, .int (nI pt92), .ref xh, .ref xi, .ref xl, .ref xo, .ref xg, .ref xd, .int (zB ld), .ref xs, .int (nI stt), .int (nI sts), .int (nI drw), .ref xn, .ref xb, .ref xv, .int (nI bd), .int (nI rd)])), (xt, aI G 400 tx), (xh, aI G 5 hh92), (xi, aI G 100 fi92), (xl, aI G 300 fl92), (xo, aI G 100 fo92), (xg, aI G 300 fg92), (xd, aZ G 100 fd92), (xs, aI G 5 fs), (xn, aI G 512 fx), (xb, aZ G 512 fb), (xv, aZ G 100 fv)] H := hP
          have hD : va_D A [(qm, .inr (6, [.int (nI 2), .int (nI ul), .ref xt, .int (nI pt92), .ref xh, .ref xi, .ref xl, .ref xo, .ref xg, .ref xd, .int (zB ld), .ref xs, .int (nI stt), .int (nI sts), .int (nI drw), .ref xn, .ref xb, .ref xv, .int (nI bd), .int (nI rd)])), (xt, aI G 400 tx), (xh, aI G 5 hh92), (xi, aI G 100 fi92), (xl, aI G 300 fl92), (xo, aI G 100 fo92), (xg, aI G 300 fg92), (xd, aZ G 100 fd92), (xs, aI G 5 fs), (xn, aI G 512 fx), (xb, aZ G 512 fb), (xv, aZ G 100 fv)] := hD
          refine lv_aload_n hx hb dM_load_62 rfl (lv_at hl 0 rfl) ?_
          refine va_get (D := gD G) (ci := 6) (v := .int (nI 2)) (C := "CircuitProverModel") (T := TM) (N := 20) hx hb htb inM hown hK hP 0 rfl rfl 0 (by decide) (htb _ b671) (fun _ h9 => h9) rfl dM_load_63 ?_
          refine lv_if_le (tgt := 71) hx hb dM_load_66 rfl (fun h66 => (by revert h66; first | decide | exact fun z => absurd z (by decide) | exact fun z => z.elim (by decide))) (fun _ => ?_)
          refine lv_iconst (v := nI 0) hx hb dM_load_69 (by decide) ?_
          -- end 1
          rw [← hQ]
          exact k_iret hx hb hr hlocks rfl (u := (2, ul, pt92, ld, stt, sts, drw, hh92, fi92, fl92, fo92, fg92, fd92, fs, fx, fb, fv)) (Or.inr (Or.inl ⟨_, _, _, _, _, _, _, ⟨hcO, fun q => by have := q.2.1; omega⟩, rfl, rfl⟩)) hP hD hK hS dM_load_70
        · have h30 : hh92 2 ≤ 6 := Nat.le_of_not_lt (fun z => h30 ((nI_ltI (a := 6) (b := hh92 2) (by omega) (by omega)).mpr z))
          refine lv_aload_n hx hb dM_load_33 rfl (lv_at hl 0 rfl) ?_
          refine va_get (D := gD G) (ci := 6) (v := .ref xh) (C := "CircuitProverModel") (T := TM) (N := 20) hx hb htb inM hown hK hP 0 rfl rfl 4 (by decide) (htb _ b675) (fun _ h9 => h9) rfl dM_load_34 ?_
          refine lv_iconst (v := nI 3) hx hb dM_load_37 (by decide) ?_
          refine k_iald hx hb hK hP 2 rfl (k := 3) (by omega) (by decide) dM_load_38 ?_
          refine lv_iconst (v := nI 1) hx hb dM_load_39 (by decide) ?_
          refine lv_icmp_ne (tgt := 54) hx hb dM_load_40 rfl (fun h40 => ?_) (fun h40 => ?_)
          · have h40 : ¬ hh92 3 = 1 := fun z => h40 ((nI_eq (a := hh92 3) (b := 1) (by omega) (by omega)).mpr z)
            refine lv_iconst (v := nI 2) hx hb dM_load_54 (by decide) ?_
            refine lv_goto (tgt := 59) hx hb dM_load_55 rfl ?_
            refine va_put (D := gD G) (ci := 6) (v := .int (nI 2)) (ty := tyM 0) (C := "CircuitProverModel") (T := TM) (N := 20) hx hb htb inM tyM tyM_ok nmM hown hK hP hD hS 0 rfl rfl 0 (by decide) (htb _ b671) (fun _ h9 => h9) rfl (tyM_ok 0 (by decide)) rfl rfl (Nat.le_of_ble_eq_true rfl) dM_load_59 (fun H locs hP hD hS => ?_)
            have hP : va_P (gD G) vC [(qm, .inr (6, [.int (nI 2), .int (nI ul), .ref xt, .int (nI pt92), .ref xh, .ref xi, .ref xl, .ref xo, .ref xg, .ref xd, .int (zB ld), .ref xs, .int (nI stt), .int (nI sts), .int (nI drw), .ref xn, .ref xb, .ref xv, .int (nI bd), .int (nI rd)])), (xt, aI G 400 tx), (xh, aI G 5 hh92), (xi, aI G 100 fi92), (xl, aI G 300 fl92), (xo, aI G 100 fo92), (xg, aI G 300 fg92), (xd, aZ G 100 fd92), (xs, aI G 5 fs), (xn, aI G 512 fx), (xb, aZ G 512 fb), (xv, aZ G 100 fv)] H := hP
            have hD : va_D A [(qm, .inr (6, [.int (nI 2), .int (nI ul), .ref xt, .int (nI pt92), .ref xh, .ref xi, .ref xl, .ref xo, .ref xg, .ref xd, .int (zB ld), .ref xs, .int (nI stt), .int (nI sts), .int (nI drw), .ref xn, .ref xb, .ref xv, .int (nI bd), .int (nI rd)])), (xt, aI G 400 tx), (xh, aI G 5 hh92), (xi, aI G 100 fi92), (xl, aI G 300 fl92), (xo, aI G 100 fo92), (xg, aI G 300 fg92), (xd, aZ G 100 fd92), (xs, aI G 5 fs), (xn, aI G 512 fx), (xb, aZ G 512 fb), (xv, aZ G 100 fv)] := hD
            refine lv_aload_n hx hb dM_load_62 rfl (lv_at hl 0 rfl) ?_
            refine va_get (D := gD G) (ci := 6) (v := .int (nI 2)) (C := "CircuitProverModel") (T := TM) (N := 20) hx hb htb inM hown hK hP 0 rfl rfl 0 (by decide) (htb _ b671) (fun _ h9 => h9) rfl dM_load_63 ?_
            refine lv_if_le (tgt := 71) hx hb dM_load_66 rfl (fun h66 => (by revert h66; first | decide | exact fun z => absurd z (by decide) | exact fun z => z.elim (by decide))) (fun _ => ?_)
            refine lv_iconst (v := nI 0) hx hb dM_load_69 (by decide) ?_
            -- end 2
            rw [← hQ]
            exact k_iret hx hb hr hlocks rfl (u := (2, ul, pt92, ld, stt, sts, drw, hh92, fi92, fl92, fo92, fg92, fd92, fs, fx, fb, fv)) (Or.inr (Or.inl ⟨_, _, _, _, _, _, _, ⟨hcO, fun q => by have := q.2.2.1; omega⟩, rfl, rfl⟩)) hP hD hK hS dM_load_70
          · have h40 : hh92 3 = 1 := (nI_eq (a := hh92 3) (b := 1) (by omega) (by omega)).mp h40
            refine lv_aload_n hx hb dM_load_43 rfl (lv_at hl 0 rfl) ?_
            refine va_get (D := gD G) (ci := 6) (v := .ref xh) (C := "CircuitProverModel") (T := TM) (N := 20) hx hb htb inM hown hK hP 0 rfl rfl 4 (by decide) (htb _ b675) (fun _ h9 => h9) rfl dM_load_44 ?_
            refine lv_iconst (v := nI 4) hx hb dM_load_47 (by decide) ?_
            refine k_iald hx hb hK hP 2 rfl (k := 4) (by omega) (by decide) dM_load_48 ?_
            refine lv_bipush (v := nI 20) hx hb dM_load_49 (by decide) ?_
            refine lv_icmp_le (tgt := 58) hx hb dM_load_51 rfl (fun h51 => ?_) (fun h51 => ?_)
            · have h51 : hh92 4 ≤ 20 := (nI_leI (a := hh92 4) (b := 20) (by omega) (by omega)).mp h51
              refine lv_iconst (v := nI 0) hx hb dM_load_58 (by decide) ?_
              refine va_put (D := gD G) (ci := 6) (v := .int (nI 0)) (ty := tyM 0) (C := "CircuitProverModel") (T := TM) (N := 20) hx hb htb inM tyM tyM_ok nmM hown hK hP hD hS 0 rfl rfl 0 (by decide) (htb _ b671) (fun _ h9 => h9) rfl (tyM_ok 0 (by decide)) rfl rfl (Nat.le_of_ble_eq_true rfl) dM_load_59 (fun H locs hP hD hS => ?_)
              have hP : va_P (gD G) vC [(qm, .inr (6, [.int (nI 0), .int (nI ul), .ref xt, .int (nI pt92), .ref xh, .ref xi, .ref xl, .ref xo, .ref xg, .ref xd, .int (zB ld), .ref xs, .int (nI stt), .int (nI sts), .int (nI drw), .ref xn, .ref xb, .ref xv, .int (nI bd), .int (nI rd)])), (xt, aI G 400 tx), (xh, aI G 5 hh92), (xi, aI G 100 fi92), (xl, aI G 300 fl92), (xo, aI G 100 fo92), (xg, aI G 300 fg92), (xd, aZ G 100 fd92), (xs, aI G 5 fs), (xn, aI G 512 fx), (xb, aZ G 512 fb), (xv, aZ G 100 fv)] H := hP
              have hD : va_D A [(qm, .inr (6, [.int (nI 0), .int (nI ul), .ref xt, .int (nI pt92), .ref xh, .ref xi, .ref xl, .ref xo, .ref xg, .ref xd, .int (zB ld), .ref xs, .int (nI stt), .int (nI sts), .int (nI drw), .ref xn, .ref xb, .ref xv, .int (nI bd), .int (nI rd)])), (xt, aI G 400 tx), (xh, aI G 5 hh92), (xi, aI G 100 fi92), (xl, aI G 300 fl92), (xo, aI G 100 fo92), (xg, aI G 300 fg92), (xd, aZ G 100 fd92), (xs, aI G 5 fs), (xn, aI G 512 fx), (xb, aZ G 512 fb), (xv, aZ G 100 fv)] := hD
              refine lv_aload_n hx hb dM_load_62 rfl (lv_at hl 0 rfl) ?_
              refine va_get (D := gD G) (ci := 6) (v := .int (nI 0)) (C := "CircuitProverModel") (T := TM) (N := 20) hx hb htb inM hown hK hP 0 rfl rfl 0 (by decide) (htb _ b671) (fun _ h9 => h9) rfl dM_load_63 ?_
              refine lv_if_le (tgt := 71) hx hb dM_load_66 rfl (fun _ => ?_) (fun h66 => (by revert h66; first | decide | exact fun z => absurd z (by decide) | exact fun z => z.elim (by decide)))
              have hsm : small (lk tx ul) := ⟨by omega, by omega, by omega, by omega⟩
              have p2 := p2_le hsm.2.1
              have p1 := p1_le hsm.1
              have z2 := Nat.two_pow_pos (hd (lk tx ul) 2)
              have z1 := Nat.two_pow_pos (hd (lk tx ul) 1)
              have yo := xou_lt (lk tx ul) 0
              have hsL := hsm.2.1
              have hsI := hsm.1
              have hmo : mOK (lk tx ul) (xou (lk tx ul) 0) := hcO.2.2.2.2.2.1 0 (by have := hsm.2.2.1; omega)
              refine lv_iconst (v := nI 0) hx hb dM_load_71 (by decide) ?_
              refine lv_istore_n (lv' := [(1, .int (nI 0)), (0, .ref qm)]) hx hb dM_load_72 rfl hl (by decide) rfl (fun ls hl => ?_)
              have loop73 : ∀ (n : Nat) (kA : Nat) (sA : Nat → Nat) (H : Heap) (locs : List Loc) (ls : Array Slot), 5 - kA < n → (kA ≤ 5) → (∀ c, c < kA → sA c = hh92 c) → va_P (gD G) vC [(qm, .inr (6, [.int (nI 0), .int (nI ul), .ref xt, .int (nI pt92), .ref xh, .ref xi, .ref xl, .ref xo, .ref xg, .ref xd, .int (zB ld), .ref xs, .int (nI stt), .int (nI sts), .int (nI drw), .ref xn, .ref xb, .ref xv, .int (nI bd), .int (nI rd)])), (xt, aI G 400 tx), (xh, aI G 5 hh92), (xi, aI G 100 fi92), (xl, aI G 300 fl92), (xo, aI G 100 fo92), (xg, aI G 300 fg92), (xd, aZ G 100 fd92), (xs, aI G 5 sA), (xn, aI G 512 fx), (xb, aZ G 512 fb), (xv, aZ G 100 fv)] H → va_D A [(qm, .inr (6, [.int (nI 0), .int (nI ul), .ref xt, .int (nI pt92), .ref xh, .ref xi, .ref xl, .ref xo, .ref xg, .ref xd, .int (zB ld), .ref xs, .int (nI stt), .int (nI sts), .int (nI drw), .ref xn, .ref xb, .ref xv, .int (nI bd), .int (nI rd)])), (xt, aI G 400 tx), (xh, aI G 5 hh92), (xi, aI G 100 fi92), (xl, aI G 300 fl92), (xo, aI G 100 fo92), (xg, aI G 300 fg92), (xd, aZ G 100 fd92), (xs, aI G 5 sA), (xn, aI G 512 fx), (xb, aZ G 512 fb), (xv, aZ G 100 fv)] → va_S A s.heap H locs → lv_has ls 6 [(0, .ref qm), (1, .int (nI kA))] → W p l e R s m args below meth c H locs 0 0 Q (F0 m 73 ls []) := by
                intro n
                induction n with
                | zero => intro kA sA H locs ls hmu; omega
                | succ n ih =>
                  intro kA sA H locs ls hmu hkA hsA hP hD hS hl
                  have ih73 := ih
                  clear ih
                  refine lv_iload_n hx hb dM_load_73 rfl (lv_at hl 1 rfl) ?_
                  refine lv_iconst (v := nI 5) hx hb dM_load_74 (by decide) ?_
                  refine lv_icmp_ge (tgt := 96) hx hb dM_load_75 rfl (fun h75 => ?_) (fun h75 => ?_)
                  · have h75 : 5 ≤ kA := (nI_leI (a := 5) (b := kA) (by omega) (by omega)).mp h75
                    refine lv_aload_n hx hb dM_load_96 rfl (lv_at hl 0 rfl) ?_
                    refine lv_iconst (v := nI 1) hx hb dM_load_97 (by decide) ?_
                    refine lv_aload_n hx hb dM_load_98 rfl (lv_at hl 0 rfl) ?_
                    refine va_get (D := gD G) (ci := 6) (v := .ref xh) (C := "CircuitProverModel") (T := TM) (N := 20) hx hb htb inM hown hK hP 0 rfl rfl 4 (by decide) (htb _ b675) (fun _ h9 => h9) rfl dM_load_99 ?_
                    refine lv_iconst (v := nI 2) hx hb dM_load_102 (by decide) ?_
                    refine k_iald hx hb hK hP 2 rfl (k := 2) (by omega) (by decide) dM_load_103 ?_
                    refine lv_ishl hx hb dM_load_104 ?_
                    refine k_toi (y := nI (2 ^ (hh92 2))) (sh1 (by omega)) ?_
                    refine k_toi (y := nI (2 ^ hd (lk tx ul) 2)) (by rw [hz2]) ?_
                    refine va_put (D := gD G) (ci := 6) (v := .int (nI (2 ^ hd (lk tx ul) 2))) (ty := tyM 13) (C := "CircuitProverModel") (T := TM) (N := 20) hx hb htb inM tyM tyM_ok nmM hown hK hP hD hS 0 rfl rfl 13 (by decide) (htb _ b684) (fun _ h9 => h9) rfl (tyM_ok 13 (by decide)) rfl rfl (Nat.le_of_ble_eq_true rfl) dM_load_105 (fun H locs hP hD hS => ?_)
                    have hP : va_P (gD G) vC [(qm, .inr (6, [.int (nI 0), .int (nI ul), .ref xt, .int (nI pt92), .ref xh, .ref xi, .ref xl, .ref xo, .ref xg, .ref xd, .int (zB ld), .ref xs, .int (nI stt), .int (nI (2 ^ hd (lk tx ul) 2)), .int (nI drw), .ref xn, .ref xb, .ref xv, .int (nI bd), .int (nI rd)])), (xt, aI G 400 tx), (xh, aI G 5 hh92), (xi, aI G 100 fi92), (xl, aI G 300 fl92), (xo, aI G 100 fo92), (xg, aI G 300 fg92), (xd, aZ G 100 fd92), (xs, aI G 5 sA), (xn, aI G 512 fx), (xb, aZ G 512 fb), (xv, aZ G 100 fv)] H := hP
                    have hD : va_D A [(qm, .inr (6, [.int (nI 0), .int (nI ul), .ref xt, .int (nI pt92), .ref xh, .ref xi, .ref xl, .ref xo, .ref xg, .ref xd, .int (zB ld), .ref xs, .int (nI stt), .int (nI (2 ^ hd (lk tx ul) 2)), .int (nI drw), .ref xn, .ref xb, .ref xv, .int (nI bd), .int (nI rd)])), (xt, aI G 400 tx), (xh, aI G 5 hh92), (xi, aI G 100 fi92), (xl, aI G 300 fl92), (xo, aI G 100 fo92), (xg, aI G 300 fg92), (xd, aZ G 100 fd92), (xs, aI G 5 sA), (xn, aI G 512 fx), (xb, aZ G 512 fb), (xv, aZ G 100 fv)] := hD
                    refine lv_aload_n hx hb dM_load_108 rfl (lv_at hl 0 rfl) ?_
                    refine lv_iconst (v := nI 1) hx hb dM_load_109 (by decide) ?_
                    refine lv_aload_n hx hb dM_load_110 rfl (lv_at hl 0 rfl) ?_
                    refine va_get (D := gD G) (ci := 6) (v := .ref xh) (C := "CircuitProverModel") (T := TM) (N := 20) hx hb htb inM hown hK hP 0 rfl rfl 4 (by decide) (htb _ b675) (fun _ h9 => h9) rfl dM_load_111 ?_
                    refine lv_iconst (v := nI 1) hx hb dM_load_114 (by decide) ?_
                    refine k_iald hx hb hK hP 2 rfl (k := 1) (by omega) (by decide) dM_load_115 ?_
                    refine lv_ishl hx hb dM_load_116 ?_
                    refine k_toi (y := nI (2 ^ (hh92 1))) (sh1 (by omega)) ?_
                    refine k_toi (y := nI (2 ^ hd (lk tx ul) 1)) (by rw [hz1]) ?_
                    refine va_put (D := gD G) (ci := 6) (v := .int (nI (2 ^ hd (lk tx ul) 1))) (ty := tyM 14) (C := "CircuitProverModel") (T := TM) (N := 20) hx hb htb inM tyM tyM_ok nmM hown hK hP hD hS 0 rfl rfl 14 (by decide) (htb _ b685) (fun _ h9 => h9) rfl (tyM_ok 14 (by decide)) rfl rfl (Nat.le_of_ble_eq_true rfl) dM_load_117 (fun H locs hP hD hS => ?_)
                    have hP : va_P (gD G) vC [(qm, .inr (6, [.int (nI 0), .int (nI ul), .ref xt, .int (nI pt92), .ref xh, .ref xi, .ref xl, .ref xo, .ref xg, .ref xd, .int (zB ld), .ref xs, .int (nI stt), .int (nI (2 ^ hd (lk tx ul) 2)), .int (nI (2 ^ hd (lk tx ul) 1)), .ref xn, .ref xb, .ref xv, .int (nI bd), .int (nI rd)])), (xt, aI G 400 tx), (xh, aI G 5 hh92), (xi, aI G 100 fi92), (xl, aI G 300 fl92), (xo, aI G 100 fo92), (xg, aI G 300 fg92), (xd, aZ G 100 fd92), (xs, aI G 5 sA), (xn, aI G 512 fx), (xb, aZ G 512 fb), (xv, aZ G 100 fv)] H := hP
                    have hD : va_D A [(qm, .inr (6, [.int (nI 0), .int (nI ul), .ref xt, .int (nI pt92), .ref xh, .ref xi, .ref xl, .ref xo, .ref xg, .ref xd, .int (zB ld), .ref xs, .int (nI stt), .int (nI (2 ^ hd (lk tx ul) 2)), .int (nI (2 ^ hd (lk tx ul) 1)), .ref xn, .ref xb, .ref xv, .int (nI bd), .int (nI rd)])), (xt, aI G 400 tx), (xh, aI G 5 hh92), (xi, aI G 100 fi92), (xl, aI G 300 fl92), (xo, aI G 100 fo92), (xg, aI G 300 fg92), (xd, aZ G 100 fd92), (xs, aI G 5 sA), (xn, aI G 512 fx), (xb, aZ G 512 fb), (xv, aZ G 100 fv)] := hD
                    refine lv_aload_n hx hb dM_load_120 rfl (lv_at hl 0 rfl) ?_
                    refine lv_iconst (v := nI 0) hx hb dM_load_121 (by decide) ?_
                    refine va_put (D := gD G) (ci := 6) (v := .int (nI 0)) (ty := tyM 12) (C := "CircuitProverModel") (T := TM) (N := 20) hx hb htb inM tyM tyM_ok nmM hown hK hP hD hS 0 rfl rfl 12 (by decide) (htb _ b683) (fun _ h9 => h9) rfl (tyM_ok 12 (by decide)) rfl rfl (Nat.le_of_ble_eq_true rfl) dM_load_122 (fun H locs hP hD hS => ?_)
                    have hP : va_P (gD G) vC [(qm, .inr (6, [.int (nI 0), .int (nI ul), .ref xt, .int (nI pt92), .ref xh, .ref xi, .ref xl, .ref xo, .ref xg, .ref xd, .int (zB ld), .ref xs, .int (nI 0), .int (nI (2 ^ hd (lk tx ul) 2)), .int (nI (2 ^ hd (lk tx ul) 1)), .ref xn, .ref xb, .ref xv, .int (nI bd), .int (nI rd)])), (xt, aI G 400 tx), (xh, aI G 5 hh92), (xi, aI G 100 fi92), (xl, aI G 300 fl92), (xo, aI G 100 fo92), (xg, aI G 300 fg92), (xd, aZ G 100 fd92), (xs, aI G 5 sA), (xn, aI G 512 fx), (xb, aZ G 512 fb), (xv, aZ G 100 fv)] H := hP
                    have hD : va_D A [(qm, .inr (6, [.int (nI 0), .int (nI ul), .ref xt, .int (nI pt92), .ref xh, .ref xi, .ref xl, .ref xo, .ref xg, .ref xd, .int (zB ld), .ref xs, .int (nI 0), .int (nI (2 ^ hd (lk tx ul) 2)), .int (nI (2 ^ hd (lk tx ul) 1)), .ref xn, .ref xb, .ref xv, .int (nI bd), .int (nI rd)])), (xt, aI G 400 tx), (xh, aI G 5 hh92), (xi, aI G 100 fi92), (xl, aI G 300 fl92), (xo, aI G 100 fo92), (xg, aI G 300 fg92), (xd, aZ G 100 fd92), (xs, aI G 5 sA), (xn, aI G 512 fx), (xb, aZ G 512 fb), (xv, aZ G 100 fv)] := hD
                    refine lv_iconst (v := nI 0) hx hb dM_load_125 (by decide) ?_
                    refine lv_istore_n (lv' := [(1, .int (nI 0)), (0, .ref qm)]) hx hb dM_load_126 rfl hl (by decide) rfl (fun ls hl => ?_)
                    have loop127 : ∀ (n : Nat) (kB : Nat) (tB : Nat) (H : Heap) (locs : List Loc) (ls : Array Slot), hd (lk tx ul) 2 - kB < n → (kB ≤ hd (lk tx ul) 2) → (tB = stB (lk tx ul) kB) → va_P (gD G) vC [(qm, .inr (6, [.int (nI 0), .int (nI ul), .ref xt, .int (nI pt92), .ref xh, .ref xi, .ref xl, .ref xo, .ref xg, .ref xd, .int (zB ld), .ref xs, .int (nI tB), .int (nI (2 ^ hd (lk tx ul) 2)), .int (nI (2 ^ hd (lk tx ul) 1)), .ref xn, .ref xb, .ref xv, .int (nI bd), .int (nI rd)])), (xt, aI G 400 tx), (xh, aI G 5 hh92), (xi, aI G 100 fi92), (xl, aI G 300 fl92), (xo, aI G 100 fo92), (xg, aI G 300 fg92), (xd, aZ G 100 fd92), (xs, aI G 5 sA), (xn, aI G 512 fx), (xb, aZ G 512 fb), (xv, aZ G 100 fv)] H → va_D A [(qm, .inr (6, [.int (nI 0), .int (nI ul), .ref xt, .int (nI pt92), .ref xh, .ref xi, .ref xl, .ref xo, .ref xg, .ref xd, .int (zB ld), .ref xs, .int (nI tB), .int (nI (2 ^ hd (lk tx ul) 2)), .int (nI (2 ^ hd (lk tx ul) 1)), .ref xn, .ref xb, .ref xv, .int (nI bd), .int (nI rd)])), (xt, aI G 400 tx), (xh, aI G 5 hh92), (xi, aI G 100 fi92), (xl, aI G 300 fl92), (xo, aI G 100 fo92), (xg, aI G 300 fg92), (xd, aZ G 100 fd92), (xs, aI G 5 sA), (xn, aI G 512 fx), (xb, aZ G 512 fb), (xv, aZ G 100 fv)] → va_S A s.heap H locs → lv_has ls 6 [(0, .ref qm), (1, .int (nI kB))] → W p l e R s m args below meth c H locs 0 0 Q (F0 m 127 ls []) := by
                      intro n
                      induction n with
                      | zero => intro kB tB H locs ls hmu; omega
                      | succ n ih =>
                        intro kB tB H locs ls hmu hkB htB hP hD hS hl
                        have ih127 := ih
                        clear ih
                        refine lv_iload_n hx hb dM_load_127 rfl (lv_at hl 1 rfl) ?_
                        refine lv_aload_n hx hb dM_load_128 rfl (lv_at hl 0 rfl) ?_
                        refine va_get (D := gD G) (ci := 6) (v := .ref xh) (C := "CircuitProverModel") (T := TM) (N := 20) hx hb htb inM hown hK hP 0 rfl rfl 4 (by decide) (htb _ b675) (fun _ h9 => h9) rfl dM_load_129 ?_
                        refine lv_iconst (v := nI 2) hx hb dM_load_132 (by decide) ?_
                        refine k_iald hx hb hK hP 2 rfl (k := 2) (by omega) (by decide) dM_load_133 ?_
                        refine lv_icmp_ge (tgt := 164) hx hb dM_load_134 rfl (fun h134 => ?_) (fun h134 => ?_)
                        · have h134 : hh92 2 ≤ kB := (nI_leI (a := hh92 2) (b := kB) (by omega) (by omega)).mp h134
                          refine lv_iconst (v := nI 0) hx hb dM_load_164 (by decide) ?_
                          refine lv_istore_n (lv' := [(1, .int (nI 0)), (0, .ref qm)]) hx hb dM_load_165 rfl hl (by decide) rfl (fun ls hl => ?_)
                          have loop166 : ∀ (n : Nat) (sC : Nat) (xC : Nat → Nat) (bC : Nat → Bool) (wC : Nat → Bool) (H : Heap) (locs : List Loc) (ls : Array Slot), (2 ^ hd (lk tx ul) 2) - sC < n → (sC ≤ (2 ^ hd (lk tx ul) 2)) → (∀ a b, a < sC → b < (2 ^ hd (lk tx ul) 1) → xC (8 * a + b) = nxT (lk tx ul) a b) → (∀ a b, a < sC → b < (2 ^ hd (lk tx ul) 1) → bC (8 * a + b) = bdT (lk tx ul) a b) → va_P (gD G) vC [(qm, .inr (6, [.int (nI 0), .int (nI ul), .ref xt, .int (nI pt92), .ref xh, .ref xi, .ref xl, .ref xo, .ref xg, .ref xd, .int (zB ld), .ref xs, .int (nI tB), .int (nI (2 ^ hd (lk tx ul) 2)), .int (nI (2 ^ hd (lk tx ul) 1)), .ref xn, .ref xb, .ref xv, .int (nI bd), .int (nI rd)])), (xt, aI G 400 tx), (xh, aI G 5 hh92), (xi, aI G 100 fi92), (xl, aI G 300 fl92), (xo, aI G 100 fo92), (xg, aI G 300 fg92), (xd, aZ G 100 fd92), (xs, aI G 5 sA), (xn, aI G 512 xC), (xb, aZ G 512 bC), (xv, aZ G 100 wC)] H → va_D A [(qm, .inr (6, [.int (nI 0), .int (nI ul), .ref xt, .int (nI pt92), .ref xh, .ref xi, .ref xl, .ref xo, .ref xg, .ref xd, .int (zB ld), .ref xs, .int (nI tB), .int (nI (2 ^ hd (lk tx ul) 2)), .int (nI (2 ^ hd (lk tx ul) 1)), .ref xn, .ref xb, .ref xv, .int (nI bd), .int (nI rd)])), (xt, aI G 400 tx), (xh, aI G 5 hh92), (xi, aI G 100 fi92), (xl, aI G 300 fl92), (xo, aI G 100 fo92), (xg, aI G 300 fg92), (xd, aZ G 100 fd92), (xs, aI G 5 sA), (xn, aI G 512 xC), (xb, aZ G 512 bC), (xv, aZ G 100 wC)] → va_S A s.heap H locs → lv_has ls 6 [(0, .ref qm), (1, .int (nI sC))] → W p l e R s m args below meth c H locs 0 0 Q (F0 m 166 ls []) := by
                            intro n
                            induction n with
                            | zero => intro sC xC bC wC H locs ls hmu; omega
                            | succ n ih =>
                              intro sC xC bC wC H locs ls hmu hkC hxC hbC hP hD hS hl
                              have ih166 := ih
                              clear ih
                              refine lv_iload_n hx hb dM_load_166 rfl (lv_at hl 1 rfl) ?_
                              refine lv_aload_n hx hb dM_load_167 rfl (lv_at hl 0 rfl) ?_
                              refine va_get (D := gD G) (ci := 6) (v := .int (nI (2 ^ hd (lk tx ul) 2))) (C := "CircuitProverModel") (T := TM) (N := 20) hx hb htb inM hown hK hP 0 rfl rfl 13 (by decide) (htb _ b684) (fun _ h9 => h9) rfl dM_load_168 ?_
                              refine lv_icmp_ge (tgt := 290) hx hb dM_load_171 rfl (fun h171 => ?_) (fun h171 => ?_)
                              · have h171 : 2 ^ hd (lk tx ul) 2 ≤ sC := (nI_leI (a := 2 ^ hd (lk tx ul) 2) (b := sC) (by omega) (by omega)).mp h171
                                refine lv_aload_n hx hb dM_load_290 rfl (lv_at hl 0 rfl) ?_
                                refine lv_iconst (v := nI 1) hx hb dM_load_291 (by decide) ?_
                                refine k_toi (y := zB true) (by decide) ?_
                                refine va_put (D := gD G) (ci := 6) (v := .int (zB true)) (ty := tyM 10) (C := "CircuitProverModel") (T := TM) (N := 20) hx hb htb inM tyM tyM_ok nmM hown hK hP hD hS 0 rfl rfl 10 (by decide) (htb _ b681) (fun _ h9 => h9) rfl (tyM_ok 10 (by decide)) (nar_zV _) (fit_zV _) (Nat.le_of_ble_eq_true rfl) dM_load_292 (fun H locs hP hD hS => ?_)
                                have hP : va_P (gD G) vC [(qm, .inr (6, [.int (nI 0), .int (nI ul), .ref xt, .int (nI pt92), .ref xh, .ref xi, .ref xl, .ref xo, .ref xg, .ref xd, .int (zB true), .ref xs, .int (nI tB), .int (nI (2 ^ hd (lk tx ul) 2)), .int (nI (2 ^ hd (lk tx ul) 1)), .ref xn, .ref xb, .ref xv, .int (nI bd), .int (nI rd)])), (xt, aI G 400 tx), (xh, aI G 5 hh92), (xi, aI G 100 fi92), (xl, aI G 300 fl92), (xo, aI G 100 fo92), (xg, aI G 300 fg92), (xd, aZ G 100 fd92), (xs, aI G 5 sA), (xn, aI G 512 xC), (xb, aZ G 512 bC), (xv, aZ G 100 wC)] H := hP
                                have hD : va_D A [(qm, .inr (6, [.int (nI 0), .int (nI ul), .ref xt, .int (nI pt92), .ref xh, .ref xi, .ref xl, .ref xo, .ref xg, .ref xd, .int (zB true), .ref xs, .int (nI tB), .int (nI (2 ^ hd (lk tx ul) 2)), .int (nI (2 ^ hd (lk tx ul) 1)), .ref xn, .ref xb, .ref xv, .int (nI bd), .int (nI rd)])), (xt, aI G 400 tx), (xh, aI G 5 hh92), (xi, aI G 100 fi92), (xl, aI G 300 fl92), (xo, aI G 100 fo92), (xg, aI G 300 fg92), (xd, aZ G 100 fd92), (xs, aI G 5 sA), (xn, aI G 512 xC), (xb, aZ G 512 bC), (xv, aZ G 100 wC)] := hD
                                refine lv_aload_n hx hb dM_load_295 rfl (lv_at hl 0 rfl) ?_
                                refine lv_iconst (v := nI 0) hx hb dM_load_296 (by decide) ?_
                                refine va_put (D := gD G) (ci := 6) (v := .int (nI 0)) (ty := tyM 1) (C := "CircuitProverModel") (T := TM) (N := 20) hx hb htb inM tyM tyM_ok nmM hown hK hP hD hS 0 rfl rfl 1 (by decide) (htb _ b672) (fun _ h9 => h9) rfl (tyM_ok 1 (by decide)) rfl rfl (Nat.le_of_ble_eq_true rfl) dM_load_297 (fun H locs hP hD hS => ?_)
                                have hP : va_P (gD G) vC [(qm, .inr (6, [.int (nI 0), .int (nI 0), .ref xt, .int (nI pt92), .ref xh, .ref xi, .ref xl, .ref xo, .ref xg, .ref xd, .int (zB true), .ref xs, .int (nI tB), .int (nI (2 ^ hd (lk tx ul) 2)), .int (nI (2 ^ hd (lk tx ul) 1)), .ref xn, .ref xb, .ref xv, .int (nI bd), .int (nI rd)])), (xt, aI G 400 tx), (xh, aI G 5 hh92), (xi, aI G 100 fi92), (xl, aI G 300 fl92), (xo, aI G 100 fo92), (xg, aI G 300 fg92), (xd, aZ G 100 fd92), (xs, aI G 5 sA), (xn, aI G 512 xC), (xb, aZ G 512 bC), (xv, aZ G 100 wC)] H := hP
                                have hD : va_D A [(qm, .inr (6, [.int (nI 0), .int (nI 0), .ref xt, .int (nI pt92), .ref xh, .ref xi, .ref xl, .ref xo, .ref xg, .ref xd, .int (zB true), .ref xs, .int (nI tB), .int (nI (2 ^ hd (lk tx ul) 2)), .int (nI (2 ^ hd (lk tx ul) 1)), .ref xn, .ref xb, .ref xv, .int (nI bd), .int (nI rd)])), (xt, aI G 400 tx), (xh, aI G 5 hh92), (xi, aI G 100 fi92), (xl, aI G 300 fl92), (xo, aI G 100 fo92), (xg, aI G 300 fg92), (xd, aZ G 100 fd92), (xs, aI G 5 sA), (xn, aI G 512 xC), (xb, aZ G 512 bC), (xv, aZ G 100 wC)] := hD
                                refine lv_aload_n hx hb dM_load_300 rfl (lv_at hl 0 rfl) ?_
                                refine va_get (D := gD G) (ci := 6) (v := .ref xh) (C := "CircuitProverModel") (T := TM) (N := 20) hx hb htb inM hown hK hP 0 rfl rfl 4 (by decide) (htb _ b675) (fun _ h9 => h9) rfl dM_load_301 ?_
                                refine lv_iconst (v := nI 2) hx hb dM_load_304 (by decide) ?_
                                refine k_iald hx hb hK hP 2 rfl (k := 2) (by omega) (by decide) dM_load_305 ?_
                                refine k_toi (y := nI (hd (lk tx ul) 2)) (by rw [hz2]) ?_
                                -- end 3
                                rw [← hQ]
                                exact k_iret hx hb hr hlocks rfl (u := (0, 0, pt92, true, tB, 2 ^ hd (lk tx ul) 2, 2 ^ hd (lk tx ul) 1, hh92, fi92, fl92, fo92, fg92, fd92, sA, xC, bC, wC)) (Or.inl ⟨_, _, _, _, _, _, _, sA, xC, bC, wC, ⟨hcO, hsm⟩, fun c hc => by rw [hsA c (by omega)]; exact hH c hc, fun a b h h2 => hxC a b (by omega) h2, fun a b h h2 => hbC a b (by omega) h2, rfl, by rw [htB, show kB = hd (lk tx ul) 2 by omega]⟩) hP hD hK hS dM_load_306
                              · have h171 : sC < 2 ^ hd (lk tx ul) 2 := Nat.lt_of_not_le (fun z => h171 ((nI_leI (a := 2 ^ hd (lk tx ul) 2) (b := sC) (by omega) (by omega)).mpr z))
                                refine lv_iconst (v := nI 0) hx hb dM_load_174 (by decide) ?_
                                refine lv_istore_n (lv' := [(2, .int (nI 0)), (0, .ref qm), (1, .int (nI sC))]) hx hb dM_load_175 rfl hl (by decide) rfl (fun ls hl => ?_)
                                have loop176 : ∀ (n : Nat) (dI : Nat) (xI : Nat → Nat) (bI : Nat → Bool) (vI : Nat → Bool) (H : Heap) (locs : List Loc) (ls : Array Slot), (2 ^ hd (lk tx ul) 1) - dI < n → (dI ≤ (2 ^ hd (lk tx ul) 1)) → (∀ a b, (a < sC ∨ (a = sC ∧ b < dI)) → b < (2 ^ hd (lk tx ul) 1) → xI (8 * a + b) = nxT (lk tx ul) a b) → (∀ a b, (a < sC ∨ (a = sC ∧ b < dI)) → b < (2 ^ hd (lk tx ul) 1) → bI (8 * a + b) = bdT (lk tx ul) a b) → va_P (gD G) vC [(qm, .inr (6, [.int (nI 0), .int (nI ul), .ref xt, .int (nI pt92), .ref xh, .ref xi, .ref xl, .ref xo, .ref xg, .ref xd, .int (zB ld), .ref xs, .int (nI tB), .int (nI (2 ^ hd (lk tx ul) 2)), .int (nI (2 ^ hd (lk tx ul) 1)), .ref xn, .ref xb, .ref xv, .int (nI bd), .int (nI rd)])), (xt, aI G 400 tx), (xh, aI G 5 hh92), (xi, aI G 100 fi92), (xl, aI G 300 fl92), (xo, aI G 100 fo92), (xg, aI G 300 fg92), (xd, aZ G 100 fd92), (xs, aI G 5 sA), (xn, aI G 512 xI), (xb, aZ G 512 bI), (xv, aZ G 100 vI)] H → va_D A [(qm, .inr (6, [.int (nI 0), .int (nI ul), .ref xt, .int (nI pt92), .ref xh, .ref xi, .ref xl, .ref xo, .ref xg, .ref xd, .int (zB ld), .ref xs, .int (nI tB), .int (nI (2 ^ hd (lk tx ul) 2)), .int (nI (2 ^ hd (lk tx ul) 1)), .ref xn, .ref xb, .ref xv, .int (nI bd), .int (nI rd)])), (xt, aI G 400 tx), (xh, aI G 5 hh92), (xi, aI G 100 fi92), (xl, aI G 300 fl92), (xo, aI G 100 fo92), (xg, aI G 300 fg92), (xd, aZ G 100 fd92), (xs, aI G 5 sA), (xn, aI G 512 xI), (xb, aZ G 512 bI), (xv, aZ G 100 vI)] → va_S A s.heap H locs → lv_has ls 6 [(0, .ref qm), (1, .int (nI sC)), (2, .int (nI dI))] → W p l e R s m args below meth c H locs 0 0 Q (F0 m 176 ls []) := by
                                  intro n
                                  induction n with
                                  | zero => intro dI xI bI vI H locs ls hmu; omega
                                  | succ n ih =>
                                    intro dI xI bI vI H locs ls hmu hkI hxI hbI hP hD hS hl
                                    have ih176 := ih
                                    clear ih
                                    refine lv_iload_n hx hb dM_load_176 rfl (lv_at hl 2 rfl) ?_
                                    refine lv_aload_n hx hb dM_load_177 rfl (lv_at hl 0 rfl) ?_
                                    refine va_get (D := gD G) (ci := 6) (v := .int (nI (2 ^ hd (lk tx ul) 1))) (C := "CircuitProverModel") (T := TM) (N := 20) hx hb htb inM hown hK hP 0 rfl rfl 14 (by decide) (htb _ b685) (fun _ h9 => h9) rfl dM_load_178 ?_
                                    refine lv_icmp_ge (tgt := 284) hx hb dM_load_181 rfl (fun h181 => ?_) (fun h181 => ?_)
                                    · have h181 : 2 ^ hd (lk tx ul) 1 ≤ dI := (nI_leI (a := 2 ^ hd (lk tx ul) 1) (b := dI) (by omega) (by omega)).mp h181
                                      refine lv_iinc (v := nI (sC + 1)) (lv' := [(1, .int (nI (sC + 1))), (0, .ref qm), (2, .int (nI dI))]) hx hb dM_load_284 hl (k := 1) rfl (nI_add _ 1) (by decide) rfl (fun ls hl => ?_)
                                      refine lv_goto (tgt := 166) hx hb dM_load_287 rfl ?_
                                      have hl : lv_has ls 6 [(0, .ref qm), (1, .int (nI (sC + 1)))] := lv_sub hl [1, 0] rfl
                                      exact ih166 (sC + 1) xI bI vI _ _ _ (by omega) (by omega) (fun a b h h2 => hxI a b (by omega) h2) (fun a b h h2 => hbI a b (by omega) h2) hP hD hS hl
                                    · have h181 : dI < 2 ^ hd (lk tx ul) 1 := Nat.lt_of_not_le (fun z => h181 ((nI_leI (a := 2 ^ hd (lk tx ul) 1) (b := dI) (by omega) (by omega)).mpr z))
                                      refine lv_aload_n hx hb dM_load_184 rfl (lv_at hl 0 rfl) ?_
                                      refine lv_iload_n hx hb dM_load_185 rfl (lv_at hl 1 rfl) ?_
                                      refine lv_iload_n hx hb dM_load_186 rfl (lv_at hl 2 rfl) ?_
                                      refine k_v (ws2 := fun u => [(qm, .inr (6, [.int (nI 0), .int (nI ul), .ref xt, .int (nI pt92), .ref xh, .ref xi, .ref xl, .ref xo, .ref xg, .ref xd, .int (zB ld), .ref xs, .int (nI tB), .int (nI (2 ^ hd (lk tx ul) 2)), .int (nI (2 ^ hd (lk tx ul) 1)), .ref xn, .ref xb, .ref xv, .int (nI bd), .int (nI rd)])), (xt, aI G 400 tx), (xh, aI G 5 hh92), (xi, aI G 100 fi92), (xl, aI G 300 fl92), (xo, aI G 100 fo92), (xg, aI G 300 fg92), (xd, aZ G 100 fd92), (xs, aI G 5 sA), (xn, aI G 512 xI), (xb, aZ G 512 bI), (xv, aZ G 100 (u))]) (wr := [(xt, aI G 400 tx), (xo, aI G 100 fo92), (xd, aZ G 100 fd92), (xs, aI G 5 sA), (xn, aI G 512 xI), (xb, aZ G 512 bI)]) (k_runV (n := 2) (As := [.int (nI sC), .int (nI dI)]) (rest := []) hx hb hml hown htb hP hD hK hS hA hE (k_M_evaluate l G H.size qm xt xh xi xl xo xg xd xs xn xb xv 0 ul pt92 ld tB (2 ^ hd (lk tx ul) 2) (2 ^ hd (lk tx ul) 1) bd rd hh92 fi92 fl92 fg92 vI (lk tx ul) sC dI (show ∀ c, c < 5 → hh92 c = hd (lk tx ul) c from hH) (show mIn (lk tx ul) fi92 (hd (lk tx ul) 1) from hI) (show mLa (lk tx ul) fl92 (hd (lk tx ul) 2) from hL) (show mGa (lk tx ul) fg92 (hd (lk tx ul) 4) from hG) (show hd (lk tx ul) 1 ≤ 3 from by omega) (show hd (lk tx ul) 2 ≤ 6 from by omega) (show sC < 64 from by omega) (show dI < 8 from by omega)) b784 b786 s37 b7 b787 (by decide +kernel) rfl rfl ⟨by rw [hRf]; exact Nat.le_of_ble_eq_true rfl, by rw [hRl]; exact Nat.le_of_ble_eq_true rfl⟩ [0, 2, 3, 4, 6, 11] rfl (by decide) 0 rfl rfl rfl rfl hl.1 rfl (Nat.le_of_ble_eq_true rfl) dM_load_187 ⟨Nat.zero_le _, Nat.zero_le _⟩) hP hD hS hA [0, 2, 3, 4, 6, 11] [1, 5, 7, 8, 9, 10] [6, 0, 7, 8, 9, 1, 10, 2, 3, 4, 5, 11] rfl rfl (by decide) (by decide) (fun u => rfl) (by decide) (fun u H locs hw hP hD hS => ?_)
                                      obtain rfl := hw
                                      have hP : va_P (gD G) vC [(qm, .inr (6, [.int (nI 0), .int (nI ul), .ref xt, .int (nI pt92), .ref xh, .ref xi, .ref xl, .ref xo, .ref xg, .ref xd, .int (zB ld), .ref xs, .int (nI tB), .int (nI (2 ^ hd (lk tx ul) 2)), .int (nI (2 ^ hd (lk tx ul) 1)), .ref xn, .ref xb, .ref xv, .int (nI bd), .int (nI rd)])), (xt, aI G 400 tx), (xh, aI G 5 hh92), (xi, aI G 100 fi92), (xl, aI G 300 fl92), (xo, aI G 100 fo92), (xg, aI G 300 fg92), (xd, aZ G 100 fd92), (xs, aI G 5 sA), (xn, aI G 512 xI), (xb, aZ G 512 bI), (xv, aZ G 100 (evM (lk tx ul) vI sC dI))] H := hP
                                      have hD : va_D A [(qm, .inr (6, [.int (nI 0), .int (nI ul), .ref xt, .int (nI pt92), .ref xh, .ref xi, .ref xl, .ref xo, .ref xg, .ref xd, .int (zB ld), .ref xs, .int (nI tB), .int (nI (2 ^ hd (lk tx ul) 2)), .int (nI (2 ^ hd (lk tx ul) 1)), .ref xn, .ref xb, .ref xv, .int (nI bd), .int (nI rd)])), (xt, aI G 400 tx), (xh, aI G 5 hh92), (xi, aI G 100 fi92), (xl, aI G 300 fl92), (xo, aI G 100 fo92), (xg, aI G 300 fg92), (xd, aZ G 100 fd92), (xs, aI G 5 sA), (xn, aI G 512 xI), (xb, aZ G 512 bI), (xv, aZ G 100 (evM (lk tx ul) vI sC dI))] := hD
                                      refine lv_iconst (v := nI 0) hx hb dM_load_190 (by decide) ?_
                                      refine lv_istore_n (lv' := [(3, .int (nI 0)), (0, .ref qm), (1, .int (nI sC)), (2, .int (nI dI))]) hx hb dM_load_191 rfl hl (by decide) rfl (fun ls hl => ?_)
                                      refine lv_iconst (v := nI 0) hx hb dM_load_192 (by decide) ?_
                                      refine lv_istore (lv' := [(4, .int (nI 0)), (3, .int (nI 0)), (0, .ref qm), (1, .int (nI sC)), (2, .int (nI dI))]) hx hb dM_load_193 hl (by decide) rfl (fun ls hl => ?_)
                                      have loop195 : ∀ (n : Nat) (tE : Nat) (kE : Nat) (H : Heap) (locs : List Loc) (ls : Array Slot), hd (lk tx ul) 2 - kE < n → (kE ≤ hd (lk tx ul) 2) → (tE = nxP (lk tx ul) sC dI kE) → va_P (gD G) vC [(qm, .inr (6, [.int (nI 0), .int (nI ul), .ref xt, .int (nI pt92), .ref xh, .ref xi, .ref xl, .ref xo, .ref xg, .ref xd, .int (zB ld), .ref xs, .int (nI tB), .int (nI (2 ^ hd (lk tx ul) 2)), .int (nI (2 ^ hd (lk tx ul) 1)), .ref xn, .ref xb, .ref xv, .int (nI bd), .int (nI rd)])), (xt, aI G 400 tx), (xh, aI G 5 hh92), (xi, aI G 100 fi92), (xl, aI G 300 fl92), (xo, aI G 100 fo92), (xg, aI G 300 fg92), (xd, aZ G 100 fd92), (xs, aI G 5 sA), (xn, aI G 512 xI), (xb, aZ G 512 bI), (xv, aZ G 100 (evM (lk tx ul) vI sC dI))] H → va_D A [(qm, .inr (6, [.int (nI 0), .int (nI ul), .ref xt, .int (nI pt92), .ref xh, .ref xi, .ref xl, .ref xo, .ref xg, .ref xd, .int (zB ld), .ref xs, .int (nI tB), .int (nI (2 ^ hd (lk tx ul) 2)), .int (nI (2 ^ hd (lk tx ul) 1)), .ref xn, .ref xb, .ref xv, .int (nI bd), .int (nI rd)])), (xt, aI G 400 tx), (xh, aI G 5 hh92), (xi, aI G 100 fi92), (xl, aI G 300 fl92), (xo, aI G 100 fo92), (xg, aI G 300 fg92), (xd, aZ G 100 fd92), (xs, aI G 5 sA), (xn, aI G 512 xI), (xb, aZ G 512 bI), (xv, aZ G 100 (evM (lk tx ul) vI sC dI))] → va_S A s.heap H locs → lv_has ls 6 [(0, .ref qm), (1, .int (nI sC)), (2, .int (nI dI)), (3, .int (nI tE)), (4, .int (nI kE))] → W p l e R s m args below meth c H locs 0 0 Q (F0 m 195 ls []) := by
                                        intro n
                                        induction n with
                                        | zero => intro tE kE H locs ls hmu; omega
                                        | succ n ih =>
                                          intro tE kE H locs ls hmu hkE htE hP hD hS hl
                                          have ih195 := ih
                                          clear ih
                                          refine lv_iload hx hb dM_load_195 (lv_at hl 4 rfl) ?_
                                          refine lv_aload_n hx hb dM_load_197 rfl (lv_at hl 0 rfl) ?_
                                          refine va_get (D := gD G) (ci := 6) (v := .ref xh) (C := "CircuitProverModel") (T := TM) (N := 20) hx hb htb inM hown hK hP 0 rfl rfl 4 (by decide) (htb _ b675) (fun _ h9 => h9) rfl dM_load_198 ?_
                                          refine lv_iconst (v := nI 2) hx hb dM_load_201 (by decide) ?_
                                          refine k_iald hx hb hK hP 2 rfl (k := 2) (by omega) (by decide) dM_load_202 ?_
                                          refine lv_icmp_ge (tgt := 245) hx hb dM_load_203 rfl (fun h203 => ?_) (fun h203 => ?_)
                                          · have h203 : hh92 2 ≤ kE := (nI_leI (a := hh92 2) (b := kE) (by omega) (by omega)).mp h203
                                            refine lv_aload_n hx hb dM_load_245 rfl (lv_at hl 0 rfl) ?_
                                            refine va_get (D := gD G) (ci := 6) (v := .ref xn) (C := "CircuitProverModel") (T := TM) (N := 20) hx hb htb inM hown hK hP 0 rfl rfl 15 (by decide) (htb _ b686) (fun _ h9 => h9) rfl dM_load_246 ?_
                                            refine lv_bipush (v := nI 8) hx hb dM_load_249 (by decide) ?_
                                            refine lv_iload_n hx hb dM_load_251 rfl (lv_at hl 1 rfl) ?_
                                            refine lv_imul hx hb dM_load_252 ?_
                                            refine k_toi (y := nI (8 * sC)) (pk_mul _ _) ?_
                                            refine lv_iload_n hx hb dM_load_253 rfl (lv_at hl 2 rfl) ?_
                                            refine lv_iadd hx hb dM_load_254 ?_
                                            refine k_toi (y := nI ((8 * sC) + dI)) (nI_add _ _) ?_
                                            refine lv_iload_n hx hb dM_load_255 rfl (lv_at hl 3 rfl) ?_
                                            refine k_iast hx hb hK hP hD hS 9 rfl (k := (8 * sC) + dI) (v := tE) (by omega) (by decide) dM_load_256 (fun H locs hP hD hS => ?_)
                                            have hP : va_P (gD G) vC [(qm, .inr (6, [.int (nI 0), .int (nI ul), .ref xt, .int (nI pt92), .ref xh, .ref xi, .ref xl, .ref xo, .ref xg, .ref xd, .int (zB ld), .ref xs, .int (nI tB), .int (nI (2 ^ hd (lk tx ul) 2)), .int (nI (2 ^ hd (lk tx ul) 1)), .ref xn, .ref xb, .ref xv, .int (nI bd), .int (nI rd)])), (xt, aI G 400 tx), (xh, aI G 5 hh92), (xi, aI G 100 fi92), (xl, aI G 300 fl92), (xo, aI G 100 fo92), (xg, aI G 300 fg92), (xd, aZ G 100 fd92), (xs, aI G 5 sA), (xn, aI G 512 (va_up xI ((8 * sC) + dI) tE)), (xb, aZ G 512 bI), (xv, aZ G 100 (evM (lk tx ul) vI sC dI))] H := hP
                                            have hD : va_D A [(qm, .inr (6, [.int (nI 0), .int (nI ul), .ref xt, .int (nI pt92), .ref xh, .ref xi, .ref xl, .ref xo, .ref xg, .ref xd, .int (zB ld), .ref xs, .int (nI tB), .int (nI (2 ^ hd (lk tx ul) 2)), .int (nI (2 ^ hd (lk tx ul) 1)), .ref xn, .ref xb, .ref xv, .int (nI bd), .int (nI rd)])), (xt, aI G 400 tx), (xh, aI G 5 hh92), (xi, aI G 100 fi92), (xl, aI G 300 fl92), (xo, aI G 100 fo92), (xg, aI G 300 fg92), (xd, aZ G 100 fd92), (xs, aI G 5 sA), (xn, aI G 512 (va_up xI ((8 * sC) + dI) tE)), (xb, aZ G 512 bI), (xv, aZ G 100 (evM (lk tx ul) vI sC dI))] := hD
                                            refine lv_aload_n hx hb dM_load_257 rfl (lv_at hl 0 rfl) ?_
                                            refine va_get (D := gD G) (ci := 6) (v := .ref xb) (C := "CircuitProverModel") (T := TM) (N := 20) hx hb htb inM hown hK hP 0 rfl rfl 16 (by decide) (htb _ b687) (fun _ h9 => h9) rfl dM_load_258 ?_
                                            refine lv_bipush (v := nI 8) hx hb dM_load_261 (by decide) ?_
                                            refine lv_iload_n hx hb dM_load_263 rfl (lv_at hl 1 rfl) ?_
                                            refine lv_imul hx hb dM_load_264 ?_
                                            refine k_toi (y := nI (8 * sC)) (pk_mul _ _) ?_
                                            refine lv_iload_n hx hb dM_load_265 rfl (lv_at hl 2 rfl) ?_
                                            refine lv_iadd hx hb dM_load_266 ?_
                                            refine k_toi (y := nI ((8 * sC) + dI)) (nI_add _ _) ?_
                                            refine lv_aload_n hx hb dM_load_267 rfl (lv_at hl 0 rfl) ?_
                                            refine lv_aload_n hx hb dM_load_268 rfl (lv_at hl 0 rfl) ?_
                                            refine va_get (D := gD G) (ci := 6) (v := .ref xo) (C := "CircuitProverModel") (T := TM) (N := 20) hx hb htb inM hown hK hP 0 rfl rfl 7 (by decide) (htb _ b678) (fun _ h9 => h9) rfl dM_load_269 ?_
                                            refine lv_iconst (v := nI 0) hx hb dM_load_272 (by decide) ?_
                                            have hy0 : fo92 0 = xou (lk tx ul) 0 := hO 0 (by have := hsm.2.2.1; omega)
                                            refine k_iald hx hb hK hP 5 rfl (k := 0) (by omega) (by decide) dM_load_273 ?_
                                            refine k_i (ws2 := fun u => [(qm, .inr (6, [.int (nI 0), .int (nI ul), .ref xt, .int (nI pt92), .ref xh, .ref xi, .ref xl, .ref xo, .ref xg, .ref xd, .int (zB ld), .ref xs, .int (nI tB), .int (nI (2 ^ hd (lk tx ul) 2)), .int (nI (2 ^ hd (lk tx ul) 1)), .ref xn, .ref xb, .ref xv, .int (nI bd), .int (nI rd)])), (xt, aI G 400 tx), (xh, aI G 5 hh92), (xi, aI G 100 fi92), (xl, aI G 300 fl92), (xo, aI G 100 fo92), (xg, aI G 300 fg92), (xd, aZ G 100 fd92), (xs, aI G 5 sA), (xn, aI G 512 (va_up xI ((8 * sC) + dI) tE)), (xb, aZ G 512 bI), (xv, aZ G 100 (evM (lk tx ul) vI sC dI))]) (wr := [(xt, aI G 400 tx), (xh, aI G 5 hh92), (xi, aI G 100 fi92), (xl, aI G 300 fl92), (xo, aI G 100 fo92), (xg, aI G 300 fg92), (xd, aZ G 100 fd92), (xs, aI G 5 sA), (xn, aI G 512 (va_up xI ((8 * sC) + dI) tE)), (xb, aZ G 512 bI)]) (k_runV (n := 1) (As := [.int (nI (fo92 0))]) (rest := [.int (nI ((8 * sC) + dI)), .ref xb]) hx hb hml hown htb hP hD hK hS hA hE (k_M_literal l G H.size qm xt xh xi xl xo xg xd xs xn xb xv 0 ul pt92 ld tB (2 ^ hd (lk tx ul) 2) (2 ^ hd (lk tx ul) 1) bd rd (evM (lk tx ul) vI sC dI) (fo92 0) (show (fo92 0) < 100 from by omega)) b788 b790 s38 b7 b791 (by decide +kernel) rfl rfl ⟨by rw [hRf]; exact Nat.le_of_ble_eq_true rfl, by rw [hRl]; exact Nat.le_of_ble_eq_true rfl⟩ [0, 11] rfl (by decide) 0 rfl rfl rfl rfl hl.1 rfl (Nat.le_of_ble_eq_true rfl) dM_load_274 ⟨Nat.zero_le _, Nat.zero_le _⟩) hP hD hS hA [0, 11] [1, 2, 3, 4, 5, 6, 7, 8, 9, 10] [10, 0, 1, 2, 3, 4, 5, 6, 7, 8, 9, 11] rfl rfl (by decide) (by decide) (fun u => rfl) (by decide) (fun r u H locs hw hP hD hS => ?_)
                                            obtain ⟨rfl, rfl⟩ := hw
                                            have hP : va_P (gD G) vC [(qm, .inr (6, [.int (nI 0), .int (nI ul), .ref xt, .int (nI pt92), .ref xh, .ref xi, .ref xl, .ref xo, .ref xg, .ref xd, .int (zB ld), .ref xs, .int (nI tB), .int (nI (2 ^ hd (lk tx ul) 2)), .int (nI (2 ^ hd (lk tx ul) 1)), .ref xn, .ref xb, .ref xv, .int (nI bd), .int (nI rd)])), (xt, aI G 400 tx), (xh, aI G 5 hh92), (xi, aI G 100 fi92), (xl, aI G 300 fl92), (xo, aI G 100 fo92), (xg, aI G 300 fg92), (xd, aZ G 100 fd92), (xs, aI G 5 sA), (xn, aI G 512 (va_up xI ((8 * sC) + dI) tE)), (xb, aZ G 512 bI), (xv, aZ G 100 (evM (lk tx ul) vI sC dI))] H := hP
                                            have hD : va_D A [(qm, .inr (6, [.int (nI 0), .int (nI ul), .ref xt, .int (nI pt92), .ref xh, .ref xi, .ref xl, .ref xo, .ref xg, .ref xd, .int (zB ld), .ref xs, .int (nI tB), .int (nI (2 ^ hd (lk tx ul) 2)), .int (nI (2 ^ hd (lk tx ul) 1)), .ref xn, .ref xb, .ref xv, .int (nI bd), .int (nI rd)])), (xt, aI G 400 tx), (xh, aI G 5 hh92), (xi, aI G 100 fi92), (xl, aI G 300 fl92), (xo, aI G 100 fo92), (xg, aI G 300 fg92), (xd, aZ G 100 fd92), (xs, aI G 5 sA), (xn, aI G 512 (va_up xI ((8 * sC) + dI) tE)), (xb, aZ G 512 bI), (xv, aZ G 100 (evM (lk tx ul) vI sC dI))] := hD
                                            refine k_zast hx hb hK hP hD hS 10 rfl (k := (8 * sC) + dI) (v := litV (evM (lk tx ul) vI sC dI) (fo92 0)) (by omega) (by decide) dM_load_277 (fun H locs hP hD hS => ?_)
                                            have hP : va_P (gD G) vC [(qm, .inr (6, [.int (nI 0), .int (nI ul), .ref xt, .int (nI pt92), .ref xh, .ref xi, .ref xl, .ref xo, .ref xg, .ref xd, .int (zB ld), .ref xs, .int (nI tB), .int (nI (2 ^ hd (lk tx ul) 2)), .int (nI (2 ^ hd (lk tx ul) 1)), .ref xn, .ref xb, .ref xv, .int (nI bd), .int (nI rd)])), (xt, aI G 400 tx), (xh, aI G 5 hh92), (xi, aI G 100 fi92), (xl, aI G 300 fl92), (xo, aI G 100 fo92), (xg, aI G 300 fg92), (xd, aZ G 100 fd92), (xs, aI G 5 sA), (xn, aI G 512 (va_up xI ((8 * sC) + dI) tE)), (xb, aZ G 512 (va_up bI ((8 * sC) + dI) (litV (evM (lk tx ul) vI sC dI) (fo92 0)))), (xv, aZ G 100 (evM (lk tx ul) vI sC dI))] H := hP
                                            have hD : va_D A [(qm, .inr (6, [.int (nI 0), .int (nI ul), .ref xt, .int (nI pt92), .ref xh, .ref xi, .ref xl, .ref xo, .ref xg, .ref xd, .int (zB ld), .ref xs, .int (nI tB), .int (nI (2 ^ hd (lk tx ul) 2)), .int (nI (2 ^ hd (lk tx ul) 1)), .ref xn, .ref xb, .ref xv, .int (nI bd), .int (nI rd)])), (xt, aI G 400 tx), (xh, aI G 5 hh92), (xi, aI G 100 fi92), (xl, aI G 300 fl92), (xo, aI G 100 fo92), (xg, aI G 300 fg92), (xd, aZ G 100 fd92), (xs, aI G 5 sA), (xn, aI G 512 (va_up xI ((8 * sC) + dI) tE)), (xb, aZ G 512 (va_up bI ((8 * sC) + dI) (litV (evM (lk tx ul) vI sC dI) (fo92 0)))), (xv, aZ G 100 (evM (lk tx ul) vI sC dI))] := hD
                                            refine lv_iinc (v := nI (dI + 1)) (lv' := [(2, .int (nI (dI + 1))), (0, .ref qm), (1, .int (nI sC)), (3, .int (nI tE)), (4, .int (nI kE))]) hx hb dM_load_278 hl (k := 2) rfl (nI_add _ 1) (by decide) rfl (fun ls hl => ?_)
                                            refine lv_goto (tgt := 176) hx hb dM_load_281 rfl ?_
                                            have hl : lv_has ls 6 [(0, .ref qm), (1, .int (nI sC)), (2, .int (nI (dI + 1)))] := lv_sub hl [1, 2, 0] rfl
                                            exact ih176 (dI + 1) (va_up xI ((8 * sC) + dI) tE) (va_up bI ((8 * sC) + dI) (litV (evM (lk tx ul) vI sC dI) (fo92 0))) (evM (lk tx ul) vI sC dI) _ _ _ (by omega) (by omega) (up8 p1 (by omega) hxI (by rw [htE, show kE = hd (lk tx ul) 2 by omega]; rfl)) (up8 p1 (by omega) hbI (by rw [hy0]; exact ev_ind hcO hsL vI (by omega) hmo)) hP hD hS hl
                                          · have h203 : kE < hh92 2 := Nat.lt_of_not_le (fun z => h203 ((nI_leI (a := hh92 2) (b := kE) (by omega) (by omega)).mpr z))
                                            refine lv_aload_n hx hb dM_load_206 rfl (lv_at hl 0 rfl) ?_
                                            refine lv_aload_n hx hb dM_load_207 rfl (lv_at hl 0 rfl) ?_
                                            refine va_get (D := gD G) (ci := 6) (v := .ref xl) (C := "CircuitProverModel") (T := TM) (N := 20) hx hb htb inM hown hK hP 0 rfl rfl 6 (by decide) (htb _ b677) (fun _ h9 => h9) rfl dM_load_208 ?_
                                            refine lv_iconst (v := nI 3) hx hb dM_load_211 (by decide) ?_
                                            refine lv_iload hx hb dM_load_212 (lv_at hl 4 rfl) ?_
                                            refine lv_imul hx hb dM_load_214 ?_
                                            refine k_toi (y := nI (3 * kE)) (pk_mul _ _) ?_
                                            refine lv_iconst (v := nI 1) hx hb dM_load_215 (by decide) ?_
                                            refine lv_iadd hx hb dM_load_216 ?_
                                            refine k_toi (y := nI ((3 * kE) + 1)) (nI_add _ _) ?_
                                            have hy2 : fl92 (3 * kE + 1) = xla (lk tx ul) kE 1 := hL kE (by omega) 1 (by decide)
                                            have hl2 := xla_lt (lk tx ul) kE 1
                                            refine k_iald hx hb hK hP 4 rfl (k := (3 * kE) + 1) (by omega) (by decide) dM_load_217 ?_
                                            refine k_i (ws2 := fun u => [(qm, .inr (6, [.int (nI 0), .int (nI ul), .ref xt, .int (nI pt92), .ref xh, .ref xi, .ref xl, .ref xo, .ref xg, .ref xd, .int (zB ld), .ref xs, .int (nI tB), .int (nI (2 ^ hd (lk tx ul) 2)), .int (nI (2 ^ hd (lk tx ul) 1)), .ref xn, .ref xb, .ref xv, .int (nI bd), .int (nI rd)])), (xt, aI G 400 tx), (xh, aI G 5 hh92), (xi, aI G 100 fi92), (xl, aI G 300 fl92), (xo, aI G 100 fo92), (xg, aI G 300 fg92), (xd, aZ G 100 fd92), (xs, aI G 5 sA), (xn, aI G 512 xI), (xb, aZ G 512 bI), (xv, aZ G 100 (evM (lk tx ul) vI sC dI))]) (wr := [(xt, aI G 400 tx), (xh, aI G 5 hh92), (xi, aI G 100 fi92), (xl, aI G 300 fl92), (xo, aI G 100 fo92), (xg, aI G 300 fg92), (xd, aZ G 100 fd92), (xs, aI G 5 sA), (xn, aI G 512 xI), (xb, aZ G 512 bI)]) (k_runV (n := 1) (As := [.int (nI (fl92 ((3 * kE) + 1)))]) (rest := []) hx hb hml hown htb hP hD hK hS hA hE (k_M_literal l G H.size qm xt xh xi xl xo xg xd xs xn xb xv 0 ul pt92 ld tB (2 ^ hd (lk tx ul) 2) (2 ^ hd (lk tx ul) 1) bd rd (evM (lk tx ul) vI sC dI) (fl92 ((3 * kE) + 1)) (show (fl92 ((3 * kE) + 1)) < 100 from by omega)) b788 b790 s38 b7 b791 (by decide +kernel) rfl rfl ⟨by rw [hRf]; exact Nat.le_of_ble_eq_true rfl, by rw [hRl]; exact Nat.le_of_ble_eq_true rfl⟩ [0, 11] rfl (by decide) 0 rfl rfl rfl rfl hl.1 rfl (Nat.le_of_ble_eq_true rfl) dM_load_218 ⟨Nat.zero_le _, Nat.zero_le _⟩) hP hD hS hA [0, 11] [1, 2, 3, 4, 5, 6, 7, 8, 9, 10] [10, 0, 1, 2, 3, 4, 5, 6, 7, 8, 9, 11] rfl rfl (by decide) (by decide) (fun u => rfl) (by decide) (fun r u H locs hw hP hD hS => ?_)
                                            obtain ⟨rfl, rfl⟩ := hw
                                            have hP : va_P (gD G) vC [(qm, .inr (6, [.int (nI 0), .int (nI ul), .ref xt, .int (nI pt92), .ref xh, .ref xi, .ref xl, .ref xo, .ref xg, .ref xd, .int (zB ld), .ref xs, .int (nI tB), .int (nI (2 ^ hd (lk tx ul) 2)), .int (nI (2 ^ hd (lk tx ul) 1)), .ref xn, .ref xb, .ref xv, .int (nI bd), .int (nI rd)])), (xt, aI G 400 tx), (xh, aI G 5 hh92), (xi, aI G 100 fi92), (xl, aI G 300 fl92), (xo, aI G 100 fo92), (xg, aI G 300 fg92), (xd, aZ G 100 fd92), (xs, aI G 5 sA), (xn, aI G 512 xI), (xb, aZ G 512 bI), (xv, aZ G 100 (evM (lk tx ul) vI sC dI))] H := hP
                                            have hD : va_D A [(qm, .inr (6, [.int (nI 0), .int (nI ul), .ref xt, .int (nI pt92), .ref xh, .ref xi, .ref xl, .ref xo, .ref xg, .ref xd, .int (zB ld), .ref xs, .int (nI tB), .int (nI (2 ^ hd (lk tx ul) 2)), .int (nI (2 ^ hd (lk tx ul) 1)), .ref xn, .ref xb, .ref xv, .int (nI bd), .int (nI rd)])), (xt, aI G 400 tx), (xh, aI G 5 hh92), (xi, aI G 100 fi92), (xl, aI G 300 fl92), (xo, aI G 100 fo92), (xg, aI G 300 fg92), (xd, aZ G 100 fd92), (xs, aI G 5 sA), (xn, aI G 512 xI), (xb, aZ G 512 bI), (xv, aZ G 100 (evM (lk tx ul) vI sC dI))] := hD
                                            refine lv_istore (lv' := [(5, .int (zB (litV (evM (lk tx ul) vI sC dI) (fl92 ((3 * kE) + 1))))), (0, .ref qm), (1, .int (nI sC)), (2, .int (nI dI)), (3, .int (nI tE)), (4, .int (nI kE))]) hx hb dM_load_221 hl (by decide) rfl (fun ls hl => ?_)
                                            have hvE : litV (evM (lk tx ul) vI sC dI) (fl92 (3 * kE + 1)) = val (lk tx ul) sC dI (xla (lk tx ul) kE 1) := by rw [hy2]; exact ev_ind hcO hsL vI (by omega) (hcO.2.2.2.2.1 kE (by omega))
                                            refine lv_iload_n hx hb dM_load_223 rfl (lv_at hl 4 rfl) ?_
                                            refine lv_iload hx hb dM_load_224 (lv_at hl 0 rfl) ?_
                                            refine lv_if_eq (tgt := 236) hx hb dM_load_226 rfl (fun h226 => ?_) (fun h226 => ?_)
                                            · have h226 : litV (evM (lk tx ul) vI sC dI) (fl92 ((3 * kE) + 1)) = false := zB_f h226
                                              refine lv_iconst (v := nI 0) hx hb dM_load_236 (by decide) ?_
                                              refine lv_iadd hx hb dM_load_237 ?_
                                              refine k_toi (y := nI (tE + 0)) (nI_add _ _) ?_
                                              refine lv_istore_n (lv' := [(3, .int (nI (tE + 0))), (5, .int (zB (litV (evM (lk tx ul) vI sC dI) (fl92 ((3 * kE) + 1))))), (0, .ref qm), (1, .int (nI sC)), (2, .int (nI dI)), (4, .int (nI kE))]) hx hb dM_load_238 rfl hl (by decide) rfl (fun ls hl => ?_)
                                              refine lv_iinc (v := nI (kE + 1)) (lv' := [(4, .int (nI (kE + 1))), (3, .int (nI (tE + 0))), (5, .int (zB (litV (evM (lk tx ul) vI sC dI) (fl92 ((3 * kE) + 1))))), (0, .ref qm), (1, .int (nI sC)), (2, .int (nI dI))]) hx hb dM_load_239 hl (k := 5) rfl (nI_add _ 1) (by decide) rfl (fun ls hl => ?_)
                                              refine lv_goto (tgt := 195) hx hb dM_load_242 rfl ?_
                                              have hl : lv_has ls 6 [(0, .ref qm), (1, .int (nI sC)), (2, .int (nI dI)), (3, .int (nI (tE + 0))), (4, .int (nI (kE + 1)))] := lv_sub hl [3, 4, 5, 1, 0] rfl
                                              exact ih195 (tE + 0) (kE + 1) _ _ _ (by omega) (by omega) (by rw [htE]; first | exact nxP_t (by rw [← hvE]; exact h226) | exact nxP_f (by rw [← hvE]; exact h226)) hP hD hS hl
                                            · have h226 : litV (evM (lk tx ul) vI sC dI) (fl92 ((3 * kE) + 1)) = true := zB_t h226
                                              refine lv_iconst (v := nI 1) hx hb dM_load_229 (by decide) ?_
                                              refine lv_iload hx hb dM_load_230 (lv_at hl 5 rfl) ?_
                                              refine lv_ishl hx hb dM_load_232 ?_
                                              refine k_toi (y := nI (2 ^ kE)) (sh1 (by omega)) ?_
                                              refine lv_goto (tgt := 237) hx hb dM_load_233 rfl ?_
                                              refine lv_iadd hx hb dM_load_237 ?_
                                              refine k_toi (y := nI (tE + (2 ^ kE))) (nI_add _ _) ?_
                                              refine lv_istore_n (lv' := [(3, .int (nI (tE + (2 ^ kE)))), (5, .int (zB (litV (evM (lk tx ul) vI sC dI) (fl92 ((3 * kE) + 1))))), (0, .ref qm), (1, .int (nI sC)), (2, .int (nI dI)), (4, .int (nI kE))]) hx hb dM_load_238 rfl hl (by decide) rfl (fun ls hl => ?_)
                                              refine lv_iinc (v := nI (kE + 1)) (lv' := [(4, .int (nI (kE + 1))), (3, .int (nI (tE + (2 ^ kE)))), (5, .int (zB (litV (evM (lk tx ul) vI sC dI) (fl92 ((3 * kE) + 1))))), (0, .ref qm), (1, .int (nI sC)), (2, .int (nI dI))]) hx hb dM_load_239 hl (k := 5) rfl (nI_add _ 1) (by decide) rfl (fun ls hl => ?_)
                                              refine lv_goto (tgt := 195) hx hb dM_load_242 rfl ?_
                                              have hl : lv_has ls 6 [(0, .ref qm), (1, .int (nI sC)), (2, .int (nI dI)), (3, .int (nI (tE + (2 ^ kE)))), (4, .int (nI (kE + 1)))] := lv_sub hl [3, 4, 5, 1, 0] rfl
                                              exact ih195 (tE + (2 ^ kE)) (kE + 1) _ _ _ (by omega) (by omega) (by rw [htE]; first | exact nxP_t (by rw [← hvE]; exact h226) | exact nxP_f (by rw [← hvE]; exact h226)) hP hD hS hl
                                      have hl : lv_has ls 6 [(0, .ref qm), (1, .int (nI sC)), (2, .int (nI dI)), (3, .int (nI 0)), (4, .int (nI 0))] := lv_sub hl [2, 3, 4, 1, 0] rfl
                                      exact loop195 (hd (lk tx ul) 2 - 0 + 1) 0 0 _ _ _ (by omega) (by omega) rfl hP hD hS hl
                                have hl : lv_has ls 6 [(0, .ref qm), (1, .int (nI sC)), (2, .int (nI 0))] := lv_sub hl [1, 2, 0] rfl
                                exact loop176 ((2 ^ hd (lk tx ul) 1) - 0 + 1) 0 xC bC wC _ _ _ (by omega) (by omega) (fun a b h h2 => hxC a b (by omega) h2) (fun a b h h2 => hbC a b (by omega) h2) hP hD hS hl
                          have hl : lv_has ls 6 [(0, .ref qm), (1, .int (nI 0))] := lv_sub hl [1, 0] rfl
                          exact loop166 ((2 ^ hd (lk tx ul) 2) - 0 + 1) 0 fx fb fv _ _ _ (by omega) (by omega) (fun a b h => absurd h (Nat.not_lt_zero a)) (fun a b h => absurd h (Nat.not_lt_zero a)) hP hD hS hl
                        · have h134 : kB < hh92 2 := Nat.lt_of_not_le (fun z => h134 ((nI_leI (a := hh92 2) (b := kB) (by omega) (by omega)).mpr z))
                          refine lv_aload_n hx hb dM_load_137 rfl (lv_at hl 0 rfl) ?_
                          refine lv_dup hx hb dM_load_138 rfl ?_
                          refine va_get (D := gD G) (ci := 6) (v := .int (nI tB)) (C := "CircuitProverModel") (T := TM) (N := 20) hx hb htb inM hown hK hP 0 rfl rfl 12 (by decide) (htb _ b683) (fun _ h9 => h9) rfl dM_load_139 ?_
                          refine lv_aload_n hx hb dM_load_142 rfl (lv_at hl 0 rfl) ?_
                          refine va_get (D := gD G) (ci := 6) (v := .ref xl) (C := "CircuitProverModel") (T := TM) (N := 20) hx hb htb inM hown hK hP 0 rfl rfl 6 (by decide) (htb _ b677) (fun _ h9 => h9) rfl dM_load_143 ?_
                          refine lv_iconst (v := nI 3) hx hb dM_load_146 (by decide) ?_
                          refine lv_iload_n hx hb dM_load_147 rfl (lv_at hl 1 rfl) ?_
                          refine lv_imul hx hb dM_load_148 ?_
                          refine k_toi (y := nI (3 * kB)) (pk_mul _ _) ?_
                          refine lv_iconst (v := nI 2) hx hb dM_load_149 (by decide) ?_
                          refine lv_iadd hx hb dM_load_150 ?_
                          refine k_toi (y := nI ((3 * kB) + 2)) (nI_add _ _) ?_
                          have hy3 : fl92 (3 * kB + 2) = xla (lk tx ul) kB 2 := hL kB (by omega) 2 (by decide)
                          have hl3 := hlx kB (by omega)
                          refine k_iald hx hb hK hP 4 rfl (k := (3 * kB) + 2) (by omega) (by decide) dM_load_151 ?_
                          refine lv_iload_n hx hb dM_load_152 rfl (lv_at hl 1 rfl) ?_
                          refine lv_ishl hx hb dM_load_153 ?_
                          refine k_toi (y := nI ((fl92 ((3 * kB) + 2)) * 2 ^ kB)) (shn (by omega) (shl_b (by omega) (by omega))) ?_
                          refine lv_iadd hx hb dM_load_154 ?_
                          refine k_toi (y := nI (tB + ((fl92 ((3 * kB) + 2)) * 2 ^ kB))) (nI_add _ _) ?_
                          refine va_put (D := gD G) (ci := 6) (v := .int (nI (tB + ((fl92 ((3 * kB) + 2)) * 2 ^ kB)))) (ty := tyM 12) (C := "CircuitProverModel") (T := TM) (N := 20) hx hb htb inM tyM tyM_ok nmM hown hK hP hD hS 0 rfl rfl 12 (by decide) (htb _ b683) (fun _ h9 => h9) rfl (tyM_ok 12 (by decide)) rfl rfl (Nat.le_of_ble_eq_true rfl) dM_load_155 (fun H locs hP hD hS => ?_)
                          have hP : va_P (gD G) vC [(qm, .inr (6, [.int (nI 0), .int (nI ul), .ref xt, .int (nI pt92), .ref xh, .ref xi, .ref xl, .ref xo, .ref xg, .ref xd, .int (zB ld), .ref xs, .int (nI (tB + ((fl92 ((3 * kB) + 2)) * 2 ^ kB))), .int (nI (2 ^ hd (lk tx ul) 2)), .int (nI (2 ^ hd (lk tx ul) 1)), .ref xn, .ref xb, .ref xv, .int (nI bd), .int (nI rd)])), (xt, aI G 400 tx), (xh, aI G 5 hh92), (xi, aI G 100 fi92), (xl, aI G 300 fl92), (xo, aI G 100 fo92), (xg, aI G 300 fg92), (xd, aZ G 100 fd92), (xs, aI G 5 sA), (xn, aI G 512 fx), (xb, aZ G 512 fb), (xv, aZ G 100 fv)] H := hP
                          have hD : va_D A [(qm, .inr (6, [.int (nI 0), .int (nI ul), .ref xt, .int (nI pt92), .ref xh, .ref xi, .ref xl, .ref xo, .ref xg, .ref xd, .int (zB ld), .ref xs, .int (nI (tB + ((fl92 ((3 * kB) + 2)) * 2 ^ kB))), .int (nI (2 ^ hd (lk tx ul) 2)), .int (nI (2 ^ hd (lk tx ul) 1)), .ref xn, .ref xb, .ref xv, .int (nI bd), .int (nI rd)])), (xt, aI G 400 tx), (xh, aI G 5 hh92), (xi, aI G 100 fi92), (xl, aI G 300 fl92), (xo, aI G 100 fo92), (xg, aI G 300 fg92), (xd, aZ G 100 fd92), (xs, aI G 5 sA), (xn, aI G 512 fx), (xb, aZ G 512 fb), (xv, aZ G 100 fv)] := hD
                          refine lv_iinc (v := nI (kB + 1)) (lv' := [(1, .int (nI (kB + 1))), (0, .ref qm)]) hx hb dM_load_158 hl (k := 1) rfl (nI_add _ 1) (by decide) rfl (fun ls hl => ?_)
                          refine lv_goto (tgt := 127) hx hb dM_load_161 rfl ?_
                          have hl : lv_has ls 6 [(0, .ref qm), (1, .int (nI (kB + 1)))] := lv_sub hl [1, 0] rfl
                          exact ih127 (kB + 1) (tB + ((fl92 ((3 * kB) + 2)) * 2 ^ kB)) _ _ _ (by omega) (by omega) (by rw [htB, hy3]; exact stB_s (fun k hk => hlx k (by omega))) hP hD hS hl
                    have hl : lv_has ls 6 [(0, .ref qm), (1, .int (nI 0))] := lv_sub hl [1, 0] rfl
                    exact loop127 (hd (lk tx ul) 2 - 0 + 1) 0 0 _ _ _ (by omega) (by omega) rfl hP hD hS hl
                  · have h75 : kA < 5 := Nat.lt_of_not_le (fun z => h75 ((nI_leI (a := 5) (b := kA) (by omega) (by omega)).mpr z))
                    refine lv_aload_n hx hb dM_load_78 rfl (lv_at hl 0 rfl) ?_
                    refine va_get (D := gD G) (ci := 6) (v := .ref xs) (C := "CircuitProverModel") (T := TM) (N := 20) hx hb htb inM hown hK hP 0 rfl rfl 11 (by decide) (htb _ b682) (fun _ h9 => h9) rfl dM_load_79 ?_
                    refine lv_iload_n hx hb dM_load_82 rfl (lv_at hl 1 rfl) ?_
                    refine lv_aload_n hx hb dM_load_83 rfl (lv_at hl 0 rfl) ?_
                    refine va_get (D := gD G) (ci := 6) (v := .ref xh) (C := "CircuitProverModel") (T := TM) (N := 20) hx hb htb inM hown hK hP 0 rfl rfl 4 (by decide) (htb _ b675) (fun _ h9 => h9) rfl dM_load_84 ?_
                    refine lv_iload_n hx hb dM_load_87 rfl (lv_at hl 1 rfl) ?_
                    refine k_iald hx hb hK hP 2 rfl (k := kA) (by omega) (by decide) dM_load_88 ?_
                    refine k_iast hx hb hK hP hD hS 8 rfl (k := kA) (v := hh92 kA) (by omega) (by decide) dM_load_89 (fun H locs hP hD hS => ?_)
                    have hP : va_P (gD G) vC [(qm, .inr (6, [.int (nI 0), .int (nI ul), .ref xt, .int (nI pt92), .ref xh, .ref xi, .ref xl, .ref xo, .ref xg, .ref xd, .int (zB ld), .ref xs, .int (nI stt), .int (nI sts), .int (nI drw), .ref xn, .ref xb, .ref xv, .int (nI bd), .int (nI rd)])), (xt, aI G 400 tx), (xh, aI G 5 hh92), (xi, aI G 100 fi92), (xl, aI G 300 fl92), (xo, aI G 100 fo92), (xg, aI G 300 fg92), (xd, aZ G 100 fd92), (xs, aI G 5 (va_up sA kA (hh92 kA))), (xn, aI G 512 fx), (xb, aZ G 512 fb), (xv, aZ G 100 fv)] H := hP
                    have hD : va_D A [(qm, .inr (6, [.int (nI 0), .int (nI ul), .ref xt, .int (nI pt92), .ref xh, .ref xi, .ref xl, .ref xo, .ref xg, .ref xd, .int (zB ld), .ref xs, .int (nI stt), .int (nI sts), .int (nI drw), .ref xn, .ref xb, .ref xv, .int (nI bd), .int (nI rd)])), (xt, aI G 400 tx), (xh, aI G 5 hh92), (xi, aI G 100 fi92), (xl, aI G 300 fl92), (xo, aI G 100 fo92), (xg, aI G 300 fg92), (xd, aZ G 100 fd92), (xs, aI G 5 (va_up sA kA (hh92 kA))), (xn, aI G 512 fx), (xb, aZ G 512 fb), (xv, aZ G 100 fv)] := hD
                    refine lv_iinc (v := nI (kA + 1)) (lv' := [(1, .int (nI (kA + 1))), (0, .ref qm)]) hx hb dM_load_90 hl (k := 1) rfl (nI_add _ 1) (by decide) rfl (fun ls hl => ?_)
                    refine lv_goto (tgt := 73) hx hb dM_load_93 rfl ?_
                    have hl : lv_has ls 6 [(0, .ref qm), (1, .int (nI (kA + 1)))] := lv_sub hl [1, 0] rfl
                    exact ih73 (kA + 1) (va_up sA kA (hh92 kA)) _ _ _ (by omega) (by omega) (fun c hc => by by_cases e9 : c = kA; (subst e9; exact va_up_self _ _ _); (rw [va_up_ne _ _ e9]; exact hsA c (by omega))) hP hD hS hl
              have hl : lv_has ls 6 [(0, .ref qm), (1, .int (nI 0))] := lv_sub hl [1, 0] rfl
              exact loop73 (5 - 0 + 1) 0 fs _ _ _ (by omega) (by omega) (fun c h => absurd h (Nat.not_lt_zero c)) hP hD hS hl
            · have h51 : 20 < hh92 4 := Nat.lt_of_not_le (fun z => h51 ((nI_leI (a := hh92 4) (b := 20) (by omega) (by omega)).mpr z))
              refine lv_iconst (v := nI 2) hx hb dM_load_54 (by decide) ?_
              refine lv_goto (tgt := 59) hx hb dM_load_55 rfl ?_
              refine va_put (D := gD G) (ci := 6) (v := .int (nI 2)) (ty := tyM 0) (C := "CircuitProverModel") (T := TM) (N := 20) hx hb htb inM tyM tyM_ok nmM hown hK hP hD hS 0 rfl rfl 0 (by decide) (htb _ b671) (fun _ h9 => h9) rfl (tyM_ok 0 (by decide)) rfl rfl (Nat.le_of_ble_eq_true rfl) dM_load_59 (fun H locs hP hD hS => ?_)
              have hP : va_P (gD G) vC [(qm, .inr (6, [.int (nI 2), .int (nI ul), .ref xt, .int (nI pt92), .ref xh, .ref xi, .ref xl, .ref xo, .ref xg, .ref xd, .int (zB ld), .ref xs, .int (nI stt), .int (nI sts), .int (nI drw), .ref xn, .ref xb, .ref xv, .int (nI bd), .int (nI rd)])), (xt, aI G 400 tx), (xh, aI G 5 hh92), (xi, aI G 100 fi92), (xl, aI G 300 fl92), (xo, aI G 100 fo92), (xg, aI G 300 fg92), (xd, aZ G 100 fd92), (xs, aI G 5 fs), (xn, aI G 512 fx), (xb, aZ G 512 fb), (xv, aZ G 100 fv)] H := hP
              have hD : va_D A [(qm, .inr (6, [.int (nI 2), .int (nI ul), .ref xt, .int (nI pt92), .ref xh, .ref xi, .ref xl, .ref xo, .ref xg, .ref xd, .int (zB ld), .ref xs, .int (nI stt), .int (nI sts), .int (nI drw), .ref xn, .ref xb, .ref xv, .int (nI bd), .int (nI rd)])), (xt, aI G 400 tx), (xh, aI G 5 hh92), (xi, aI G 100 fi92), (xl, aI G 300 fl92), (xo, aI G 100 fo92), (xg, aI G 300 fg92), (xd, aZ G 100 fd92), (xs, aI G 5 fs), (xn, aI G 512 fx), (xb, aZ G 512 fb), (xv, aZ G 100 fv)] := hD
              refine lv_aload_n hx hb dM_load_62 rfl (lv_at hl 0 rfl) ?_
              refine va_get (D := gD G) (ci := 6) (v := .int (nI 2)) (C := "CircuitProverModel") (T := TM) (N := 20) hx hb htb inM hown hK hP 0 rfl rfl 0 (by decide) (htb _ b671) (fun _ h9 => h9) rfl dM_load_63 ?_
              refine lv_if_le (tgt := 71) hx hb dM_load_66 rfl (fun h66 => (by revert h66; first | decide | exact fun z => absurd z (by decide) | exact fun z => z.elim (by decide))) (fun _ => ?_)
              refine lv_iconst (v := nI 0) hx hb dM_load_69 (by decide) ?_
              -- end 4
              rw [← hQ]
              exact k_iret hx hb hr hlocks rfl (u := (2, ul, pt92, ld, stt, sts, drw, hh92, fi92, fl92, fo92, fg92, fd92, fs, fx, fb, fv)) (Or.inr (Or.inl ⟨_, _, _, _, _, _, _, ⟨hcO, fun q => by have := q.2.2.2; omega⟩, rfl, rfl⟩)) hP hD hK hS dM_load_70
    · have h5 : b92 = false := zB_f h5
      refine lv_iconst (v := nI 1) hx hb dM_load_8 (by decide) ?_
      refine lv_goto (tgt := 59) hx hb dM_load_9 rfl ?_
      refine va_put (D := gD G) (ci := 6) (v := .int (nI 1)) (ty := tyM 0) (C := "CircuitProverModel") (T := TM) (N := 20) hx hb htb inM tyM tyM_ok nmM hown hK hP hD hS 0 rfl rfl 0 (by decide) (htb _ b671) (fun _ h9 => h9) rfl (tyM_ok 0 (by decide)) rfl rfl (Nat.le_of_ble_eq_true rfl) dM_load_59 (fun H locs hP hD hS => ?_)
      have hP : va_P (gD G) vC [(qm, .inr (6, [.int (nI 1), .int (nI ul), .ref xt, .int (nI pt92), .ref xh, .ref xi, .ref xl, .ref xo, .ref xg, .ref xd, .int (zB ld), .ref xs, .int (nI stt), .int (nI sts), .int (nI drw), .ref xn, .ref xb, .ref xv, .int (nI bd), .int (nI rd)])), (xt, aI G 400 tx), (xh, aI G 5 hh92), (xi, aI G 100 fi92), (xl, aI G 300 fl92), (xo, aI G 100 fo92), (xg, aI G 300 fg92), (xd, aZ G 100 fd92), (xs, aI G 5 fs), (xn, aI G 512 fx), (xb, aZ G 512 fb), (xv, aZ G 100 fv)] H := hP
      have hD : va_D A [(qm, .inr (6, [.int (nI 1), .int (nI ul), .ref xt, .int (nI pt92), .ref xh, .ref xi, .ref xl, .ref xo, .ref xg, .ref xd, .int (zB ld), .ref xs, .int (nI stt), .int (nI sts), .int (nI drw), .ref xn, .ref xb, .ref xv, .int (nI bd), .int (nI rd)])), (xt, aI G 400 tx), (xh, aI G 5 hh92), (xi, aI G 100 fi92), (xl, aI G 300 fl92), (xo, aI G 100 fo92), (xg, aI G 300 fg92), (xd, aZ G 100 fd92), (xs, aI G 5 fs), (xn, aI G 512 fx), (xb, aZ G 512 fb), (xv, aZ G 100 fv)] := hD
      refine lv_aload_n hx hb dM_load_62 rfl (lv_at hl 0 rfl) ?_
      refine va_get (D := gD G) (ci := 6) (v := .int (nI 1)) (C := "CircuitProverModel") (T := TM) (N := 20) hx hb htb inM hown hK hP 0 rfl rfl 0 (by decide) (htb _ b671) (fun _ h9 => h9) rfl dM_load_63 ?_
      refine lv_if_le (tgt := 71) hx hb dM_load_66 rfl (fun h66 => (by revert h66; first | decide | exact fun z => absurd z (by decide) | exact fun z => z.elim (by decide))) (fun _ => ?_)
      refine lv_iconst (v := nI 0) hx hb dM_load_69 (by decide) ?_
      -- end 5
      rw [← hQ]
      exact k_iret hx hb hr hlocks rfl (u := (1, ul, pt92, ld, stt, sts, drw, hh92, fi92, fl92, fo92, fg92, fd92, fs, fx, fb, fv)) (Or.inr (Or.inr ⟨_, _, _, _, _, _, _, fun q => by rw [hc2_o.mpr q] at h5; exact Bool.noConfusion h5, rfl, rfl⟩)) hP hD hK hS dM_load_70
  rw [hH, hlc] at hgo
  exact hgo
