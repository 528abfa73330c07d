def rS (T : Nat → Nat) (N ni nl ng ml mo mg g : Nat) (fd : Nat → Bool) : Prop :=
  (g = 1 ∧ dOK T (ni + nl + ng) ∧ (∀ v, v < 50 → (fd v = true ↔ isD T (ni + nl + ng) v)) ∧ (∀ k, k < nl → xla T k 2 < 2) ∧ (∀ k, k < ng → xga T k 1 < xga T k 0 ∧ xga T k 2 < xga T k 0)
    ∧ (∀ k, k < ml → mOK T (xla T k 1)) ∧ (∀ k, k < mo → mOK T (xou T k)) ∧ ∀ k, k < mg → mOK T (xga T k 1) ∧ mOK T (xga T k 2)) ∨ (g = 0 ∧ ¬ circOK T N)
theorem rS_start {T : Nat → Nat} {N : Nat} {fd : Nat → Bool} (h : ∀ v, v < 100 → fd v = false) : rS T N 0 0 0 0 0 0 1 fd := by
  refine Or.inl ⟨rfl, fun m hm => absurd hm (Nat.not_lt_zero m), fun v hv => ?_, fun k h => absurd h (Nat.not_lt_zero k), fun k h => absurd h (Nat.not_lt_zero k), fun k h => absurd h (Nat.not_lt_zero k), fun k h => absurd h (Nat.not_lt_zero k), fun k h => absurd h (Nat.not_lt_zero k)⟩
  rw [h v (by omega)]
  exact ⟨fun e => Bool.noConfusion e, fun ⟨m, hm, _⟩ => absurd hm (Nat.not_lt_zero m)⟩
theorem rS_0 {T : Nat → Nat} {N ni nl ng ml mo mg g : Nat} {fd : Nat → Bool} {ni' nl' ng' ml' mo' mg' : Nat} {fd' : Nat → Bool} (h : rS T N ni nl ng ml mo mg g fd) (hg : g = 0) : rS T N ni' nl' ng' ml' mo' mg' 0 fd' := by
  rcases h with h | h
  · have := h.1; omega
  · exact Or.inr ⟨rfl, h.2⟩
theorem rS_no {T : Nat → Nat} {N ni nl ng ml mo mg g : Nat} {fd : Nat → Bool} {ni' nl' ng' ml' mo' mg' : Nat} {fd' : Nat → Bool} (h : rS T N ni nl ng ml mo mg g fd) (hg : rS T N ni nl ng ml mo mg 1 fd → ¬ circOK T N) : rS T N ni' nl' ng' ml' mo' mg' 0 fd' := by
  rcases h with h | h
  · exact Or.inr ⟨rfl, hg (Or.inl ⟨rfl, h.2⟩)⟩
  · exact Or.inr ⟨rfl, h.2⟩
theorem rS_1 {T : Nat → Nat} {N ni nl ng ml mo mg : Nat} {fd : Nat → Bool} (h : rS T N ni nl ng ml mo mg 1 fd) : dOK T (ni + nl + ng) ∧ (∀ v, v < 50 → (fd v = true ↔ isD T (ni + nl + ng) v)) ∧ (∀ k, k < nl → xla T k 2 < 2) ∧ (∀ k, k < ng → xga T k 1 < xga T k 0 ∧ xga T k 2 < xga T k 0)
    ∧ (∀ k, k < ml → mOK T (xla T k 1)) ∧ (∀ k, k < mo → mOK T (xou T k)) ∧ ∀ k, k < mg → mOK T (xga T k 1) ∧ mOK T (xga T k 2) := by
  rcases h with h | h
  · exact h.2
  · exact absurd h.1 (by decide)
theorem rS_g {T : Nat → Nat} {N ni nl ng ml mo mg g : Nat} {fd : Nat → Bool} (h : rS T N ni nl ng ml mo mg g fd) (hg : ¬ g = 0) : rS T N ni nl ng ml mo mg 1 fd := by
  rcases h with h | h
  · exact Or.inl ⟨rfl, h.2⟩
  · exact absurd h.1 hg
theorem ltP {P : Nat → Prop} {n : Nat} (h : ∀ k, k < n → P k) (hn : P n) : ∀ k, k < n + 1 → P k := fun k hk => by
  by_cases e : k = n
  · subst e; exact hn
  · exact h k (by omega)
theorem rS_in {T : Nat → Nat} {N k g : Nat} {fd : Nat → Bool} (hk : k < hd T 1) (h : rS T N k 0 0 0 0 0 g fd) (hg : ¬ g = 0) (hd0 : dGood T fd (xin T k)) : rS T N (k + 1) 0 0 0 0 0 1 (va_up fd (xin T k / 2) true) := by
  obtain ⟨a, b, c⟩ := rS_1 (rS_g h hg)
  obtain ⟨a2, b2⟩ := def_ok (dl_in hk) (xin_lt T k) a b hd0
  exact Or.inl ⟨rfl, a2, b2, c⟩
theorem rS_inn {T : Nat → Nat} {N k : Nat} {fd : Nat → Bool} (hk : k < hd T 1) (h : rS T N k 0 0 0 0 0 1 fd) (hd0 : ¬ dGood T fd (xin T k)) : ¬ circOK T N := by
  obtain ⟨a, b, c⟩ := rS_1 h
  exact fun q => def_no (dl_in hk) (xin_lt T k) b hd0 (dOK_mono q.2.1 (by unfold dN; omega))
theorem rS_la {T : Nat → Nat} {N k g : Nat} {fd : Nat → Bool} (hk : k < hd T 2) (h : rS T N (hd T 1) k 0 0 0 0 g fd) (hg : ¬ g = 0) (hd0 : dGood T fd (xla T k 0)) (h2 : xla T k 2 < 2) : rS T N (hd T 1) (k + 1) 0 0 0 0 1 (va_up fd (xla T k 0 / 2) true) := by
  obtain ⟨a, b, c, d⟩ := rS_1 (rS_g h hg)
  obtain ⟨a2, b2⟩ := def_ok (dl_la hk) (xla_lt T k 0) a b hd0
  exact Or.inl ⟨rfl, a2, b2, ltP c h2, d⟩
theorem rS_lan {T : Nat → Nat} {N k : Nat} {fd : Nat → Bool} (hk : k < hd T 2) (h : rS T N (hd T 1) k 0 0 0 0 1 fd) (hd0 : ¬ dGood T fd (xla T k 0)) : ¬ circOK T N := by
  obtain ⟨a, b, c⟩ := rS_1 h
  exact fun q => def_no (dl_la hk) (xla_lt T k 0) b hd0 (dOK_mono q.2.1 (by unfold dN; omega))
theorem rS_ga {T : Nat → Nat} {N k g : Nat} {fd : Nat → Bool} (hk : k < hd T 4) (h : rS T N (hd T 1) (hd T 2) k 0 0 0 g fd) (hg : ¬ g = 0) (hd0 : dGood T fd (xga T k 0)) (h2 : xga T k 1 < xga T k 0 ∧ xga T k 2 < xga T k 0) : rS T N (hd T 1) (hd T 2) (k + 1) 0 0 0 1 (va_up fd (xga T k 0 / 2) true) := by
  obtain ⟨a, b, c, d, e⟩ := rS_1 (rS_g h hg)
  obtain ⟨a2, b2⟩ := def_ok (dl_ga hk) (xga_lt T k 0) a b hd0
  exact Or.inl ⟨rfl, a2, b2, c, ltP d h2, e⟩
theorem rS_gan {T : Nat → Nat} {N k : Nat} {fd : Nat → Bool} (hk : k < hd T 4) (h : rS T N (hd T 1) (hd T 2) k 0 0 0 1 fd) (hd0 : ¬ dGood T fd (xga T k 0)) : ¬ circOK T N := by
  obtain ⟨a, b, c⟩ := rS_1 h
  exact fun q => def_no (dl_ga hk) (xga_lt T k 0) b hd0 (dOK_mono q.2.1 (by unfold dN; omega))
/-- a literal that is named: what the reference asks of it -/
def mnR (T : Nat → Nat) (fd : Nat → Bool) (x : Nat) : Prop := x < 2 ∨ (x ≤ 2 * hd T 0 + 1 ∧ fd (x / 2) = true)
theorem mn_iff {T : Nat → Nat} {N ml mo mg x : Nat} {fd : Nat → Bool} (h : rS T N (hd T 1) (hd T 2) (hd T 4) ml mo mg 1 fd) (hx : x < 100) : mnR T fd x ↔ mOK T x := by
  obtain ⟨a, b, c⟩ := rS_1 h
  unfold mnR mOK
  refine or_congr Iff.rfl (and_congr Iff.rfl ?_)
  exact b (x / 2) (by omega)
theorem rS_ml {T : Nat → Nat} {N k g : Nat} {fd : Nat → Bool} (h : rS T N (hd T 1) (hd T 2) (hd T 4) k 0 0 g fd) (hg : ¬ g = 0) (hm : mnR T fd (xla T k 1)) : rS T N (hd T 1) (hd T 2) (hd T 4) (k + 1) 0 0 1 fd := by
  have hm := (mn_iff (rS_g h hg) (xla_lt T k 1)).mp hm
  obtain ⟨a, b, c, d, e, f⟩ := rS_1 (rS_g h hg)
  exact Or.inl ⟨rfl, a, b, c, d, ltP e hm, f⟩
theorem rS_mln {T : Nat → Nat} {N k : Nat} {fd : Nat → Bool} (hk : k < hd T 2) (h : rS T N (hd T 1) (hd T 2) (hd T 4) k 0 0 1 fd) (hm : ¬ mnR T fd (xla T k 1)) : ¬ circOK T N := fun q => hm ((mn_iff h (xla_lt T k 1)).mpr (q.2.2.2.2.1 k hk))
theorem rS_mo {T : Nat → Nat} {N k g : Nat} {fd : Nat → Bool} (h : rS T N (hd T 1) (hd T 2) (hd T 4) (hd T 2) k 0 g fd) (hg : ¬ g = 0) (hm : mnR T fd (xou T k)) : rS T N (hd T 1) (hd T 2) (hd T 4) (hd T 2) (k + 1) 0 1 fd := by
  have hm := (mn_iff (rS_g h hg) (xou_lt T k)).mp hm
  obtain ⟨a, b, c, d, e, f, i⟩ := rS_1 (rS_g h hg)
  exact Or.inl ⟨rfl, a, b, c, d, e, ltP f hm, i⟩
theorem rS_mon {T : Nat → Nat} {N k : Nat} {fd : Nat → Bool} (hk : k < hd T 3) (h : rS T N (hd T 1) (hd T 2) (hd T 4) (hd T 2) k 0 1 fd) (hm : ¬ mnR T fd (xou T k)) : ¬ circOK T N := fun q => hm ((mn_iff h (xou_lt T k)).mpr (q.2.2.2.2.2.1 k hk))
theorem rS_mg {T : Nat → Nat} {N k g : Nat} {fd : Nat → Bool} (h : rS T N (hd T 1) (hd T 2) (hd T 4) (hd T 2) (hd T 3) k g fd) (hg : ¬ g = 0) (hm : mnR T fd (xga T k 1)) (hm2 : mnR T fd (xga T k 2)) : rS T N (hd T 1) (hd T 2) (hd T 4) (hd T 2) (hd T 3) (k + 1) 1 fd := by
  have hm := (mn_iff (rS_g h hg) (xga_lt T k 1)).mp hm
  have hm2 := (mn_iff (rS_g h hg) (xga_lt T k 2)).mp hm2
  obtain ⟨a, b, c, d, e, f, i⟩ := rS_1 (rS_g h hg)
  exact Or.inl ⟨rfl, a, b, c, d, e, f, ltP i ⟨hm, hm2⟩⟩
theorem rS_mgn {T : Nat → Nat} {N k : Nat} {fd : Nat → Bool} (hk : k < hd T 4) (h : rS T N (hd T 1) (hd T 2) (hd T 4) (hd T 2) (hd T 3) k 1 fd) (hm : ¬ mnR T fd (xga T k 1) ∨ ¬ mnR T fd (xga T k 2)) : ¬ circOK T N := fun q => by
  rcases hm with hm | hm
  · exact hm ((mn_iff h (xga_lt T k 1)).mpr (q.2.2.2.2.2.2 k hk).1)
  · exact hm ((mn_iff h (xga_lt T k 2)).mpr (q.2.2.2.2.2.2 k hk).2)
theorem rS_end {T : Nat → Nat} {N g : Nat} {fd : Nat → Bool} (hl : linesOK T N) (h : rS T N (hd T 1) (hd T 2) (hd T 4) (hd T 2) (hd T 3) (hd T 4) g fd) : decide (g = 1) = true ↔ circOK T N := by
  rw [decide_eq_true_eq]
  rcases h with h | h
  · obtain ⟨a, b, c, d, e, f, i, j⟩ := h
    exact ⟨fun _ => ⟨hl, b, d, e, f, i, j⟩, fun _ => a⟩
  · exact ⟨fun q => by omega, fun q => absurd q h.2⟩
theorem g01 {g : Nat} (h : g ≤ 1) : nI g = zB (decide (g = 1)) := by
  rcases (show g = 0 ∨ g = 1 by omega) with rfl | rfl
  · rfl
  · rfl
set_option maxRecDepth 100000 in
set_option maxHeartbeats 4000000 in
theorem k_M_defines (l : Launch) (G : GG) (sz : Nat) (qm : Nat) (xt : Nat) (xh : Nat) (xi : Nat) (xl : Nat) (xo : Nat) (xg : Nat) (xd : Nat) (xs : Nat) (xn : Nat) (xb : Nat) (xv : Nat) (th : Nat) (ul : Nat) (pt : Nat) (ld : Bool) (stt : Nat) (sts : Nat) (drw : Nat) (bd : Nat) (rd : Nat) (hh : Nat → Nat) (fd : Nat → Bool) (x : Nat) (hx9 : x < 100) (hh0 : hh 0 < 100) : Ki l yM_defines cM_defines 3 .boolean 0 0 G [.ref qm, .int (nI x)] [(qm, .inr (6, [.int (nI th), .int (nI ul), .ref xt, .int (nI pt), .ref xh, .ref xi, .ref xl, .ref xo, .ref xg, .ref xd, .int (zB ld), .ref xs, .int (nI stt), .int (nI sts), .int (nI drw), .ref xn, .ref xb, .ref xv, .int (nI bd), .int (nI rd)])), (xh, aI G 5 hh), (xd, aZ G 100 fd)] sz (fun (r : Int32) (u : (Nat → Bool)) => ((2 ≤ x ∧ x % 2 = 0 ∧ x ≤ 2 * hh 0 + 1 ∧ fd (x / 2) = false) ∧ nI 1 = r ∧ va_up fd (x / 2) true = u) ∨ ((¬ (2 ≤ x ∧ x % 2 = 0 ∧ x ≤ 2 * hh 0 + 1 ∧ fd (x / 2) = false)) ∧ nI 0 = r ∧ fd = u)) (fun (u : (Nat → Bool)) => [(qm, .inr (6, [.int (nI th), .int (nI ul), .ref xt, .int (nI pt), .ref xh, .ref xi, .ref xl, .ref xo, .ref xg, .ref xd, .int (zB ld), .ref xs, .int (nI stt), .int (nI sts), .int (nI drw), .ref xn, .ref xb, .ref xv, .int (nI bd), .int (nI rd)])), (xh, aI G 5 hh), (xd, aZ G 100 u)]) := by
  refine Met.ofW (cc := cM_defines) (maxL := 3) (ret := (some .boolean)) (by decide) rfl ?_
  intro p e s m args below meth c s₁ B hml hv
  obtain ⟨hav, hsz, hP, hK, hD0, hE⟩ := hv
  have hx := B.exec
  have hb := B.bytes
  have hr := B.returns
  have htb : ∀ w ∈ TB, w.before args s = true := fun w h => atoms_spec (ws := Cond.code yM_defines cM_defines 3 (some .boolean) :: TB) B.pre w (List.mem_cons_of_mem _ h)
  have hown : s.vm.findClass "CircuitProverModel" = some m.cls := findClass_of_methodNamed B.named
  have hlocks := B.notSynchronized
  subst hsz
  have hD := hD0.self (sz := s.heap.size)
  clear hD0
  generalize hRm : (headSpec (Cond.code yM_defines cM_defines 3 (some .boolean) :: TB) { frames := 0, cells := 0, slots := 0, locals := 0 }).room = R
  have hRf : R.frames = 0 := by rw [← hRm]; rfl
  have hRl : R.locals = 0 := by rw [← hRm]; rfl
  have hRc : R.cells = 0 := by rw [← hRm]; rfl
  have hRs : R.slots = 0 := by rw [← hRm]; rfl
  clear hRm
  generalize hAe : va_A [(qm, .inr (6, [.int (nI th), .int (nI ul), .ref xt, .int (nI pt), .ref xh, .ref xi, .ref xl, .ref xo, .ref xg, .ref xd, .int (zB ld), .ref xs, .int (nI stt), .int (nI sts), .int (nI drw), .ref xn, .ref xb, .ref xv, .int (nI bd), .int (nI rd)])), (xh, aI G 5 hh), (xd, aZ G 100 fd)] s.heap.size = A at hD hE ⊢
  have hA : ∀ q : Nat, s.heap.size ≤ q → A q := fun q h => by rw [← hAe]; exact Or.inr h
  clear hAe
  have hS : va_S A s.heap s.heap [] := va_S.rf
  have hl := lv_entry ([.ref qm, .int (nI x)]) (n := 3) (Nat.le_of_ble_eq_true rfl)
  have hent := lg_entry_eq m ([.ref qm, .int (nI x)]) 3
  rw [← hav] at hent
  rw [hent]
  clear hent hav
  generalize (lg_sl ([.ref qm, .int (nI x)]) ++ List.replicate (3 - (lg_sl ([.ref qm, .int (nI x)])).length) Slot.unset).toArray = ls at hl ⊢
  have hl : lv_has ls 3 [(0, .ref qm), (1, .int (nI x))] := hl
  generalize hQ : MQ below _ args s 0 0 _ = Q
  have hP : va_P (gD G) vC [(qm, .inr (6, [.int (nI th), .int (nI ul), .ref xt, .int (nI pt), .ref xh, .ref xi, .ref xl, .ref xo, .ref xg, .ref xd, .int (zB ld), .ref xs, .int (nI stt), .int (nI sts), .int (nI drw), .ref xn, .ref xb, .ref xv, .int (nI bd), .int (nI rd)])), (xh, aI G 5 hh), (xd, aZ G 100 fd)] s.heap := hP
  obtain ⟨H, hH⟩ : ∃ H : Heap, H = s.heap := ⟨_, rfl⟩
  obtain ⟨locs, hlc⟩ : ∃ L : List Loc, L = [] := ⟨_, rfl⟩
  have hS : va_S A s.heap H locs := by rw [hH, hlc]; exact hS
  have hP : va_P (gD G) vC [(qm, .inr (6, [.int (nI th), .int (nI ul), .ref xt, .int (nI pt), .ref xh, .ref xi, .ref xl, .ref xo, .ref xg, .ref xd, .int (zB ld), .ref xs, .int (nI stt), .int (nI sts), .int (nI drw), .ref xn, .ref xb, .ref xv, .int (nI bd), .int (nI rd)])), (xh, aI G 5 hh), (xd, aZ G 100 fd)] H := by rw [hH]; exact hP
  have hgo : W p l e R s m args below meth c H locs 0 0 Q (F0 m 0 ls []) := by
    clear hH hlc
    refine lv_iload_n hx hb dM_defines_0 rfl (lv_at hl 1 rfl) ?_
    refine lv_iconst (v := nI 2) hx hb dM_defines_1 (by decide) ?_
    refine lv_idiv hx hb dM_defines_2 (nI_ne0 (by omega) (by omega)) ?_
    refine k_toi (y := nI (x / 2)) (pk_div (by omega) (by omega) (by omega)) ?_
    refine lv_istore_n (lv' := [(2, .int (nI (x / 2))), (0, .ref qm), (1, .int (nI x))]) hx hb dM_defines_3 rfl hl (by decide) rfl (fun ls hl => ?_)
    refine lv_iload_n hx hb dM_defines_4 rfl (lv_at hl 2 rfl) ?_
    refine lv_iconst (v := nI 2) hx hb dM_defines_5 (by decide) ?_
    refine lv_icmp_lt (tgt := 35) hx hb dM_defines_6 rfl (fun h6 => ?_) (fun h6 => ?_)
    · have h6 : x < 2 := (nI_ltI (a := x) (b := 2) (by omega) (by omega)).mp h6
      refine lv_iconst (v := nI 0) hx hb dM_defines_35 (by decide) ?_
      -- end 0
      rw [← hQ]
      exact k_iret hx hb hr hlocks (by decide) (u := fd) (Or.inr ⟨fun z => by omega, rfl, rfl⟩) hP hD hK hS dM_defines_36
    · have h6 : 2 ≤ x := Nat.le_of_not_lt (fun z => h6 ((nI_ltI (a := x) (b := 2) (by omega) (by omega)).mpr z))
      refine lv_iload_n hx hb dM_defines_9 rfl (lv_at hl 2 rfl) ?_
      refine lv_iconst (v := nI 2) hx hb dM_defines_10 (by decide) ?_
      refine lv_irem hx hb dM_defines_11 (nI_ne0 (by omega) (by omega)) ?_
      refine k_toi (y := nI (x % 2)) (pk_rem (by omega) (by omega) (by omega)) ?_
      refine lv_iconst (v := nI 1) hx hb dM_defines_12 (by decide) ?_
      refine lv_icmp_eq (tgt := 35) hx hb dM_defines_13 rfl (fun h13 => ?_) (fun h13 => ?_)
      · have h13 : x % 2 = 1 := (nI_eq (a := x % 2) (b := 1) (by omega) (by omega)).mp h13
        refine lv_iconst (v := nI 0) hx hb dM_defines_35 (by decide) ?_
        -- end 1
        rw [← hQ]
        exact k_iret hx hb hr hlocks (by decide) (u := fd) (Or.inr ⟨fun z => by omega, rfl, rfl⟩) hP hD hK hS dM_defines_36
      · have h13 : ¬ x % 2 = 1 := fun z => h13 ((nI_eq (a := x % 2) (b := 1) (by omega) (by omega)).mpr z)
        refine lv_iload_n hx hb dM_defines_16 rfl (lv_at hl 0 rfl) ?_
        refine lv_aload_n hx hb dM_defines_17 rfl (lv_at hl 1 rfl) ?_
        refine va_get (D := gD G) (ci := 6) (v := .ref xh) (C := "CircuitProverModel") (T := TM) (N := 20) hx hb htb inM hown hK hP 0 rfl rfl 4 (by decide) (htb _ b675) (fun _ h9 => h9) rfl dM_defines_18 ?_
        refine lv_iconst (v := nI 0) hx hb dM_defines_21 (by decide) ?_
        refine k_iald hx hb hK hP 1 rfl (k := 0) (by omega) (by decide) dM_defines_22 ?_
        refine lv_icmp_gt (tgt := 35) hx hb dM_defines_23 rfl (fun h23 => ?_) (fun h23 => ?_)
        · have h23 : hh 0 < x / 2 := (nI_ltI (a := hh 0) (b := x / 2) (by omega) (by omega)).mp h23
          refine lv_iconst (v := nI 0) hx hb dM_defines_35 (by decide) ?_
          -- end 2
          rw [← hQ]
          exact k_iret hx hb hr hlocks (by decide) (u := fd) (Or.inr ⟨fun z => by omega, rfl, rfl⟩) hP hD hK hS dM_defines_36
        · have h23 : x / 2 ≤ hh 0 := Nat.le_of_not_lt (fun z => h23 ((nI_ltI (a := hh 0) (b := x / 2) (by omega) (by omega)).mpr z))
          refine lv_aload_n hx hb dM_defines_26 rfl (lv_at hl 1 rfl) ?_
          refine va_get (D := gD G) (ci := 6) (v := .ref xd) (C := "CircuitProverModel") (T := TM) (N := 20) hx hb htb inM hown hK hP 0 rfl rfl 9 (by decide) (htb _ b680) (fun _ h9 => h9) rfl dM_defines_27 ?_
          refine lv_iload_n hx hb dM_defines_30 rfl (lv_at hl 0 rfl) ?_
          refine k_zald hx hb hK hP 2 rfl (k := x / 2) (by omega) (by decide) dM_defines_31 ?_
          refine lv_if_eq (tgt := 37) hx hb dM_defines_32 rfl (fun h32 => ?_) (fun h32 => ?_)
          · have h32 : fd (x / 2) = false := zB_f h32
            refine lv_aload_n hx hb dM_defines_37 rfl (lv_at hl 1 rfl) ?_
            refine va_get (D := gD G) (ci := 6) (v := .ref xd) (C := "CircuitProverModel") (T := TM) (N := 20) hx hb htb inM hown hK hP 0 rfl rfl 9 (by decide) (htb _ b680) (fun _ h9 => h9) rfl dM_defines_38 ?_
            refine lv_iload_n hx hb dM_defines_41 rfl (lv_at hl 0 rfl) ?_
            refine lv_iconst (v := nI 1) hx hb dM_defines_42 (by decide) ?_
            refine k_toi (y := zB true) (by decide) ?_
            refine k_zast hx hb hK hP hD hS 2 rfl (k := x / 2) (v := true) (by omega) (by decide) dM_defines_43 (fun H locs hP hD hS => ?_)
            have hP : va_P (gD G) vC [(qm, .inr (6, [.int (nI th), .int (nI ul), .ref xt, .int (nI pt), .ref xh, .ref xi, .ref xl, .ref xo, .ref xg, .ref xd, .int (zB ld), .ref xs, .int (nI stt), .int (nI sts), .int (nI drw), .ref xn, .ref xb, .ref xv, .int (nI bd), .int (nI rd)])), (xh, aI G 5 hh), (xd, aZ G 100 (va_up fd (x / 2) true))] H := hP
            have hD : va_D A [(qm, .inr (6, [.int (nI th), .int (nI ul), .ref xt, .int (nI pt), .ref xh, .ref xi, .ref xl, .ref xo, .ref xg, .ref xd, .int (zB ld), .ref xs, .int (nI stt), .int (nI sts), .int (nI drw), .ref xn, .ref xb, .ref xv, .int (nI bd), .int (nI rd)])), (xh, aI G 5 hh), (xd, aZ G 100 (va_up fd (x / 2) true))] := hD
            refine lv_iconst (v := nI 1) hx hb dM_defines_44 (by decide) ?_
            -- end 3
            rw [← hQ]
            exact k_iret hx hb hr hlocks (by decide) (u := (va_up fd (x / 2) true)) (Or.inl ⟨⟨by omega, by omega, by omega, h32⟩, rfl, rfl⟩) hP hD hK hS dM_defines_45
          · have h32 : fd (x / 2) = true := zB_t h32
            refine lv_iconst (v := nI 0) hx hb dM_defines_35 (by decide) ?_
            -- end 4
            rw [← hQ]
            exact k_iret hx hb hr hlocks (by decide) (u := fd) (Or.inr ⟨fun z => (by rw [h32] at z; exact Bool.noConfusion z.2.2.2), rfl, rfl⟩) hP hD hK hS dM_defines_36
  rw [hH, hlc] at hgo
  exact hgo
set_option maxRecDepth 100000 in
set_option maxHeartbeats 4000000 in
theorem k_M_means (l : Launch) (G : GG) (sz : Nat) (qm : Nat) (xt : Nat) (xh : Nat) (xi : Nat) (xl : Nat) (xo : Nat) (xg : Nat) (xd : Nat) (xs : Nat) (xn : Nat) (xb : Nat) (xv : Nat) (th : Nat) (ul : Nat) (pt : Nat) (ld : Bool) (stt : Nat) (sts : Nat) (drw : Nat) (bd : Nat) (rd : Nat) (hh : Nat → Nat) (fd : Nat → Bool) (x : Nat) (hx9 : x < 100) (hh0 : hh 0 < 100) : Ki l yM_means cM_means 2 .boolean 0 0 G [.ref qm, .int (nI x)] [(qm, .inr (6, [.int (nI th), .int (nI ul), .ref xt, .int (nI pt), .ref xh, .ref xi, .ref xl, .ref xo, .ref xg, .ref xd, .int (zB ld), .ref xs, .int (nI stt), .int (nI sts), .int (nI drw), .ref xn, .ref xb, .ref xv, .int (nI bd), .int (nI rd)])), (xh, aI G 5 hh), (xd, aZ G 100 fd)] sz (fun (r : Int32) (u : Unit) => ((x < 2 ∨ (x ≤ 2 * hh 0 + 1 ∧ fd (x / 2) = true)) ∧ nI 1 = r ∧ () = u) ∨ ((¬ (x < 2 ∨ (x ≤ 2 * hh 0 + 1 ∧ fd (x / 2) = true))) ∧ nI 0 = r ∧ () = u)) (fun (u : Unit) => [(qm, .inr (6, [.int (nI th), .int (nI ul), .ref xt, .int (nI pt), .ref xh, .ref xi, .ref xl, .ref xo, .ref xg, .ref xd, .int (zB ld), .ref xs, .int (nI stt), .int (nI sts), .int (nI drw), .ref xn, .ref xb, .ref xv, .int (nI bd), .int (nI rd)])), (xh, aI G 5 hh), (xd, aZ G 100 fd)]) := by
  refine Met.ofW (cc := cM_means) (maxL := 2) (ret := (some .boolean)) (by decide) rfl ?_
  intro p e s m args below meth c s₁ B hml hv
  obtain ⟨hav, hsz, hP, hK, hD0, hE⟩ := hv
  have hx := B.exec
  have hb := B.bytes
  have hr := B.returns
  have htb : ∀ w ∈ TB, w.before args s = true := fun w h => atoms_spec (ws := Cond.code yM_means cM_means 2 (some .boolean) :: TB) B.pre w (List.mem_cons_of_mem _ h)
  have hown : s.vm.findClass "CircuitProverModel" = some m.cls := findClass_of_methodNamed B.named
  have hlocks := B.notSynchronized
  subst hsz
  have hD := hD0.self (sz := s.heap.size)
  clear hD0
  generalize hRm : (headSpec (Cond.code yM_means cM_means 2 (some .boolean) :: TB) { frames := 0, cells := 0, slots := 0, locals := 0 }).room = R
  have hRf : R.frames = 0 := by rw [← hRm]; rfl
  have hRl : R.locals = 0 := by rw [← hRm]; rfl
  have hRc : R.cells = 0 := by rw [← hRm]; rfl
  have hRs : R.slots = 0 := by rw [← hRm]; rfl
  clear hRm
  generalize hAe : va_A [(qm, .inr (6, [.int (nI th), .int (nI ul), .ref xt, .int (nI pt), .ref xh, .ref xi, .ref xl, .ref xo, .ref xg, .ref xd, .int (zB ld), .ref xs, .int (nI stt), .int (nI sts), .int (nI drw), .ref xn, .ref xb, .ref xv, .int (nI bd), .int (nI rd)])), (xh, aI G 5 hh), (xd, aZ G 100 fd)] s.heap.size = A at hD hE ⊢
  have hA : ∀ q : Nat, s.heap.size ≤ q → A q := fun q h => by rw [← hAe]; exact Or.inr h
  clear hAe
  have hS : va_S A s.heap s.heap [] := va_S.rf
  have hl := lv_entry ([.ref qm, .int (nI x)]) (n := 2) (Nat.le_of_ble_eq_true rfl)
  have hent := lg_entry_eq m ([.ref qm, .int (nI x)]) 2
  rw [← hav] at hent
  rw [hent]
  clear hent hav
  generalize (lg_sl ([.ref qm, .int (nI x)]) ++ List.replicate (2 - (lg_sl ([.ref qm, .int (nI x)])).length) Slot.unset).toArray = ls at hl ⊢
  have hl : lv_has ls 2 [(0, .ref qm), (1, .int (nI x))] := hl
  generalize hQ : MQ below _ args s 0 0 _ = Q
  have hP : va_P (gD G) vC [(qm, .inr (6, [.int (nI th), .int (nI ul), .ref xt, .int (nI pt), .ref xh, .ref xi, .ref xl, .ref xo, .ref xg, .ref xd, .int (zB ld), .ref xs, .int (nI stt), .int (nI sts), .int (nI drw), .ref xn, .ref xb, .ref xv, .int (nI bd), .int (nI rd)])), (xh, aI G 5 hh), (xd, aZ G 100 fd)] s.heap := hP
  obtain ⟨H, hH⟩ : ∃ H : Heap, H = s.heap := ⟨_, rfl⟩
  obtain ⟨locs, hlc⟩ : ∃ L : List Loc, L = [] := ⟨_, rfl⟩
  have hS : va_S A s.heap H locs := by rw [hH, hlc]; exact hS
  have hP : va_P (gD G) vC [(qm, .inr (6, [.int (nI th), .int (nI ul), .ref xt, .int (nI pt), .ref xh, .ref xi, .ref xl, .ref xo, .ref xg, .ref xd, .int (zB ld), .ref xs, .int (nI stt), .int (nI sts), .int (nI drw), .ref xn, .ref xb, .ref xv, .int (nI bd), .int (nI rd)])), (xh, aI G 5 hh), (xd, aZ G 100 fd)] H := by rw [hH]; exact hP
  have hgo : W p l e R s m args below meth c H locs 0 0 Q (F0 m 0 ls []) := by
    clear hH hlc
    refine lv_iload_n hx hb dM_means_0 rfl (lv_at hl 1 rfl) ?_
    refine lv_iconst (v := nI 2) hx hb dM_means_1 (by decide) ?_
    refine lv_icmp_lt (tgt := 30) hx hb dM_means_2 rfl (fun h2 => ?_) (fun h2 => ?_)
    · have h2 : x < 2 := (nI_ltI (a := x) (b := 2) (by omega) (by omega)).mp h2
      refine lv_iconst (v := nI 1) hx hb dM_means_30 (by decide) ?_
      refine lv_goto (tgt := 35) hx hb dM_means_31 rfl ?_
      -- end 0
      rw [← hQ]
      exact k_iret hx hb hr hlocks (by decide) (u := ()) (Or.inl ⟨Or.inl h2, rfl, rfl⟩) hP hD hK hS dM_means_35
    · have h2 : 2 ≤ x := Nat.le_of_not_lt (fun z => h2 ((nI_ltI (a := x) (b := 2) (by omega) (by omega)).mpr z))
      refine lv_iload_n hx hb dM_means_5 rfl (lv_at hl 1 rfl) ?_
      refine lv_iconst (v := nI 2) hx hb dM_means_6 (by decide) ?_
      refine lv_aload_n hx hb dM_means_7 rfl (lv_at hl 0 rfl) ?_
      refine va_get (D := gD G) (ci := 6) (v := .ref xh) (C := "CircuitProverModel") (T := TM) (N := 20) hx hb htb inM hown hK hP 0 rfl rfl 4 (by decide) (htb _ b675) (fun _ h9 => h9) rfl dM_means_8 ?_
      refine lv_iconst (v := nI 0) hx hb dM_means_11 (by decide) ?_
      refine k_iald hx hb hK hP 1 rfl (k := 0) (by omega) (by decide) dM_means_12 ?_
      refine lv_imul hx hb dM_means_13 ?_
      refine k_toi (y := nI (2 * (hh 0))) (pk_mul _ _) ?_
      refine lv_iconst (v := nI 1) hx hb dM_means_14 (by decide) ?_
      refine lv_iadd hx hb dM_means_15 ?_
      refine k_toi (y := nI ((2 * (hh 0)) + 1)) (nI_add _ _) ?_
      refine lv_icmp_gt (tgt := 34) hx hb dM_means_16 rfl (fun h16 => ?_) (fun h16 => ?_)
      · have h16 : (2 * (hh 0)) + 1 < x := (nI_ltI (a := (2 * (hh 0)) + 1) (b := x) (by omega) (by omega)).mp h16
        refine lv_iconst (v := nI 0) hx hb dM_means_34 (by decide) ?_
        -- end 1
        rw [← hQ]
        exact k_iret hx hb hr hlocks (by decide) (u := ()) (Or.inr ⟨fun z => by omega, rfl, rfl⟩) hP hD hK hS dM_means_35
      · have h16 : x ≤ (2 * (hh 0)) + 1 := Nat.le_of_not_lt (fun z => h16 ((nI_ltI (a := (2 * (hh 0)) + 1) (b := x) (by omega) (by omega)).mpr z))
        refine lv_aload_n hx hb dM_means_19 rfl (lv_at hl 0 rfl) ?_
        refine va_get (D := gD G) (ci := 6) (v := .ref xd) (C := "CircuitProverModel") (T := TM) (N := 20) hx hb htb inM hown hK hP 0 rfl rfl 9 (by decide) (htb _ b680) (fun _ h9 => h9) rfl dM_means_20 ?_
        refine lv_iload_n hx hb dM_means_23 rfl (lv_at hl 1 rfl) ?_
        refine lv_iconst (v := nI 2) hx hb dM_means_24 (by decide) ?_
        refine lv_idiv hx hb dM_means_25 (nI_ne0 (by omega) (by omega)) ?_
        refine k_toi (y := nI (x / 2)) (pk_div (by omega) (by omega) (by omega)) ?_
        refine k_zald hx hb hK hP 2 rfl (k := x / 2) (by omega) (by decide) dM_means_26 ?_
        refine lv_if_eq (tgt := 34) hx hb dM_means_27 rfl (fun h27 => ?_) (fun h27 => ?_)
        · have h27 : fd (x / 2) = false := zB_f h27
          refine lv_iconst (v := nI 0) hx hb dM_means_34 (by decide) ?_
          -- end 2
          rw [← hQ]
          exact k_iret hx hb hr hlocks (by decide) (u := ()) (Or.inr ⟨fun z => by rcases z with z | z; (omega); (rw [h27] at z; exact Bool.noConfusion z.2), rfl, rfl⟩) hP hD hK hS dM_means_35
        · have h27 : fd (x / 2) = true := zB_t h27
          refine lv_iconst (v := nI 1) hx hb dM_means_30 (by decide) ?_
          refine lv_goto (tgt := 35) hx hb dM_means_31 rfl ?_
          -- end 3
          rw [← hQ]
          exact k_iret hx hb hr hlocks (by decide) (u := ()) (Or.inl ⟨Or.inr ⟨by omega, h27⟩, rfl, rfl⟩) hP hD hK hS dM_means_35
  rw [hH, hlc] at hgo
  exact hgo
set_option maxRecDepth 100000 in
set_option maxHeartbeats 4000000 in
theorem k_M_reads (l : Launch) (G : GG) (sz : Nat) (qm : Nat) (xt : Nat) (xh : Nat) (xi : Nat) (xl : Nat) (xo : Nat) (xg : Nat) (xd : Nat) (xs : Nat) (xn : Nat) (xb : Nat) (xv : Nat) (th : Nat) (ul : Nat) (pt : Nat) (ld : Bool) (stt : Nat) (sts : Nat) (drw : Nat) (bd : Nat) (rd : Nat) (tx : Nat → Nat) (hh : Nat → Nat) (fi : Nat → Nat) (fl : Nat → Nat) (fo : Nat → Nat) (fg : Nat → Nat) (fd : Nat → Bool) (hul : ul ≤ 400) (htx : ∀ j, tx j < 128) : Ki l yM_reads cM_reads 4 .boolean 4 92 G [.ref qm] [(qm, .inr (6, [.int (nI th), .int (nI ul), .ref xt, .int (nI pt), .ref xh, .ref xi, .ref xl, .ref xo, .ref xg, .ref xd, .int (zB ld), .ref xs, .int (nI stt), .int (nI sts), .int (nI drw), .ref xn, .ref xb, .ref xv, .int (nI bd), .int (nI rd)])), (xt, aI G 400 tx), (xh, aI G 5 hh), (xi, aI G 100 fi), (xl, aI G 300 fl), (xo, aI G 100 fo), (xg, aI G 300 fg), (xd, aZ G 100 fd)] sz (fun (r : Int32) (u : Nat × (Nat → Nat) × (Nat → Nat) × (Nat → Nat) × (Nat → Nat) × (Nat → Nat) × (Nat → Bool)) => (∃ (pt9 : Nat), ∃ (hh9 : Nat → Nat), ∃ (fi9 : Nat → Nat), ∃ (fl9 : Nat → Nat), ∃ (fo9 : Nat → Nat), ∃ (fg9 : Nat → Nat), ∃ (fd9 : Nat → Bool), ∃ (b9 : Bool), (b9 = true ↔ circOK (lk tx ul) ul) ∧ (b9 = true → (∀ c, c < 5 → hh9 c = hd (lk tx ul) c) ∧ mIn (lk tx ul) fi9 (hd (lk tx ul) 1) ∧ mLa (lk tx ul) fl9 (hd (lk tx ul) 2) ∧ mOu (lk tx ul) fo9 (hd (lk tx ul) 3) ∧ mGa (lk tx ul) fg9 (hd (lk tx ul) 4)) ∧ zB b9 = r ∧ (pt9, hh9, fi9, fl9, fo9, fg9, fd9) = u)) (fun (u : Nat × (Nat → Nat) × (Nat → Nat) × (Nat → Nat) × (Nat → Nat) × (Nat → Nat) × (Nat → Bool)) => [(qm, .inr (6, [.int (nI th), .int (nI ul), .ref xt, .int (nI u.1), .ref xh, .ref xi, .ref xl, .ref xo, .ref xg, .ref xd, .int (zB ld), .ref xs, .int (nI stt), .int (nI sts), .int (nI drw), .ref xn, .ref xb, .ref xv, .int (nI bd), .int (nI rd)])), (xt, aI G 400 tx), (xh, aI G 5 u.2.1), (xi, aI G 100 u.2.2.1), (xl, aI G 300 u.2.2.2.1), (xo, aI G 100 u.2.2.2.2.1), (xg, aI G 300 u.2.2.2.2.2.1), (xd, aZ G 100 u.2.2.2.2.2.2)]) := by
  refine Met.ofW (cc := cM_reads) (maxL := 4) (ret := (some .boolean)) (by decide) rfl ?_
  intro p e s m args below meth c s₁ B hml hv
  obtain ⟨hav, hsz, hP, hK, hD0, hE⟩ := hv
  have hx := B.exec
  have hb := B.bytes
  have hr := B.returns
  have htb : ∀ w ∈ TB, w.before args s = true := fun w h => atoms_spec (ws := Cond.code yM_reads cM_reads 4 (some .boolean) :: TB) B.pre w (List.mem_cons_of_mem _ h)
  have hown : s.vm.findClass "CircuitProverModel" = some m.cls := findClass_of_methodNamed B.named
  have hlocks := B.notSynchronized
  subst hsz
  have hD := hD0.self (sz := s.heap.size)
  clear hD0
  generalize hRm : (headSpec (Cond.code yM_reads cM_reads 4 (some .boolean) :: TB) { frames := 4, cells := 0, slots := 0, locals := 92 }).room = R
  have hRf : R.frames = 4 := by rw [← hRm]; rfl
  have hRl : R.locals = 92 := by rw [← hRm]; rfl
  have hRc : R.cells = 0 := by rw [← hRm]; rfl
  have hRs : R.slots = 0 := by rw [← hRm]; rfl
  clear hRm
  generalize hAe : va_A [(qm, .inr (6, [.int (nI th), .int (nI ul), .ref xt, .int (nI pt), .ref xh, .ref xi, .ref xl, .ref xo, .ref xg, .ref xd, .int (zB ld), .ref xs, .int (nI stt), .int (nI sts), .int (nI drw), .ref xn, .ref xb, .ref xv, .int (nI bd), .int (nI rd)])), (xt, aI G 400 tx), (xh, aI G 5 hh), (xi, aI G 100 fi), (xl, aI G 300 fl), (xo, aI G 100 fo), (xg, aI G 300 fg), (xd, aZ G 100 fd)] s.heap.size = A at hD hE ⊢
  have hA : ∀ q : Nat, s.heap.size ≤ q → A q := fun q h => by rw [← hAe]; exact Or.inr h
  clear hAe
  have hS : va_S A s.heap s.heap [] := va_S.rf
  have hl := lv_entry ([.ref qm]) (n := 4) (Nat.le_of_ble_eq_true rfl)
  have hent := lg_entry_eq m ([.ref qm]) 4
  rw [← hav] at hent
  rw [hent]
  clear hent hav
  generalize (lg_sl ([.ref qm]) ++ List.replicate (4 - (lg_sl ([.ref qm])).length) Slot.unset).toArray = ls at hl ⊢
  have hl : lv_has ls 4 [(0, .ref qm)] := hl
  generalize hQ : MQ below _ args s 0 0 _ = Q
  have hP : va_P (gD G) vC [(qm, .inr (6, [.int (nI th), .int (nI ul), .ref xt, .int (nI pt), .ref xh, .ref xi, .ref xl, .ref xo, .ref xg, .ref xd, .int (zB ld), .ref xs, .int (nI stt), .int (nI sts), .int (nI drw), .ref xn, .ref xb, .ref xv, .int (nI bd), .int (nI rd)])), (xt, aI G 400 tx), (xh, aI G 5 hh), (xi, aI G 100 fi), (xl, aI G 300 fl), (xo, aI G 100 fo), (xg, aI G 300 fg), (xd, aZ G 100 fd)] s.heap := hP
  obtain ⟨H, hH⟩ : ∃ H : Heap, H = s.heap := ⟨_, rfl⟩
  obtain ⟨locs, hlc⟩ : ∃ L : List Loc, L = [] := ⟨_, rfl⟩
  have hS : va_S A s.heap H locs := by rw [hH, hlc]; exact hS
  have hP : va_P (gD G) vC [(qm, .inr (6, [.int (nI th), .int (nI ul), .ref xt, .int (nI pt), .ref xh, .ref xi, .ref xl, .ref xo, .ref xg, .ref xd, .int (zB ld), .ref xs, .int (nI stt), .int (nI sts), .int (nI drw), .ref xn, .ref xb, .ref xv, .int (nI bd), .int (nI rd)])), (xt, aI G 400 tx), (xh, aI G 5 hh), (xi, aI G 100 fi), (xl, aI G 300 fl), (xo, aI G 100 fo), (xg, aI G 300 fg), (xd, aZ G 100 fd)] H := by rw [hH]; exact hP
  have hgo : W p l e R s m args below meth c H locs 0 0 Q (F0 m 0 ls []) := by
    clear hH hlc
    refine lv_aload_n hx hb dM_reads_0 rfl (lv_at hl 0 rfl) ?_
    refine k_i (ws2 := fun u => [(qm, .inr (6, [.int (nI th), .int (nI ul), .ref xt, .int (nI (u.1)), .ref xh, .ref xi, .ref xl, .ref xo, .ref xg, .ref xd, .int (zB ld), .ref xs, .int (nI stt), .int (nI sts), .int (nI drw), .ref xn, .ref xb, .ref xv, .int (nI bd), .int (nI rd)])), (xt, aI G 400 tx), (xh, aI G 5 (u.2.1)), (xi, aI G 100 (u.2.2.1)), (xl, aI G 300 (u.2.2.2.1)), (xo, aI G 100 (u.2.2.2.2.1)), (xg, aI G 300 (u.2.2.2.2.2)), (xd, aZ G 100 fd)]) (wr := [(xd, aZ G 100 fd)]) (k_runV (n := 0) (As := []) (rest := []) hx hb hml hown htb hP hD hK hS hA hE (k_M_lines l G H.size qm xt xh xi xl xo xg xd xs xn xb xv th ul pt ld stt sts drw bd rd tx hh fi fl fo fg (show ul ≤ 400 from by omega) (show ∀ j, tx j < 128 from by omega)) b756 b758 s30 b7 b759 (by decide +kernel) rfl rfl ⟨by rw [hRf]; exact Nat.le_of_ble_eq_true rfl, by rw [hRl]; exact Nat.le_of_ble_eq_true rfl⟩ [0, 1, 2, 3, 4, 5, 6] rfl (by decide) 0 rfl rfl rfl rfl hl.1 rfl (Nat.le_of_ble_eq_true rfl) dM_reads_1 ⟨Nat.zero_le _, Nat.zero_le _⟩) hP hD hS hA [0, 1, 2, 3, 4, 5, 6] [7] [1, 2, 3, 4, 5, 6, 7, 0] rfl rfl (by decide) (by decide) (fun u => rfl) (by decide) (fun r u H locs hw hP hD hS => ?_)
    rcases hw with ⟨pt91, hh91, fi91, fl91, fo91, fg91, hc1_o, hc1_h, hc1_i, hc1_l, hc1_u, hc1_g, rfl, rfl⟩ | ⟨pt91, hh91, fi91, fl91, fo91, fg91, hc1_o, rfl, rfl⟩
    · skip
      have hP : va_P (gD G) vC [(qm, .inr (6, [.int (nI th), .int (nI ul), .ref xt, .int (nI pt91), .ref xh, .ref xi, .ref xl, .ref xo, .ref xg, .ref xd, .int (zB ld), .ref xs, .int (nI stt), .int (nI sts), .int (nI drw), .ref xn, .ref xb, .ref xv, .int (nI bd), .int (nI rd)])), (xt, aI G 400 tx), (xh, aI G 5 hh91), (xi, aI G 100 fi91), (xl, aI G 300 fl91), (xo, aI G 100 fo91), (xg, aI G 300 fg91), (xd, aZ G 100 fd)] H := hP
      have hD : va_D A [(qm, .inr (6, [.int (nI th), .int (nI ul), .ref xt, .int (nI pt91), .ref xh, .ref xi, .ref xl, .ref xo, .ref xg, .ref xd, .int (zB ld), .ref xs, .int (nI stt), .int (nI sts), .int (nI drw), .ref xn, .ref xb, .ref xv, .int (nI bd), .int (nI rd)])), (xt, aI G 400 tx), (xh, aI G 5 hh91), (xi, aI G 100 fi91), (xl, aI G 300 fl91), (xo, aI G 100 fo91), (xg, aI G 300 fg91), (xd, aZ G 100 fd)] := hD
      have hb0 := hd_lt (lk tx ul) 0
      have hb1 := hd_lt (lk tx ul) 1
      have hb2 := hd_lt (lk tx ul) 2
      have hb3 := hd_lt (lk tx ul) 3
      have hb4 := hd_lt (lk tx ul) 4
      have hy0 := hc1_h 0 (by decide)
      have hz1 := hc1_h 1 (by decide)
      have hz2 := hc1_h 2 (by decide)
      have hz3 := hc1_h 3 (by decide)
      have hz4 := hc1_h 4 (by decide)
      refine lv_if_ne (tgt := 9) hx hb dM_reads_4 rfl (fun _ => ?_) (fun h4 => (by revert h4; first | decide | exact fun z => absurd z (by decide) | exact fun z => z.elim (by decide)))
      refine lv_iconst (v := nI 0) hx hb dM_reads_9 (by decide) ?_
      refine lv_istore_n (lv' := [(1, .int (nI 0)), (0, .ref qm)]) hx hb dM_reads_10 rfl hl (by decide) rfl (fun ls hl => ?_)
      have loop11 : ∀ (n : Nat) (kZ : Nat) (dZ : Nat → Bool) (H : Heap) (locs : List Loc) (ls : Array Slot), 100 - kZ < n → (kZ ≤ 100) → (∀ v, v < kZ → dZ v = false) → va_P (gD G) vC [(qm, .inr (6, [.int (nI th), .int (nI ul), .ref xt, .int (nI pt91), .ref xh, .ref xi, .ref xl, .ref xo, .ref xg, .ref xd, .int (zB ld), .ref xs, .int (nI stt), .int (nI sts), .int (nI drw), .ref xn, .ref xb, .ref xv, .int (nI bd), .int (nI rd)])), (xt, aI G 400 tx), (xh, aI G 5 hh91), (xi, aI G 100 fi91), (xl, aI G 300 fl91), (xo, aI G 100 fo91), (xg, aI G 300 fg91), (xd, aZ G 100 dZ)] H → va_D A [(qm, .inr (6, [.int (nI th), .int (nI ul), .ref xt, .int (nI pt91), .ref xh, .ref xi, .ref xl, .ref xo, .ref xg, .ref xd, .int (zB ld), .ref xs, .int (nI stt), .int (nI sts), .int (nI drw), .ref xn, .ref xb, .ref xv, .int (nI bd), .int (nI rd)])), (xt, aI G 400 tx), (xh, aI G 5 hh91), (xi, aI G 100 fi91), (xl, aI G 300 fl91), (xo, aI G 100 fo91), (xg, aI G 300 fg91), (xd, aZ G 100 dZ)] → va_S A s.heap H locs → lv_has ls 4 [(0, .ref qm), (1, .int (nI kZ))] → W p l e R s m args below meth c H locs 0 0 Q (F0 m 11 ls []) := by
        intro n
        induction n with
        | zero => intro kZ dZ H locs ls hmu; omega
        | succ n ih =>
          intro kZ dZ H locs ls hmu hkZ hdZ hP hD hS hl
          have ih11 := ih
          clear ih
          refine lv_iload_n hx hb dM_reads_11 rfl (lv_at hl 1 rfl) ?_
          refine lv_bipush (v := nI 100) hx hb dM_reads_12 (by decide) ?_
          refine lv_icmp_ge (tgt := 30) hx hb dM_reads_14 rfl (fun h14 => ?_) (fun h14 => ?_)
          · have h14 : 100 ≤ kZ := (nI_leI (a := 100) (b := kZ) (by omega) (by omega)).mp h14
            refine lv_iconst (v := nI 1) hx hb dM_reads_30 (by decide) ?_
            refine lv_istore_n (lv' := [(1, .int (nI 1)), (0, .ref qm)]) hx hb dM_reads_31 rfl hl (by decide) rfl (fun ls hl => ?_)
            refine lv_iconst (v := nI 0) hx hb dM_reads_32 (by decide) ?_
            refine lv_istore_n (lv' := [(2, .int (nI 0)), (1, .int (nI 1)), (0, .ref qm)]) hx hb dM_reads_33 rfl hl (by decide) rfl (fun ls hl => ?_)
            have loop34 : ∀ (n : Nat) (goA : Nat) (kA : Nat) (dA : Nat → Bool) (H : Heap) (locs : List Loc) (ls : Array Slot), hh91 1 - kA < n → (kA ≤ hh91 1 ∧ goA ≤ 1) → (rS (lk tx ul) ul kA 0 0 0 0 0 goA dA) → va_P (gD G) vC [(qm, .inr (6, [.int (nI th), .int (nI ul), .ref xt, .int (nI pt91), .ref xh, .ref xi, .ref xl, .ref xo, .ref xg, .ref xd, .int (zB ld), .ref xs, .int (nI stt), .int (nI sts), .int (nI drw), .ref xn, .ref xb, .ref xv, .int (nI bd), .int (nI rd)])), (xt, aI G 400 tx), (xh, aI G 5 hh91), (xi, aI G 100 fi91), (xl, aI G 300 fl91), (xo, aI G 100 fo91), (xg, aI G 300 fg91), (xd, aZ G 100 dA)] H → va_D A [(qm, .inr (6, [.int (nI th), .int (nI ul), .ref xt, .int (nI pt91), .ref xh, .ref xi, .ref xl, .ref xo, .ref xg, .ref xd, .int (zB ld), .ref xs, .int (nI stt), .int (nI sts), .int (nI drw), .ref xn, .ref xb, .ref xv, .int (nI bd), .int (nI rd)])), (xt, aI G 400 tx), (xh, aI G 5 hh91), (xi, aI G 100 fi91), (xl, aI G 300 fl91), (xo, aI G 100 fo91), (xg, aI G 300 fg91), (xd, aZ G 100 dA)] → va_S A s.heap H locs → lv_has ls 4 [(0, .ref qm), (1, .int (nI goA)), (2, .int (nI kA))] → W p l e R s m args below meth c H locs 0 0 Q (F0 m 34 ls []) := by
              intro n
              induction n with
              | zero => intro goA kA dA H locs ls hmu; omega
              | succ n ih =>
                intro goA kA dA H locs ls hmu hkA hsA hP hD hS hl
                have ih34 := ih
                clear ih
                refine lv_iload_n hx hb dM_reads_34 rfl (lv_at hl 2 rfl) ?_
                refine lv_aload_n hx hb dM_reads_35 rfl (lv_at hl 0 rfl) ?_
                refine va_get (D := gD G) (ci := 6) (v := .ref xh) (C := "CircuitProverModel") (T := TM) (N := 20) hx hb htb inM hown hK hP 0 rfl rfl 4 (by decide) (htb _ b675) (fun _ h9 => h9) rfl dM_reads_36 ?_
                refine lv_iconst (v := nI 1) hx hb dM_reads_39 (by decide) ?_
                refine k_iald hx hb hK hP 2 rfl (k := 1) (by omega) (by decide) dM_reads_40 ?_
                refine lv_icmp_ge (tgt := 73) hx hb dM_reads_41 rfl (fun h41 => ?_) (fun h41 => ?_)
                · have h41 : hh91 1 ≤ kA := (nI_leI (a := hh91 1) (b := kA) (by omega) (by omega)).mp h41
                  refine lv_iconst (v := nI 0) hx hb dM_reads_73 (by decide) ?_
                  refine lv_istore_n (lv' := [(2, .int (nI 0)), (0, .ref qm), (1, .int (nI goA))]) hx hb dM_reads_74 rfl hl (by decide) rfl (fun ls hl => ?_)
                  have loop75 : ∀ (n : Nat) (goB : Nat) (kB : Nat) (dB : Nat → Bool) (H : Heap) (locs : List Loc) (ls : Array Slot), hh91 2 - kB < n → (kB ≤ hh91 2 ∧ goB ≤ 1) → (rS (lk tx ul) ul (hd (lk tx ul) 1) kB 0 0 0 0 goB dB) → va_P (gD G) vC [(qm, .inr (6, [.int (nI th), .int (nI ul), .ref xt, .int (nI pt91), .ref xh, .ref xi, .ref xl, .ref xo, .ref xg, .ref xd, .int (zB ld), .ref xs, .int (nI stt), .int (nI sts), .int (nI drw), .ref xn, .ref xb, .ref xv, .int (nI bd), .int (nI rd)])), (xt, aI G 400 tx), (xh, aI G 5 hh91), (xi, aI G 100 fi91), (xl, aI G 300 fl91), (xo, aI G 100 fo91), (xg, aI G 300 fg91), (xd, aZ G 100 dB)] H → va_D A [(qm, .inr (6, [.int (nI th), .int (nI ul), .ref xt, .int (nI pt91), .ref xh, .ref xi, .ref xl, .ref xo, .ref xg, .ref xd, .int (zB ld), .ref xs, .int (nI stt), .int (nI sts), .int (nI drw), .ref xn, .ref xb, .ref xv, .int (nI bd), .int (nI rd)])), (xt, aI G 400 tx), (xh, aI G 5 hh91), (xi, aI G 100 fi91), (xl, aI G 300 fl91), (xo, aI G 100 fo91), (xg, aI G 300 fg91), (xd, aZ G 100 dB)] → va_S A s.heap H locs → lv_has ls 4 [(0, .ref qm), (1, .int (nI goB)), (2, .int (nI kB))] → W p l e R s m args below meth c H locs 0 0 Q (F0 m 75 ls []) := by
                    intro n
                    induction n with
                    | zero => intro goB kB dB H locs ls hmu; omega
                    | succ n ih =>
                      intro goB kB dB H locs ls hmu hkB hsB hP hD hS hl
                      have ih75 := ih
                      clear ih
                      refine lv_iload_n hx hb dM_reads_75 rfl (lv_at hl 2 rfl) ?_
                      refine lv_aload_n hx hb dM_reads_76 rfl (lv_at hl 0 rfl) ?_
                      refine va_get (D := gD G) (ci := 6) (v := .ref xh) (C := "CircuitProverModel") (T := TM) (N := 20) hx hb htb inM hown hK hP 0 rfl rfl 4 (by decide) (htb _ b675) (fun _ h9 => h9) rfl dM_reads_77 ?_
                      refine lv_iconst (v := nI 2) hx hb dM_reads_80 (by decide) ?_
                      refine k_iald hx hb hK hP 2 rfl (k := 2) (by omega) (by decide) dM_reads_81 ?_
                      refine lv_icmp_ge (tgt := 130) hx hb dM_reads_82 rfl (fun h82 => ?_) (fun h82 => ?_)
                      · have h82 : hh91 2 ≤ kB := (nI_leI (a := hh91 2) (b := kB) (by omega) (by omega)).mp h82
                        refine lv_iconst (v := nI 0) hx hb dM_reads_130 (by decide) ?_
                        refine lv_istore_n (lv' := [(2, .int (nI 0)), (0, .ref qm), (1, .int (nI goB))]) hx hb dM_reads_131 rfl hl (by decide) rfl (fun ls hl => ?_)
                        have loop132 : ∀ (n : Nat) (goC : Nat) (kC : Nat) (dC : Nat → Bool) (H : Heap) (locs : List Loc) (ls : Array Slot), hh91 4 - kC < n → (kC ≤ hh91 4 ∧ goC ≤ 1) → (rS (lk tx ul) ul (hd (lk tx ul) 1) (hd (lk tx ul) 2) kC 0 0 0 goC dC) → va_P (gD G) vC [(qm, .inr (6, [.int (nI th), .int (nI ul), .ref xt, .int (nI pt91), .ref xh, .ref xi, .ref xl, .ref xo, .ref xg, .ref xd, .int (zB ld), .ref xs, .int (nI stt), .int (nI sts), .int (nI drw), .ref xn, .ref xb, .ref xv, .int (nI bd), .int (nI rd)])), (xt, aI G 400 tx), (xh, aI G 5 hh91), (xi, aI G 100 fi91), (xl, aI G 300 fl91), (xo, aI G 100 fo91), (xg, aI G 300 fg91), (xd, aZ G 100 dC)] H → va_D A [(qm, .inr (6, [.int (nI th), .int (nI ul), .ref xt, .int (nI pt91), .ref xh, .ref xi, .ref xl, .ref xo, .ref xg, .ref xd, .int (zB ld), .ref xs, .int (nI stt), .int (nI sts), .int (nI drw), .ref xn, .ref xb, .ref xv, .int (nI bd), .int (nI rd)])), (xt, aI G 400 tx), (xh, aI G 5 hh91), (xi, aI G 100 fi91), (xl, aI G 300 fl91), (xo, aI G 100 fo91), (xg, aI G 300 fg91), (xd, aZ G 100 dC)] → va_S A s.heap H locs → lv_has ls 4 [(0, .ref qm), (1, .int (nI goC)), (2, .int (nI kC))] → W p l e R s m args below meth c H locs 0 0 Q (F0 m 132 ls []) := by
                          intro n
                          induction n with
                          | zero => intro goC kC dC H locs ls hmu; omega
                          | succ n ih =>
                            intro goC kC dC H locs ls hmu hkC hsC hP hD hS hl
                            have ih132 := ih
                            clear ih
                            refine lv_iload_n hx hb dM_reads_132 rfl (lv_at hl 2 rfl) ?_
                            refine lv_aload_n hx hb dM_reads_133 rfl (lv_at hl 0 rfl) ?_
                            refine va_get (D := gD G) (ci := 6) (v := .ref xh) (C := "CircuitProverModel") (T := TM) (N := 20) hx hb htb inM hown hK hP 0 rfl rfl 4 (by decide) (htb _ b675) (fun _ h9 => h9) rfl dM_reads_134 ?_
                            refine lv_iconst (v := nI 4) hx hb dM_reads_137 (by decide) ?_
                            refine k_iald hx hb hK hP 2 rfl (k := 4) (by omega) (by decide) dM_reads_138 ?_
                            refine lv_icmp_ge (tgt := 203) hx hb dM_reads_139 rfl (fun h139 => ?_) (fun h139 => ?_)
                            · have h139 : hh91 4 ≤ kC := (nI_leI (a := hh91 4) (b := kC) (by omega) (by omega)).mp h139
                              refine lv_iconst (v := nI 0) hx hb dM_reads_203 (by decide) ?_
                              refine lv_istore_n (lv' := [(2, .int (nI 0)), (0, .ref qm), (1, .int (nI goC))]) hx hb dM_reads_204 rfl hl (by decide) rfl (fun ls hl => ?_)
                              have loop205 : ∀ (n : Nat) (goD : Nat) (kD : Nat) (H : Heap) (locs : List Loc) (ls : Array Slot), hh91 2 - kD < n → (kD ≤ hh91 2 ∧ goD ≤ 1) → (rS (lk tx ul) ul (hd (lk tx ul) 1) (hd (lk tx ul) 2) (hd (lk tx ul) 4) kD 0 0 goD dC) → va_P (gD G) vC [(qm, .inr (6, [.int (nI th), .int (nI ul), .ref xt, .int (nI pt91), .ref xh, .ref xi, .ref xl, .ref xo, .ref xg, .ref xd, .int (zB ld), .ref xs, .int (nI stt), .int (nI sts), .int (nI drw), .ref xn, .ref xb, .ref xv, .int (nI bd), .int (nI rd)])), (xt, aI G 400 tx), (xh, aI G 5 hh91), (xi, aI G 100 fi91), (xl, aI G 300 fl91), (xo, aI G 100 fo91), (xg, aI G 300 fg91), (xd, aZ G 100 dC)] H → va_D A [(qm, .inr (6, [.int (nI th), .int (nI ul), .ref xt, .int (nI pt91), .ref xh, .ref xi, .ref xl, .ref xo, .ref xg, .ref xd, .int (zB ld), .ref xs, .int (nI stt), .int (nI sts), .int (nI drw), .ref xn, .ref xb, .ref xv, .int (nI bd), .int (nI rd)])), (xt, aI G 400 tx), (xh, aI G 5 hh91), (xi, aI G 100 fi91), (xl, aI G 300 fl91), (xo, aI G 100 fo91), (xg, aI G 300 fg91), (xd, aZ G 100 dC)] → va_S A s.heap H locs → lv_has ls 4 [(0, .ref qm), (1, .int (nI goD)), (2, .int (nI kD))] → W p l e R s m args below meth c H locs 0 0 Q (F0 m 205 ls []) := by
                                intro n
                                induction n with
                                | zero => intro goD kD H locs ls hmu; omega
                                | succ n ih =>
                                  intro goD kD H locs ls hmu hkD hsD hP hD hS hl
                                  have ih205 := ih
                                  clear ih
                                  refine lv_iload_n hx hb dM_reads_205 rfl (lv_at hl 2 rfl) ?_
                                  refine lv_aload_n hx hb dM_reads_206 rfl (lv_at hl 0 rfl) ?_
                                  refine va_get (D := gD G) (ci := 6) (v := .ref xh) (C := "CircuitProverModel") (T := TM) (N := 20) hx hb htb inM hown hK hP 0 rfl rfl 4 (by decide) (htb _ b675) (fun _ h9 => h9) rfl dM_reads_207 ?_
                                  refine lv_iconst (v := nI 2) hx hb dM_reads_210 (by decide) ?_
                                  refine k_iald hx hb hK hP 2 rfl (k := 2) (by omega) (by decide) dM_reads_211 ?_
                                  refine lv_icmp_ge (tgt := 248) hx hb dM_reads_212 rfl (fun h212 => ?_) (fun h212 => ?_)
                                  · have h212 : hh91 2 ≤ kD := (nI_leI (a := hh91 2) (b := kD) (by omega) (by omega)).mp h212
                                    refine lv_iconst (v := nI 0) hx hb dM_reads_248 (by decide) ?_
                                    refine lv_istore_n (lv' := [(2, .int (nI 0)), (0, .ref qm), (1, .int (nI goD))]) hx hb dM_reads_249 rfl hl (by decide) rfl (fun ls hl => ?_)
                                    have loop250 : ∀ (n : Nat) (goE : Nat) (kE : Nat) (H : Heap) (locs : List Loc) (ls : Array Slot), hh91 3 - kE < n → (kE ≤ hh91 3 ∧ goE ≤ 1) → (rS (lk tx ul) ul (hd (lk tx ul) 1) (hd (lk tx ul) 2) (hd (lk tx ul) 4) (hd (lk tx ul) 2) kE 0 goE dC) → va_P (gD G) vC [(qm, .inr (6, [.int (nI th), .int (nI ul), .ref xt, .int (nI pt91), .ref xh, .ref xi, .ref xl, .ref xo, .ref xg, .ref xd, .int (zB ld), .ref xs, .int (nI stt), .int (nI sts), .int (nI drw), .ref xn, .ref xb, .ref xv, .int (nI bd), .int (nI rd)])), (xt, aI G 400 tx), (xh, aI G 5 hh91), (xi, aI G 100 fi91), (xl, aI G 300 fl91), (xo, aI G 100 fo91), (xg, aI G 300 fg91), (xd, aZ G 100 dC)] H → va_D A [(qm, .inr (6, [.int (nI th), .int (nI ul), .ref xt, .int (nI pt91), .ref xh, .ref xi, .ref xl, .ref xo, .ref xg, .ref xd, .int (zB ld), .ref xs, .int (nI stt), .int (nI sts), .int (nI drw), .ref xn, .ref xb, .ref xv, .int (nI bd), .int (nI rd)])), (xt, aI G 400 tx), (xh, aI G 5 hh91), (xi, aI G 100 fi91), (xl, aI G 300 fl91), (xo, aI G 100 fo91), (xg, aI G 300 fg91), (xd, aZ G 100 dC)] → va_S A s.heap H locs → lv_has ls 4 [(0, .ref qm), (1, .int (nI goE)), (2, .int (nI kE))] → W p l e R s m args below meth c H locs 0 0 Q (F0 m 250 ls []) := by
                                      intro n
                                      induction n with
                                      | zero => intro goE kE H locs ls hmu; omega
                                      | succ n ih =>
                                        intro goE kE H locs ls hmu hkE hsE hP hD hS hl
                                        have ih250 := ih
                                        clear ih
                                        refine lv_iload_n hx hb dM_reads_250 rfl (lv_at hl 2 rfl) ?_
                                        refine lv_aload_n hx hb dM_reads_251 rfl (lv_at hl 0 rfl) ?_
                                        refine va_get (D := gD G) (ci := 6) (v := .ref xh) (C := "CircuitProverModel") (T := TM) (N := 20) hx hb htb inM hown hK hP 0 rfl rfl 4 (by decide) (htb _ b675) (fun _ h9 => h9) rfl dM_reads_252 ?_
                                        refine lv_iconst (v := nI 3) hx hb dM_reads_255 (by decide) ?_
                                        refine k_iald hx hb hK hP 2 rfl (k := 3) (by omega) (by decide) dM_reads_256 ?_
                                        refine lv_icmp_ge (tgt := 289) hx hb dM_reads_257 rfl (fun h257 => ?_) (fun h257 => ?_)
                                        · have h257 : hh91 3 ≤ kE := (nI_leI (a := hh91 3) (b := kE) (by omega) (by omega)).mp h257
                                          refine lv_iconst (v := nI 0) hx hb dM_reads_289 (by decide) ?_
                                          refine lv_istore_n (lv' := [(2, .int (nI 0)), (0, .ref qm), (1, .int (nI goE))]) hx hb dM_reads_290 rfl hl (by decide) rfl (fun ls hl => ?_)
                                          have loop291 : ∀ (n : Nat) (goF : Nat) (kF : Nat) (H : Heap) (locs : List Loc) (ls : Array Slot), hh91 4 - kF < n → (kF ≤ hh91 4 ∧ goF ≤ 1) → (rS (lk tx ul) ul (hd (lk tx ul) 1) (hd (lk tx ul) 2) (hd (lk tx ul) 4) (hd (lk tx ul) 2) (hd (lk tx ul) 3) kF goF dC) → va_P (gD G) vC [(qm, .inr (6, [.int (nI th), .int (nI ul), .ref xt, .int (nI pt91), .ref xh, .ref xi, .ref xl, .ref xo, .ref xg, .ref xd, .int (zB ld), .ref xs, .int (nI stt), .int (nI sts), .int (nI drw), .ref xn, .ref xb, .ref xv, .int (nI bd), .int (nI rd)])), (xt, aI G 400 tx), (xh, aI G 5 hh91), (xi, aI G 100 fi91), (xl, aI G 300 fl91), (xo, aI G 100 fo91), (xg, aI G 300 fg91), (xd, aZ G 100 dC)] H → va_D A [(qm, .inr (6, [.int (nI th), .int (nI ul), .ref xt, .int (nI pt91), .ref xh, .ref xi, .ref xl, .ref xo, .ref xg, .ref xd, .int (zB ld), .ref xs, .int (nI stt), .int (nI sts), .int (nI drw), .ref xn, .ref xb, .ref xv, .int (nI bd), .int (nI rd)])), (xt, aI G 400 tx), (xh, aI G 5 hh91), (xi, aI G 100 fi91), (xl, aI G 300 fl91), (xo, aI G 100 fo91), (xg, aI G 300 fg91), (xd, aZ G 100 dC)] → va_S A s.heap H locs → lv_has ls 4 [(0, .ref qm), (1, .int (nI goF)), (2, .int (nI kF))] → W p l e R s m args below meth c H locs 0 0 Q (F0 m 291 ls []) := by
                                            intro n
                                            induction n with
                                            | zero => intro goF kF H locs ls hmu; omega
                                            | succ n ih =>
                                              intro goF kF H locs ls hmu hkF hsF hP hD hS hl
                                              have ih291 := ih
                                              clear ih
                                              refine lv_iload_n hx hb dM_reads_291 rfl (lv_at hl 2 rfl) ?_
                                              refine lv_aload_n hx hb dM_reads_292 rfl (lv_at hl 0 rfl) ?_
                                              refine va_get (D := gD G) (ci := 6) (v := .ref xh) (C := "CircuitProverModel") (T := TM) (N := 20) hx hb htb inM hown hK hP 0 rfl rfl 4 (by decide) (htb _ b675) (fun _ h9 => h9) rfl dM_reads_293 ?_
                                              refine lv_iconst (v := nI 4) hx hb dM_reads_296 (by decide) ?_
                                              refine k_iald hx hb hK hP 2 rfl (k := 4) (by omega) (by decide) dM_reads_297 ?_
                                              refine lv_icmp_ge (tgt := 351) hx hb dM_reads_298 rfl (fun h298 => ?_) (fun h298 => ?_)
                                              · have h298 : hh91 4 ≤ kF := (nI_leI (a := hh91 4) (b := kF) (by omega) (by omega)).mp h298
                                                refine lv_iload_n hx hb dM_reads_351 rfl (lv_at hl 1 rfl) ?_
                                                refine k_toi (y := zB (decide (goF = 1))) (g01 hkF.2) ?_
                                                -- end 0
                                                rw [← hQ]
                                                exact k_iret hx hb hr hlocks (nar_zV _) (u := (pt91, hh91, fi91, fl91, fo91, fg91, dC)) (⟨_, _, _, _, _, _, _, _, rS_end hc1_o (by have q9 := hsF; rw [show kF = hd (lk tx ul) 4 by omega] at q9; exact q9), fun _ => ⟨hc1_h, hc1_i, hc1_l, hc1_u, hc1_g⟩, rfl, rfl⟩) hP hD hK hS dM_reads_352
                                              · have h298 : kF < hh91 4 := Nat.lt_of_not_le (fun z => h298 ((nI_leI (a := hh91 4) (b := kF) (by omega) (by omega)).mpr z))
                                                refine lv_iload_n hx hb dM_reads_301 rfl (lv_at hl 1 rfl) ?_
                                                refine lv_if_eq (tgt := 343) hx hb dM_reads_302 rfl (fun h302 => ?_) (fun h302 => ?_)
                                                · have h302 : goF = 0 := (nI_eq (a := goF) (b := 0) (by omega) (by omega)).mp h302
                                                  refine lv_iconst (v := nI 0) hx hb dM_reads_343 (by decide) ?_
                                                  refine lv_istore_n (lv' := [(1, .int (nI 0)), (0, .ref qm), (2, .int (nI kF))]) hx hb dM_reads_344 rfl hl (by decide) rfl (fun ls hl => ?_)
                                                  refine lv_iinc (v := nI (kF + 1)) (lv' := [(2, .int (nI (kF + 1))), (1, .int (nI 0)), (0, .ref qm)]) hx hb dM_reads_345 hl (k := 2) rfl (nI_add _ 1) (by decide) rfl (fun ls hl => ?_)
                                                  refine lv_goto (tgt := 291) hx hb dM_reads_348 rfl ?_
                                                  have hl : lv_has ls 4 [(0, .ref qm), (1, .int (nI 0)), (2, .int (nI (kF + 1)))] := lv_sub hl [2, 1, 0] rfl
                                                  exact ih291 0 (kF + 1) _ _ _ (by omega) (by omega) (by first | exact rS_mg hsF h302 hgd hgd2 | exact rS_0 hsF h302 | exact rS_no hsF (fun q => rS_mgn (by omega) q (Or.inl hgd)) | exact rS_no hsF (fun q => rS_mgn (by omega) q (Or.inr hgd2))) hP hD hS hl
                                                · have h302 : ¬ goF = 0 := fun z => h302 ((nI_eq (a := goF) (b := 0) (by omega) (by omega)).mpr z)
                                                  refine lv_aload_n hx hb dM_reads_305 rfl (lv_at hl 0 rfl) ?_
                                                  refine lv_aload_n hx hb dM_reads_306 rfl (lv_at hl 0 rfl) ?_
                                                  refine va_get (D := gD G) (ci := 6) (v := .ref xg) (C := "CircuitProverModel") (T := TM) (N := 20) hx hb htb inM hown hK hP 0 rfl rfl 8 (by decide) (htb _ b679) (fun _ h9 => h9) rfl dM_reads_307 ?_
                                                  refine lv_iconst (v := nI 3) hx hb dM_reads_310 (by decide) ?_
                                                  refine lv_iload_n hx hb dM_reads_311 rfl (lv_at hl 2 rfl) ?_
                                                  refine lv_imul hx hb dM_reads_312 ?_
                                                  refine k_toi (y := nI (3 * kF)) (pk_mul _ _) ?_
                                                  refine lv_iconst (v := nI 1) hx hb dM_reads_313 (by decide) ?_
                                                  refine lv_iadd hx hb dM_reads_314 ?_
                                                  refine k_toi (y := nI ((3 * kF) + 1)) (nI_add _ _) ?_
                                                  have hy2 : fg91 (3 * kF + 1) = xga (lk tx ul) kF 1 := hc1_g kF (by omega) 1 (by decide)
                                                  have hy3 : fg91 (3 * kF + 2) = xga (lk tx ul) kF 2 := hc1_g kF (by omega) 2 (by decide)
                                                  have hl2 := xga_lt (lk tx ul) kF 1
                                                  have hl3 := xga_lt (lk tx ul) kF 2
                                                  refine k_iald hx hb hK hP 6 rfl (k := (3 * kF) + 1) (by omega) (by decide) dM_reads_315 ?_
                                                  refine k_i (ws2 := fun u => [(qm, .inr (6, [.int (nI th), .int (nI ul), .ref xt, .int (nI pt91), .ref xh, .ref xi, .ref xl, .ref xo, .ref xg, .ref xd, .int (zB ld), .ref xs, .int (nI stt), .int (nI sts), .int (nI drw), .ref xn, .ref xb, .ref xv, .int (nI bd), .int (nI rd)])), (xt, aI G 400 tx), (xh, aI G 5 hh91), (xi, aI G 100 fi91), (xl, aI G 300 fl91), (xo, aI G 100 fo91), (xg, aI G 300 fg91), (xd, aZ G 100 dC)]) (wr := [(xt, aI G 400 tx), (xi, aI G 100 fi91), (xl, aI G 300 fl91), (xo, aI G 100 fo91), (xg, aI G 300 fg91)]) (k_runV (n := 1) (As := [.int (nI (fg91 ((3 * kF) + 1)))]) (rest := []) hx hb hml hown htb hP hD hK hS hA hE (k_M_means l G H.size qm xt xh xi xl xo xg xd xs xn xb xv th ul pt91 ld stt sts drw bd rd hh91 dC (fg91 ((3 * kF) + 1)) (show (fg91 ((3 * kF) + 1)) < 100 from by omega) (show hh91 0 < 100 from by omega)) b780 b782 s36 b7 b783 (by decide +kernel) rfl rfl ⟨by rw [hRf]; exact Nat.le_of_ble_eq_true rfl, by rw [hRl]; exact Nat.le_of_ble_eq_true rfl⟩ [0, 2, 7] rfl (by decide) 0 rfl rfl rfl rfl hl.1 rfl (Nat.le_of_ble_eq_true rfl) dM_reads_316 ⟨Nat.zero_le _, Nat.zero_le _⟩) hP hD hS hA [0, 2, 7] [1, 3, 4, 5, 6] [5, 0, 6, 1, 2, 3, 4, 7] rfl rfl (by decide) (by decide) (fun u => rfl) (by decide) (fun r u H locs hw hP hD hS => ?_)
                                                  rcases hw with ⟨hc316_e, rfl, rfl⟩ | ⟨hc316_e, rfl, rfl⟩
                                                  · skip
                                                    have hP : va_P (gD G) vC [(qm, .inr (6, [.int (nI th), .int (nI ul), .ref xt, .int (nI pt91), .ref xh, .ref xi, .ref xl, .ref xo, .ref xg, .ref xd, .int (zB ld), .ref xs, .int (nI stt), .int (nI sts), .int (nI drw), .ref xn, .ref xb, .ref xv, .int (nI bd), .int (nI rd)])), (xt, aI G 400 tx), (xh, aI G 5 hh91), (xi, aI G 100 fi91), (xl, aI G 300 fl91), (xo, aI G 100 fo91), (xg, aI G 300 fg91), (xd, aZ G 100 dC)] H := hP
                                                    have hD : va_D A [(qm, .inr (6, [.int (nI th), .int (nI ul), .ref xt, .int (nI pt91), .ref xh, .ref xi, .ref xl, .ref xo, .ref xg, .ref xd, .int (zB ld), .ref xs, .int (nI stt), .int (nI sts), .int (nI drw), .ref xn, .ref xb, .ref xv, .int (nI bd), .int (nI rd)])), (xt, aI G 400 tx), (xh, aI G 5 hh91), (xi, aI G 100 fi91), (xl, aI G 300 fl91), (xo, aI G 100 fo91), (xg, aI G 300 fg91), (xd, aZ G 100 dC)] := hD
                                                    have hgd : mnR (lk tx ul) dC (xga (lk tx ul) kF 1) := by have q9 := hc316_e; rw [hy2, hy0] at q9; exact q9
                                                    refine lv_if_eq (tgt := 343) hx hb dM_reads_319 rfl (fun h319 => (by revert h319; first | decide | exact fun z => absurd z (by decide) | exact fun z => z.elim (by decide))) (fun _ => ?_)
                                                    refine lv_aload_n hx hb dM_reads_322 rfl (lv_at hl 0 rfl) ?_
                                                    refine lv_aload_n hx hb dM_reads_323 rfl (lv_at hl 0 rfl) ?_
                                                    refine va_get (D := gD G) (ci := 6) (v := .ref xg) (C := "CircuitProverModel") (T := TM) (N := 20) hx hb htb inM hown hK hP 0 rfl rfl 8 (by decide) (htb _ b679) (fun _ h9 => h9) rfl dM_reads_324 ?_
                                                    refine lv_iconst (v := nI 3) hx hb dM_reads_327 (by decide) ?_
                                                    refine lv_iload_n hx hb dM_reads_328 rfl (lv_at hl 2 rfl) ?_
                                                    refine lv_imul hx hb dM_reads_329 ?_
                                                    refine k_toi (y := nI (3 * kF)) (pk_mul _ _) ?_
                                                    refine lv_iconst (v := nI 2) hx hb dM_reads_330 (by decide) ?_
                                                    refine lv_iadd hx hb dM_reads_331 ?_
                                                    refine k_toi (y := nI ((3 * kF) + 2)) (nI_add _ _) ?_
                                                    refine k_iald hx hb hK hP 6 rfl (k := (3 * kF) + 2) (by omega) (by decide) dM_reads_332 ?_
                                                    refine k_i (ws2 := fun u => [(qm, .inr (6, [.int (nI th), .int (nI ul), .ref xt, .int (nI pt91), .ref xh, .ref xi, .ref xl, .ref xo, .ref xg, .ref xd, .int (zB ld), .ref xs, .int (nI stt), .int (nI sts), .int (nI drw), .ref xn, .ref xb, .ref xv, .int (nI bd), .int (nI rd)])), (xt, aI G 400 tx), (xh, aI G 5 hh91), (xi, aI G 100 fi91), (xl, aI G 300 fl91), (xo, aI G 100 fo91), (xg, aI G 300 fg91), (xd, aZ G 100 dC)]) (wr := [(xt, aI G 400 tx), (xi, aI G 100 fi91), (xl, aI G 300 fl91), (xo, aI G 100 fo91), (xg, aI G 300 fg91)]) (k_runV (n := 1) (As := [.int (nI (fg91 ((3 * kF) + 2)))]) (rest := []) hx hb hml hown htb hP hD hK hS hA hE (k_M_means l G H.size qm xt xh xi xl xo xg xd xs xn xb xv th ul pt91 ld stt sts drw bd rd hh91 dC (fg91 ((3 * kF) + 2)) (show (fg91 ((3 * kF) + 2)) < 100 from by omega) (show hh91 0 < 100 from by omega)) b780 b782 s36 b7 b783 (by decide +kernel) rfl rfl ⟨by rw [hRf]; exact Nat.le_of_ble_eq_true rfl, by rw [hRl]; exact Nat.le_of_ble_eq_true rfl⟩ [0, 2, 7] rfl (by decide) 0 rfl rfl rfl rfl hl.1 rfl (Nat.le_of_ble_eq_true rfl) dM_reads_333 ⟨Nat.zero_le _, Nat.zero_le _⟩) hP hD hS hA [0, 2, 7] [1, 3, 4, 5, 6] [5, 0, 6, 1, 2, 3, 4, 7] rfl rfl (by decide) (by decide) (fun u => rfl) (by decide) (fun r u H locs hw hP hD hS => ?_)
                                                    rcases hw with ⟨hc333_e, rfl, rfl⟩ | ⟨hc333_e, rfl, rfl⟩
                                                    · skip
                                                      have hP : va_P (gD G) vC [(qm, .inr (6, [.int (nI th), .int (nI ul), .ref xt, .int (nI pt91), .ref xh, .ref xi, .ref xl, .ref xo, .ref xg, .ref xd, .int (zB ld), .ref xs, .int (nI stt), .int (nI sts), .int (nI drw), .ref xn, .ref xb, .ref xv, .int (nI bd), .int (nI rd)])), (xt, aI G 400 tx), (xh, aI G 5 hh91), (xi, aI G 100 fi91), (xl, aI G 300 fl91), (xo, aI G 100 fo91), (xg, aI G 300 fg91), (xd, aZ G 100 dC)] H := hP
                                                      have hD : va_D A [(qm, .inr (6, [.int (nI th), .int (nI ul), .ref xt, .int (nI pt91), .ref xh, .ref xi, .ref xl, .ref xo, .ref xg, .ref xd, .int (zB ld), .ref xs, .int (nI stt), .int (nI sts), .int (nI drw), .ref xn, .ref xb, .ref xv, .int (nI bd), .int (nI rd)])), (xt, aI G 400 tx), (xh, aI G 5 hh91), (xi, aI G 100 fi91), (xl, aI G 300 fl91), (xo, aI G 100 fo91), (xg, aI G 300 fg91), (xd, aZ G 100 dC)] := hD
                                                      have hgd2 : mnR (lk tx ul) dC (xga (lk tx ul) kF 2) := by have q9 := hc333_e; rw [hy3, hy0] at q9; exact q9
                                                      refine lv_if_eq (tgt := 343) hx hb dM_reads_336 rfl (fun h336 => (by revert h336; first | decide | exact fun z => absurd z (by decide) | exact fun z => z.elim (by decide))) (fun _ => ?_)
                                                      refine lv_iconst (v := nI 1) hx hb dM_reads_339 (by decide) ?_
                                                      refine lv_goto (tgt := 344) hx hb dM_reads_340 rfl ?_
                                                      refine lv_istore_n (lv' := [(1, .int (nI 1)), (0, .ref qm), (2, .int (nI kF))]) hx hb dM_reads_344 rfl hl (by decide) rfl (fun ls hl => ?_)
                                                      refine lv_iinc (v := nI (kF + 1)) (lv' := [(2, .int (nI (kF + 1))), (1, .int (nI 1)), (0, .ref qm)]) hx hb dM_reads_345 hl (k := 2) rfl (nI_add _ 1) (by decide) rfl (fun ls hl => ?_)
                                                      refine lv_goto (tgt := 291) hx hb dM_reads_348 rfl ?_
                                                      have hl : lv_has ls 4 [(0, .ref qm), (1, .int (nI 1)), (2, .int (nI (kF + 1)))] := lv_sub hl [2, 1, 0] rfl
                                                      exact ih291 1 (kF + 1) _ _ _ (by omega) (by omega) (by first | exact rS_mg hsF h302 hgd hgd2 | exact rS_0 hsF h302 | exact rS_no hsF (fun q => rS_mgn (by omega) q (Or.inl hgd)) | exact rS_no hsF (fun q => rS_mgn (by omega) q (Or.inr hgd2))) hP hD hS hl
                                                    · skip
                                                      have hP : va_P (gD G) vC [(qm, .inr (6, [.int (nI th), .int (nI ul), .ref xt, .int (nI pt91), .ref xh, .ref xi, .ref xl, .ref xo, .ref xg, .ref xd, .int (zB ld), .ref xs, .int (nI stt), .int (nI sts), .int (nI drw), .ref xn, .ref xb, .ref xv, .int (nI bd), .int (nI rd)])), (xt, aI G 400 tx), (xh, aI G 5 hh91), (xi, aI G 100 fi91), (xl, aI G 300 fl91), (xo, aI G 100 fo91), (xg, aI G 300 fg91), (xd, aZ G 100 dC)] H := hP
                                                      have hD : va_D A [(qm, .inr (6, [.int (nI th), .int (nI ul), .ref xt, .int (nI pt91), .ref xh, .ref xi, .ref xl, .ref xo, .ref xg, .ref xd, .int (zB ld), .ref xs, .int (nI stt), .int (nI sts), .int (nI drw), .ref xn, .ref xb, .ref xv, .int (nI bd), .int (nI rd)])), (xt, aI G 400 tx), (xh, aI G 5 hh91), (xi, aI G 100 fi91), (xl, aI G 300 fl91), (xo, aI G 100 fo91), (xg, aI G 300 fg91), (xd, aZ G 100 dC)] := hD
                                                      have hgd2 : ¬ mnR (lk tx ul) dC (xga (lk tx ul) kF 2) := by have q9 := hc333_e; rw [hy3, hy0] at q9; exact q9
                                                      refine lv_if_eq (tgt := 343) hx hb dM_reads_336 rfl (fun _ => ?_) (fun h336 => (by revert h336; first | decide | exact fun z => absurd z (by decide) | exact fun z => z.elim (by decide)))
                                                      refine lv_iconst (v := nI 0) hx hb dM_reads_343 (by decide) ?_
                                                      refine lv_istore_n (lv' := [(1, .int (nI 0)), (0, .ref qm), (2, .int (nI kF))]) hx hb dM_reads_344 rfl hl (by decide) rfl (fun ls hl => ?_)
                                                      refine lv_iinc (v := nI (kF + 1)) (lv' := [(2, .int (nI (kF + 1))), (1, .int (nI 0)), (0, .ref qm)]) hx hb dM_reads_345 hl (k := 2) rfl (nI_add _ 1) (by decide) rfl (fun ls hl => ?_)
                                                      refine lv_goto (tgt := 291) hx hb dM_reads_348 rfl ?_
                                                      have hl : lv_has ls 4 [(0, .ref qm), (1, .int (nI 0)), (2, .int (nI (kF + 1)))] := lv_sub hl [2, 1, 0] rfl
                                                      exact ih291 0 (kF + 1) _ _ _ (by omega) (by omega) (by first | exact rS_mg hsF h302 hgd hgd2 | exact rS_0 hsF h302 | exact rS_no hsF (fun q => rS_mgn (by omega) q (Or.inl hgd)) | exact rS_no hsF (fun q => rS_mgn (by omega) q (Or.inr hgd2))) hP hD hS hl
                                                  · skip
                                                    have hP : va_P (gD G) vC [(qm, .inr (6, [.int (nI th), .int (nI ul), .ref xt, .int (nI pt91), .ref xh, .ref xi, .ref xl, .ref xo, .ref xg, .ref xd, .int (zB ld), .ref xs, .int (nI stt), .int (nI sts), .int (nI drw), .ref xn, .ref xb, .ref xv, .int (nI bd), .int (nI rd)])), (xt, aI G 400 tx), (xh, aI G 5 hh91), (xi, aI G 100 fi91), (xl, aI G 300 fl91), (xo, aI G 100 fo91), (xg, aI G 300 fg91), (xd, aZ G 100 dC)] H := hP
                                                    have hD : va_D A [(qm, .inr (6, [.int (nI th), .int (nI ul), .ref xt, .int (nI pt91), .ref xh, .ref xi, .ref xl, .ref xo, .ref xg, .ref xd, .int (zB ld), .ref xs, .int (nI stt), .int (nI sts), .int (nI drw), .ref xn, .ref xb, .ref xv, .int (nI bd), .int (nI rd)])), (xt, aI G 400 tx), (xh, aI G 5 hh91), (xi, aI G 100 fi91), (xl, aI G 300 fl91), (xo, aI G 100 fo91), (xg, aI G 300 fg91), (xd, aZ G 100 dC)] := hD
                                                    have hgd : ¬ mnR (lk tx ul) dC (xga (lk tx ul) kF 1) := by have q9 := hc316_e; rw [hy2, hy0] at q9; exact q9
                                                    refine lv_if_eq (tgt := 343) hx hb dM_reads_319 rfl (fun _ => ?_) (fun h319 => (by revert h319; first | decide | exact fun z => absurd z (by decide) | exact fun z => z.elim (by decide)))
                                                    refine lv_iconst (v := nI 0) hx hb dM_reads_343 (by decide) ?_
                                                    refine lv_istore_n (lv' := [(1, .int (nI 0)), (0, .ref qm), (2, .int (nI kF))]) hx hb dM_reads_344 rfl hl (by decide) rfl (fun ls hl => ?_)
                                                    refine lv_iinc (v := nI (kF + 1)) (lv' := [(2, .int (nI (kF + 1))), (1, .int (nI 0)), (0, .ref qm)]) hx hb dM_reads_345 hl (k := 2) rfl (nI_add _ 1) (by decide) rfl (fun ls hl => ?_)
                                                    refine lv_goto (tgt := 291) hx hb dM_reads_348 rfl ?_
                                                    have hl : lv_has ls 4 [(0, .ref qm), (1, .int (nI 0)), (2, .int (nI (kF + 1)))] := lv_sub hl [2, 1, 0] rfl
                                                    exact ih291 0 (kF + 1) _ _ _ (by omega) (by omega) (by first | exact rS_mg hsF h302 hgd hgd2 | exact rS_0 hsF h302 | exact rS_no hsF (fun q => rS_mgn (by omega) q (Or.inl hgd)) | exact rS_no hsF (fun q => rS_mgn (by omega) q (Or.inr hgd2))) hP hD hS hl
                                          have hl : lv_has ls 4 [(0, .ref qm), (1, .int (nI goE)), (2, .int (nI 0))] := lv_sub hl [1, 2, 0] rfl
                                          exact loop291 (hh91 4 - 0 + 1) goE 0 _ _ _ (by omega) (by omega) (by have q9 := hsE; rw [show kE = hd (lk tx ul) 3 by omega] at q9; exact q9) hP hD hS hl
                                        · have h257 : kE < hh91 3 := Nat.lt_of_not_le (fun z => h257 ((nI_leI (a := hh91 3) (b := kE) (by omega) (by omega)).mpr z))
                                          refine lv_iload_n hx hb dM_reads_260 rfl (lv_at hl 1 rfl) ?_
                                          refine lv_if_eq (tgt := 281) hx hb dM_reads_261 rfl (fun h261 => ?_) (fun h261 => ?_)
                                          · have h261 : goE = 0 := (nI_eq (a := goE) (b := 0) (by omega) (by omega)).mp h261
                                            refine lv_iconst (v := nI 0) hx hb dM_reads_281 (by decide) ?_
                                            refine lv_istore_n (lv' := [(1, .int (nI 0)), (0, .ref qm), (2, .int (nI kE))]) hx hb dM_reads_282 rfl hl (by decide) rfl (fun ls hl => ?_)
                                            refine lv_iinc (v := nI (kE + 1)) (lv' := [(2, .int (nI (kE + 1))), (1, .int (nI 0)), (0, .ref qm)]) hx hb dM_reads_283 hl (k := 2) rfl (nI_add _ 1) (by decide) rfl (fun ls hl => ?_)
                                            refine lv_goto (tgt := 250) hx hb dM_reads_286 rfl ?_
                                            have hl : lv_has ls 4 [(0, .ref qm), (1, .int (nI 0)), (2, .int (nI (kE + 1)))] := lv_sub hl [2, 1, 0] rfl
                                            exact ih250 0 (kE + 1) _ _ _ (by omega) (by omega) (by first | exact rS_mo hsE h261 hgd | exact rS_0 hsE h261 | exact rS_no hsE (fun q => rS_mon (by omega) q hgd)) hP hD hS hl
                                          · have h261 : ¬ goE = 0 := fun z => h261 ((nI_eq (a := goE) (b := 0) (by omega) (by omega)).mpr z)
                                            refine lv_aload_n hx hb dM_reads_264 rfl (lv_at hl 0 rfl) ?_
                                            refine lv_aload_n hx hb dM_reads_265 rfl (lv_at hl 0 rfl) ?_
                                            refine va_get (D := gD G) (ci := 6) (v := .ref xo) (C := "CircuitProverModel") (T := TM) (N := 20) hx hb htb inM hown hK hP 0 rfl rfl 7 (by decide) (htb _ b678) (fun _ h9 => h9) rfl dM_reads_266 ?_
                                            refine lv_iload_n hx hb dM_reads_269 rfl (lv_at hl 2 rfl) ?_
                                            have hy1 : fo91 kE = xou (lk tx ul) kE := hc1_u kE (by omega)
                                            have hl1 := xou_lt (lk tx ul) kE
                                            refine k_iald hx hb hK hP 5 rfl (k := kE) (by omega) (by decide) dM_reads_270 ?_
                                            refine k_i (ws2 := fun u => [(qm, .inr (6, [.int (nI th), .int (nI ul), .ref xt, .int (nI pt91), .ref xh, .ref xi, .ref xl, .ref xo, .ref xg, .ref xd, .int (zB ld), .ref xs, .int (nI stt), .int (nI sts), .int (nI drw), .ref xn, .ref xb, .ref xv, .int (nI bd), .int (nI rd)])), (xt, aI G 400 tx), (xh, aI G 5 hh91), (xi, aI G 100 fi91), (xl, aI G 300 fl91), (xo, aI G 100 fo91), (xg, aI G 300 fg91), (xd, aZ G 100 dC)]) (wr := [(xt, aI G 400 tx), (xi, aI G 100 fi91), (xl, aI G 300 fl91), (xo, aI G 100 fo91), (xg, aI G 300 fg91)]) (k_runV (n := 1) (As := [.int (nI (fo91 kE))]) (rest := []) hx hb hml hown htb hP hD hK hS hA hE (k_M_means l G H.size qm xt xh xi xl xo xg xd xs xn xb xv th ul pt91 ld stt sts drw bd rd hh91 dC (fo91 kE) (show (fo91 kE) < 100 from by omega) (show hh91 0 < 100 from by omega)) b780 b782 s36 b7 b783 (by decide +kernel) rfl rfl ⟨by rw [hRf]; exact Nat.le_of_ble_eq_true rfl, by rw [hRl]; exact Nat.le_of_ble_eq_true rfl⟩ [0, 2, 7] rfl (by decide) 0 rfl rfl rfl rfl hl.1 rfl (Nat.le_of_ble_eq_true rfl) dM_reads_271 ⟨Nat.zero_le _, Nat.zero_le _⟩) hP hD hS hA [0, 2, 7] [1, 3, 4, 5, 6] [5, 0, 6, 1, 2, 3, 4, 7] rfl rfl (by decide) (by decide) (fun u => rfl) (by decide) (fun r u H locs hw hP hD hS => ?_)
                                            rcases hw with ⟨hc271_e, rfl, rfl⟩ | ⟨hc271_e, rfl, rfl⟩
                                            · skip
                                              have hP : va_P (gD G) vC [(qm, .inr (6, [.int (nI th), .int (nI ul), .ref xt, .int (nI pt91), .ref xh, .ref xi, .ref xl, .ref xo, .ref xg, .ref xd, .int (zB ld), .ref xs, .int (nI stt), .int (nI sts), .int (nI drw), .ref xn, .ref xb, .ref xv, .int (nI bd), .int (nI rd)])), (xt, aI G 400 tx), (xh, aI G 5 hh91), (xi, aI G 100 fi91), (xl, aI G 300 fl91), (xo, aI G 100 fo91), (xg, aI G 300 fg91), (xd, aZ G 100 dC)] H := hP
                                              have hD : va_D A [(qm, .inr (6, [.int (nI th), .int (nI ul), .ref xt, .int (nI pt91), .ref xh, .ref xi, .ref xl, .ref xo, .ref xg, .ref xd, .int (zB ld), .ref xs, .int (nI stt), .int (nI sts), .int (nI drw), .ref xn, .ref xb, .ref xv, .int (nI bd), .int (nI rd)])), (xt, aI G 400 tx), (xh, aI G 5 hh91), (xi, aI G 100 fi91), (xl, aI G 300 fl91), (xo, aI G 100 fo91), (xg, aI G 300 fg91), (xd, aZ G 100 dC)] := hD
                                              have hgd : mnR (lk tx ul) dC (xou (lk tx ul) kE) := by have q9 := hc271_e; rw [hy1, hy0] at q9; exact q9
                                              refine lv_if_eq (tgt := 281) hx hb dM_reads_274 rfl (fun h274 => (by revert h274; first | decide | exact fun z => absurd z (by decide) | exact fun z => z.elim (by decide))) (fun _ => ?_)
                                              refine lv_iconst (v := nI 1) hx hb dM_reads_277 (by decide) ?_
                                              refine lv_goto (tgt := 282) hx hb dM_reads_278 rfl ?_
                                              refine lv_istore_n (lv' := [(1, .int (nI 1)), (0, .ref qm), (2, .int (nI kE))]) hx hb dM_reads_282 rfl hl (by decide) rfl (fun ls hl => ?_)
                                              refine lv_iinc (v := nI (kE + 1)) (lv' := [(2, .int (nI (kE + 1))), (1, .int (nI 1)), (0, .ref qm)]) hx hb dM_reads_283 hl (k := 2) rfl (nI_add _ 1) (by decide) rfl (fun ls hl => ?_)
                                              refine lv_goto (tgt := 250) hx hb dM_reads_286 rfl ?_
                                              have hl : lv_has ls 4 [(0, .ref qm), (1, .int (nI 1)), (2, .int (nI (kE + 1)))] := lv_sub hl [2, 1, 0] rfl
                                              exact ih250 1 (kE + 1) _ _ _ (by omega) (by omega) (by first | exact rS_mo hsE h261 hgd | exact rS_0 hsE h261 | exact rS_no hsE (fun q => rS_mon (by omega) q hgd)) hP hD hS hl
                                            · skip
                                              have hP : va_P (gD G) vC [(qm, .inr (6, [.int (nI th), .int (nI ul), .ref xt, .int (nI pt91), .ref xh, .ref xi, .ref xl, .ref xo, .ref xg, .ref xd, .int (zB ld), .ref xs, .int (nI stt), .int (nI sts), .int (nI drw), .ref xn, .ref xb, .ref xv, .int (nI bd), .int (nI rd)])), (xt, aI G 400 tx), (xh, aI G 5 hh91), (xi, aI G 100 fi91), (xl, aI G 300 fl91), (xo, aI G 100 fo91), (xg, aI G 300 fg91), (xd, aZ G 100 dC)] H := hP
                                              have hD : va_D A [(qm, .inr (6, [.int (nI th), .int (nI ul), .ref xt, .int (nI pt91), .ref xh, .ref xi, .ref xl, .ref xo, .ref xg, .ref xd, .int (zB ld), .ref xs, .int (nI stt), .int (nI sts), .int (nI drw), .ref xn, .ref xb, .ref xv, .int (nI bd), .int (nI rd)])), (xt, aI G 400 tx), (xh, aI G 5 hh91), (xi, aI G 100 fi91), (xl, aI G 300 fl91), (xo, aI G 100 fo91), (xg, aI G 300 fg91), (xd, aZ G 100 dC)] := hD
                                              have hgd : ¬ mnR (lk tx ul) dC (xou (lk tx ul) kE) := by have q9 := hc271_e; rw [hy1, hy0] at q9; exact q9
                                              refine lv_if_eq (tgt := 281) hx hb dM_reads_274 rfl (fun _ => ?_) (fun h274 => (by revert h274; first | decide | exact fun z => absurd z (by decide) | exact fun z => z.elim (by decide)))
                                              refine lv_iconst (v := nI 0) hx hb dM_reads_281 (by decide) ?_
                                              refine lv_istore_n (lv' := [(1, .int (nI 0)), (0, .ref qm), (2, .int (nI kE))]) hx hb dM_reads_282 rfl hl (by decide) rfl (fun ls hl => ?_)
                                              refine lv_iinc (v := nI (kE + 1)) (lv' := [(2, .int (nI (kE + 1))), (1, .int (nI 0)), (0, .ref qm)]) hx hb dM_reads_283 hl (k := 2) rfl (nI_add _ 1) (by decide) rfl (fun ls hl => ?_)
                                              refine lv_goto (tgt := 250) hx hb dM_reads_286 rfl ?_
                                              have hl : lv_has ls 4 [(0, .ref qm), (1, .int (nI 0)), (2, .int (nI (kE + 1)))] := lv_sub hl [2, 1, 0] rfl
                                              exact ih250 0 (kE + 1) _ _ _ (by omega) (by omega) (by first | exact rS_mo hsE h261 hgd | exact rS_0 hsE h261 | exact rS_no hsE (fun q => rS_mon (by omega) q hgd)) hP hD hS hl
                                    have hl : lv_has ls 4 [(0, .ref qm), (1, .int (nI goD)), (2, .int (nI 0))] := lv_sub hl [1, 2, 0] rfl
                                    exact loop250 (hh91 3 - 0 + 1) goD 0 _ _ _ (by omega) (by omega) (by have q9 := hsD; rw [show kD = hd (lk tx ul) 2 by omega] at q9; exact q9) hP hD hS hl
                                  · have h212 : kD < hh91 2 := Nat.lt_of_not_le (fun z => h212 ((nI_leI (a := hh91 2) (b := kD) (by omega) (by omega)).mpr z))
                                    refine lv_iload_n hx hb dM_reads_215 rfl (lv_at hl 1 rfl) ?_
                                    refine lv_if_eq (tgt := 240) hx hb dM_reads_216 rfl (fun h216 => ?_) (fun h216 => ?_)
                                    · have h216 : goD = 0 := (nI_eq (a := goD) (b := 0) (by omega) (by omega)).mp h216
                                      refine lv_iconst (v := nI 0) hx hb dM_reads_240 (by decide) ?_
                                      refine lv_istore_n (lv' := [(1, .int (nI 0)), (0, .ref qm), (2, .int (nI kD))]) hx hb dM_reads_241 rfl hl (by decide) rfl (fun ls hl => ?_)
                                      refine lv_iinc (v := nI (kD + 1)) (lv' := [(2, .int (nI (kD + 1))), (1, .int (nI 0)), (0, .ref qm)]) hx hb dM_reads_242 hl (k := 2) rfl (nI_add _ 1) (by decide) rfl (fun ls hl => ?_)
                                      refine lv_goto (tgt := 205) hx hb dM_reads_245 rfl ?_
                                      have hl : lv_has ls 4 [(0, .ref qm), (1, .int (nI 0)), (2, .int (nI (kD + 1)))] := lv_sub hl [2, 1, 0] rfl
                                      exact ih205 0 (kD + 1) _ _ _ (by omega) (by omega) (by first | exact rS_ml hsD h216 hgd | exact rS_0 hsD h216 | exact rS_no hsD (fun q => rS_mln (by omega) q hgd)) hP hD hS hl
                                    · have h216 : ¬ goD = 0 := fun z => h216 ((nI_eq (a := goD) (b := 0) (by omega) (by omega)).mpr z)
                                      refine lv_aload_n hx hb dM_reads_219 rfl (lv_at hl 0 rfl) ?_
                                      refine lv_aload_n hx hb dM_reads_220 rfl (lv_at hl 0 rfl) ?_
                                      refine va_get (D := gD G) (ci := 6) (v := .ref xl) (C := "CircuitProverModel") (T := TM) (N := 20) hx hb htb inM hown hK hP 0 rfl rfl 6 (by decide) (htb _ b677) (fun _ h9 => h9) rfl dM_reads_221 ?_
                                      refine lv_iconst (v := nI 3) hx hb dM_reads_224 (by decide) ?_
                                      refine lv_iload_n hx hb dM_reads_225 rfl (lv_at hl 2 rfl) ?_
                                      refine lv_imul hx hb dM_reads_226 ?_
                                      refine k_toi (y := nI (3 * kD)) (pk_mul _ _) ?_
                                      refine lv_iconst (v := nI 1) hx hb dM_reads_227 (by decide) ?_
                                      refine lv_iadd hx hb dM_reads_228 ?_
                                      refine k_toi (y := nI ((3 * kD) + 1)) (nI_add _ _) ?_
                                      have hy2 : fl91 (3 * kD + 1) = xla (lk tx ul) kD 1 := hc1_l kD (by omega) 1 (by decide)
                                      have hl2 := xla_lt (lk tx ul) kD 1
                                      refine k_iald hx hb hK hP 4 rfl (k := (3 * kD) + 1) (by omega) (by decide) dM_reads_229 ?_
                                      refine k_i (ws2 := fun u => [(qm, .inr (6, [.int (nI th), .int (nI ul), .ref xt, .int (nI pt91), .ref xh, .ref xi, .ref xl, .ref xo, .ref xg, .ref xd, .int (zB ld), .ref xs, .int (nI stt), .int (nI sts), .int (nI drw), .ref xn, .ref xb, .ref xv, .int (nI bd), .int (nI rd)])), (xt, aI G 400 tx), (xh, aI G 5 hh91), (xi, aI G 100 fi91), (xl, aI G 300 fl91), (xo, aI G 100 fo91), (xg, aI G 300 fg91), (xd, aZ G 100 dC)]) (wr := [(xt, aI G 400 tx), (xi, aI G 100 fi91), (xl, aI G 300 fl91), (xo, aI G 100 fo91), (xg, aI G 300 fg91)]) (k_runV (n := 1) (As := [.int (nI (fl91 ((3 * kD) + 1)))]) (rest := []) hx hb hml hown htb hP hD hK hS hA hE (k_M_means l G H.size qm xt xh xi xl xo xg xd xs xn xb xv th ul pt91 ld stt sts drw bd rd hh91 dC (fl91 ((3 * kD) + 1)) (show (fl91 ((3 * kD) + 1)) < 100 from by omega) (show hh91 0 < 100 from by omega)) b780 b782 s36 b7 b783 (by decide +kernel) rfl rfl ⟨by rw [hRf]; exact Nat.le_of_ble_eq_true rfl, by rw [hRl]; exact Nat.le_of_ble_eq_true rfl⟩ [0, 2, 7] rfl (by decide) 0 rfl rfl rfl rfl hl.1 rfl (Nat.le_of_ble_eq_true rfl) dM_reads_230 ⟨Nat.zero_le _, Nat.zero_le _⟩) hP hD hS hA [0, 2, 7] [1, 3, 4, 5, 6] [5, 0, 6, 1, 2, 3, 4, 7] rfl rfl (by decide) (by decide) (fun u => rfl) (by decide) (fun r u H locs hw hP hD hS => ?_)
                                      rcases hw with ⟨hc230_e, rfl, rfl⟩ | ⟨hc230_e, rfl, rfl⟩
                                      · skip
                                        have hP : va_P (gD G) vC [(qm, .inr (6, [.int (nI th), .int (nI ul), .ref xt, .int (nI pt91), .ref xh, .ref xi, .ref xl, .ref xo, .ref xg, .ref xd, .int (zB ld), .ref xs, .int (nI stt), .int (nI sts), .int (nI drw), .ref xn, .ref xb, .ref xv, .int (nI bd), .int (nI rd)])), (xt, aI G 400 tx), (xh, aI G 5 hh91), (xi, aI G 100 fi91), (xl, aI G 300 fl91), (xo, aI G 100 fo91), (xg, aI G 300 fg91), (xd, aZ G 100 dC)] H := hP
                                        have hD : va_D A [(qm, .inr (6, [.int (nI th), .int (nI ul), .ref xt, .int (nI pt91), .ref xh, .ref xi, .ref xl, .ref xo, .ref xg, .ref xd, .int (zB ld), .ref xs, .int (nI stt), .int (nI sts), .int (nI drw), .ref xn, .ref xb, .ref xv, .int (nI bd), .int (nI rd)])), (xt, aI G 400 tx), (xh, aI G 5 hh91), (xi, aI G 100 fi91), (xl, aI G 300 fl91), (xo, aI G 100 fo91), (xg, aI G 300 fg91), (xd, aZ G 100 dC)] := hD
                                        have hgd : mnR (lk tx ul) dC (xla (lk tx ul) kD 1) := by have q9 := hc230_e; rw [hy2, hy0] at q9; exact q9
                                        refine lv_if_eq (tgt := 240) hx hb dM_reads_233 rfl (fun h233 => (by revert h233; first | decide | exact fun z => absurd z (by decide) | exact fun z => z.elim (by decide))) (fun _ => ?_)
                                        refine lv_iconst (v := nI 1) hx hb dM_reads_236 (by decide) ?_
                                        refine lv_goto (tgt := 241) hx hb dM_reads_237 rfl ?_
                                        refine lv_istore_n (lv' := [(1, .int (nI 1)), (0, .ref qm), (2, .int (nI kD))]) hx hb dM_reads_241 rfl hl (by decide) rfl (fun ls hl => ?_)
                                        refine lv_iinc (v := nI (kD + 1)) (lv' := [(2, .int (nI (kD + 1))), (1, .int (nI 1)), (0, .ref qm)]) hx hb dM_reads_242 hl (k := 2) rfl (nI_add _ 1) (by decide) rfl (fun ls hl => ?_)
                                        refine lv_goto (tgt := 205) hx hb dM_reads_245 rfl ?_
                                        have hl : lv_has ls 4 [(0, .ref qm), (1, .int (nI 1)), (2, .int (nI (kD + 1)))] := lv_sub hl [2, 1, 0] rfl
                                        exact ih205 1 (kD + 1) _ _ _ (by omega) (by omega) (by first | exact rS_ml hsD h216 hgd | exact rS_0 hsD h216 | exact rS_no hsD (fun q => rS_mln (by omega) q hgd)) hP hD hS hl
                                      · skip
                                        have hP : va_P (gD G) vC [(qm, .inr (6, [.int (nI th), .int (nI ul), .ref xt, .int (nI pt91), .ref xh, .ref xi, .ref xl, .ref xo, .ref xg, .ref xd, .int (zB ld), .ref xs, .int (nI stt), .int (nI sts), .int (nI drw), .ref xn, .ref xb, .ref xv, .int (nI bd), .int (nI rd)])), (xt, aI G 400 tx), (xh, aI G 5 hh91), (xi, aI G 100 fi91), (xl, aI G 300 fl91), (xo, aI G 100 fo91), (xg, aI G 300 fg91), (xd, aZ G 100 dC)] H := hP
                                        have hD : va_D A [(qm, .inr (6, [.int (nI th), .int (nI ul), .ref xt, .int (nI pt91), .ref xh, .ref xi, .ref xl, .ref xo, .ref xg, .ref xd, .int (zB ld), .ref xs, .int (nI stt), .int (nI sts), .int (nI drw), .ref xn, .ref xb, .ref xv, .int (nI bd), .int (nI rd)])), (xt, aI G 400 tx), (xh, aI G 5 hh91), (xi, aI G 100 fi91), (xl, aI G 300 fl91), (xo, aI G 100 fo91), (xg, aI G 300 fg91), (xd, aZ G 100 dC)] := hD
                                        have hgd : ¬ mnR (lk tx ul) dC (xla (lk tx ul) kD 1) := by have q9 := hc230_e; rw [hy2, hy0] at q9; exact q9
                                        refine lv_if_eq (tgt := 240) hx hb dM_reads_233 rfl (fun _ => ?_) (fun h233 => (by revert h233; first | decide | exact fun z => absurd z (by decide) | exact fun z => z.elim (by decide)))
                                        refine lv_iconst (v := nI 0) hx hb dM_reads_240 (by decide) ?_
                                        refine lv_istore_n (lv' := [(1, .int (nI 0)), (0, .ref qm), (2, .int (nI kD))]) hx hb dM_reads_241 rfl hl (by decide) rfl (fun ls hl => ?_)
                                        refine lv_iinc (v := nI (kD + 1)) (lv' := [(2, .int (nI (kD + 1))), (1, .int (nI 0)), (0, .ref qm)]) hx hb dM_reads_242 hl (k := 2) rfl (nI_add _ 1) (by decide) rfl (fun ls hl => ?_)
                                        refine lv_goto (tgt := 205) hx hb dM_reads_245 rfl ?_
                                        have hl : lv_has ls 4 [(0, .ref qm), (1, .int (nI 0)), (2, .int (nI (kD + 1)))] := lv_sub hl [2, 1, 0] rfl
                                        exact ih205 0 (kD + 1) _ _ _ (by omega) (by omega) (by first | exact rS_ml hsD h216 hgd | exact rS_0 hsD h216 | exact rS_no hsD (fun q => rS_mln (by omega) q hgd)) hP hD hS hl
                              have hl : lv_has ls 4 [(0, .ref qm), (1, .int (nI goC)), (2, .int (nI 0))] := lv_sub hl [1, 2, 0] rfl
                              exact loop205 (hh91 2 - 0 + 1) goC 0 _ _ _ (by omega) (by omega) (by have q9 := hsC; rw [show kC = hd (lk tx ul) 4 by omega] at q9; exact q9) hP hD hS hl
                            · have h139 : kC < hh91 4 := Nat.lt_of_not_le (fun z => h139 ((nI_leI (a := hh91 4) (b := kC) (by omega) (by omega)).mpr z))
                              refine lv_aload_n hx hb dM_reads_142 rfl (lv_at hl 0 rfl) ?_
                              refine va_get (D := gD G) (ci := 6) (v := .ref xg) (C := "CircuitProverModel") (T := TM) (N := 20) hx hb htb inM hown hK hP 0 rfl rfl 8 (by decide) (htb _ b679) (fun _ h9 => h9) rfl dM_reads_143 ?_
                              refine lv_iconst (v := nI 3) hx hb dM_reads_146 (by decide) ?_
                              refine lv_iload_n hx hb dM_reads_147 rfl (lv_at hl 2 rfl) ?_
                              refine lv_imul hx hb dM_reads_148 ?_
                              refine k_toi (y := nI (3 * kC)) (pk_mul _ _) ?_
                              have hy1 : fg91 (3 * kC) = xga (lk tx ul) kC 0 := hc1_g kC (by omega) 0 (by decide)
                              have hy2 : fg91 (3 * kC + 1) = xga (lk tx ul) kC 1 := hc1_g kC (by omega) 1 (by decide)
                              have hy3 : fg91 (3 * kC + 2) = xga (lk tx ul) kC 2 := hc1_g kC (by omega) 2 (by decide)
                              have hl1 := xga_lt (lk tx ul) kC 0
                              have hl2 := xga_lt (lk tx ul) kC 1
                              have hl3 := xga_lt (lk tx ul) kC 2
                              refine k_iald hx hb hK hP 6 rfl (k := 3 * kC) (by omega) (by decide) dM_reads_149 ?_
                              refine lv_istore_n (lv' := [(3, .int (nI (fg91 (3 * kC)))), (0, .ref qm), (1, .int (nI goC)), (2, .int (nI kC))]) hx hb dM_reads_150 rfl hl (by decide) rfl (fun ls hl => ?_)
                              refine lv_aload_n hx hb dM_reads_151 rfl (lv_at hl 1 rfl) ?_
                              refine lv_iload_n hx hb dM_reads_152 rfl (lv_at hl 0 rfl) ?_
                              refine k_i (ws2 := fun u => [(qm, .inr (6, [.int (nI th), .int (nI ul), .ref xt, .int (nI pt91), .ref xh, .ref xi, .ref xl, .ref xo, .ref xg, .ref xd, .int (zB ld), .ref xs, .int (nI stt), .int (nI sts), .int (nI drw), .ref xn, .ref xb, .ref xv, .int (nI bd), .int (nI rd)])), (xt, aI G 400 tx), (xh, aI G 5 hh91), (xi, aI G 100 fi91), (xl, aI G 300 fl91), (xo, aI G 100 fo91), (xg, aI G 300 fg91), (xd, aZ G 100 (u))]) (wr := [(xt, aI G 400 tx), (xi, aI G 100 fi91), (xl, aI G 300 fl91), (xo, aI G 100 fo91), (xg, aI G 300 fg91)]) (k_runV (n := 1) (As := [.int (nI (fg91 (3 * kC)))]) (rest := []) hx hb hml hown htb hP hD hK hS hA hE (k_M_defines l G H.size qm xt xh xi xl xo xg xd xs xn xb xv th ul pt91 ld stt sts drw bd rd hh91 dC (fg91 (3 * kC)) (show (fg91 (3 * kC)) < 100 from by omega) (show hh91 0 < 100 from by omega)) b776 b778 s35 b7 b779 (by decide +kernel) rfl rfl ⟨by rw [hRf]; exact Nat.le_of_ble_eq_true rfl, by rw [hRl]; exact Nat.le_of_ble_eq_true rfl⟩ [0, 2, 7] rfl (by decide) 0 rfl rfl rfl rfl hl.1 rfl (Nat.le_of_ble_eq_true rfl) dM_reads_153 ⟨Nat.zero_le _, Nat.zero_le _⟩) hP hD hS hA [0, 2, 7] [1, 3, 4, 5, 6] [5, 0, 6, 1, 2, 3, 4, 7] rfl rfl (by decide) (by decide) (fun u => rfl) (by decide) (fun r u H locs hw hP hD hS => ?_)
                              rcases hw with ⟨hc153_e, rfl, rfl⟩ | ⟨hc153_e, rfl, rfl⟩
                              · skip
                                have hP : va_P (gD G) vC [(qm, .inr (6, [.int (nI th), .int (nI ul), .ref xt, .int (nI pt91), .ref xh, .ref xi, .ref xl, .ref xo, .ref xg, .ref xd, .int (zB ld), .ref xs, .int (nI stt), .int (nI sts), .int (nI drw), .ref xn, .ref xb, .ref xv, .int (nI bd), .int (nI rd)])), (xt, aI G 400 tx), (xh, aI G 5 hh91), (xi, aI G 100 fi91), (xl, aI G 300 fl91), (xo, aI G 100 fo91), (xg, aI G 300 fg91), (xd, aZ G 100 (va_up dC ((fg91 (3 * kC)) / 2) true))] H := hP
                                have hD : va_D A [(qm, .inr (6, [.int (nI th), .int (nI ul), .ref xt, .int (nI pt91), .ref xh, .ref xi, .ref xl, .ref xo, .ref xg, .ref xd, .int (zB ld), .ref xs, .int (nI stt), .int (nI sts), .int (nI drw), .ref xn, .ref xb, .ref xv, .int (nI bd), .int (nI rd)])), (xt, aI G 400 tx), (xh, aI G 5 hh91), (xi, aI G 100 fi91), (xl, aI G 300 fl91), (xo, aI G 100 fo91), (xg, aI G 300 fg91), (xd, aZ G 100 (va_up dC ((fg91 (3 * kC)) / 2) true))] := hD
                                have hgd : dGood (lk tx ul) dC (xga (lk tx ul) kC 0) := by have q9 := hc153_e; rw [hy1, hy0] at q9; exact q9
                                refine lv_if_eq (tgt := 195) hx hb dM_reads_156 rfl (fun h156 => (by revert h156; first | decide | exact fun z => absurd z (by decide) | exact fun z => z.elim (by decide))) (fun _ => ?_)
                                refine lv_iload_n hx hb dM_reads_159 rfl (lv_at hl 2 rfl) ?_
                                refine lv_if_eq (tgt := 195) hx hb dM_reads_160 rfl (fun h160 => ?_) (fun h160 => ?_)
                                · have h160 : goC = 0 := (nI_eq (a := goC) (b := 0) (by omega) (by omega)).mp h160
                                  refine lv_iconst (v := nI 0) hx hb dM_reads_195 (by decide) ?_
                                  refine lv_istore_n (lv' := [(1, .int (nI 0)), (3, .int (nI (fg91 (3 * kC)))), (0, .ref qm), (2, .int (nI kC))]) hx hb dM_reads_196 rfl hl (by decide) rfl (fun ls hl => ?_)
                                  refine lv_iinc (v := nI (kC + 1)) (lv' := [(2, .int (nI (kC + 1))), (1, .int (nI 0)), (3, .int (nI (fg91 (3 * kC)))), (0, .ref qm)]) hx hb dM_reads_197 hl (k := 3) rfl (nI_add _ 1) (by decide) rfl (fun ls hl => ?_)
                                  refine lv_goto (tgt := 132) hx hb dM_reads_200 rfl ?_
                                  have hl : lv_has ls 4 [(0, .ref qm), (1, .int (nI 0)), (2, .int (nI (kC + 1)))] := lv_sub hl [3, 1, 0] rfl
                                  exact ih132 0 (kC + 1) (va_up dC ((fg91 (3 * kC)) / 2) true) _ _ _ (by omega) (by omega) (by first | (rw [hy1]; exact rS_ga (by omega) hsC h160 hgd ⟨by omega, by omega⟩) | exact rS_0 hsC h160 | exact rS_no hsC (fun q => rS_gan (by omega) q hgd) | exact rS_no hsC (fun _ q => by have := q.2.2.2.1 kC (by omega); omega)) hP hD hS hl
                                · have h160 : ¬ goC = 0 := fun z => h160 ((nI_eq (a := goC) (b := 0) (by omega) (by omega)).mpr z)
                                  refine lv_aload_n hx hb dM_reads_163 rfl (lv_at hl 1 rfl) ?_
                                  refine va_get (D := gD G) (ci := 6) (v := .ref xg) (C := "CircuitProverModel") (T := TM) (N := 20) hx hb htb inM hown hK hP 0 rfl rfl 8 (by decide) (htb _ b679) (fun _ h9 => h9) rfl dM_reads_164 ?_
                                  refine lv_iconst (v := nI 3) hx hb dM_reads_167 (by decide) ?_
                                  refine lv_iload_n hx hb dM_reads_168 rfl (lv_at hl 3 rfl) ?_
                                  refine lv_imul hx hb dM_reads_169 ?_
                                  refine k_toi (y := nI (3 * kC)) (pk_mul _ _) ?_
                                  refine lv_iconst (v := nI 1) hx hb dM_reads_170 (by decide) ?_
                                  refine lv_iadd hx hb dM_reads_171 ?_
                                  refine k_toi (y := nI ((3 * kC) + 1)) (nI_add _ _) ?_
                                  refine k_iald hx hb hK hP 6 rfl (k := (3 * kC) + 1) (by omega) (by decide) dM_reads_172 ?_
                                  refine lv_iload_n hx hb dM_reads_173 rfl (lv_at hl 0 rfl) ?_
                                  refine lv_icmp_ge (tgt := 195) hx hb dM_reads_174 rfl (fun h174 => ?_) (fun h174 => ?_)
                                  · have h174 : fg91 (3 * kC) ≤ fg91 ((3 * kC) + 1) := (nI_leI (a := fg91 (3 * kC)) (b := fg91 ((3 * kC) + 1)) (by omega) (by omega)).mp h174
                                    refine lv_iconst (v := nI 0) hx hb dM_reads_195 (by decide) ?_
                                    refine lv_istore_n (lv' := [(1, .int (nI 0)), (3, .int (nI (fg91 (3 * kC)))), (0, .ref qm), (2, .int (nI kC))]) hx hb dM_reads_196 rfl hl (by decide) rfl (fun ls hl => ?_)
                                    refine lv_iinc (v := nI (kC + 1)) (lv' := [(2, .int (nI (kC + 1))), (1, .int (nI 0)), (3, .int (nI (fg91 (3 * kC)))), (0, .ref qm)]) hx hb dM_reads_197 hl (k := 3) rfl (nI_add _ 1) (by decide) rfl (fun ls hl => ?_)
                                    refine lv_goto (tgt := 132) hx hb dM_reads_200 rfl ?_
                                    have hl : lv_has ls 4 [(0, .ref qm), (1, .int (nI 0)), (2, .int (nI (kC + 1)))] := lv_sub hl [3, 1, 0] rfl
                                    exact ih132 0 (kC + 1) (va_up dC ((fg91 (3 * kC)) / 2) true) _ _ _ (by omega) (by omega) (by first | (rw [hy1]; exact rS_ga (by omega) hsC h160 hgd ⟨by omega, by omega⟩) | exact rS_0 hsC h160 | exact rS_no hsC (fun q => rS_gan (by omega) q hgd) | exact rS_no hsC (fun _ q => by have := q.2.2.2.1 kC (by omega); omega)) hP hD hS hl
                                  · have h174 : fg91 ((3 * kC) + 1) < fg91 (3 * kC) := Nat.lt_of_not_le (fun z => h174 ((nI_leI (a := fg91 (3 * kC)) (b := fg91 ((3 * kC) + 1)) (by omega) (by omega)).mpr z))
                                    refine lv_aload_n hx hb dM_reads_177 rfl (lv_at hl 1 rfl) ?_
                                    refine va_get (D := gD G) (ci := 6) (v := .ref xg) (C := "CircuitProverModel") (T := TM) (N := 20) hx hb htb inM hown hK hP 0 rfl rfl 8 (by decide) (htb _ b679) (fun _ h9 => h9) rfl dM_reads_178 ?_
                                    refine lv_iconst (v := nI 3) hx hb dM_reads_181 (by decide) ?_
                                    refine lv_iload_n hx hb dM_reads_182 rfl (lv_at hl 3 rfl) ?_
                                    refine lv_imul hx hb dM_reads_183 ?_
                                    refine k_toi (y := nI (3 * kC)) (pk_mul _ _) ?_
                                    refine lv_iconst (v := nI 2) hx hb dM_reads_184 (by decide) ?_
                                    refine lv_iadd hx hb dM_reads_185 ?_
                                    refine k_toi (y := nI ((3 * kC) + 2)) (nI_add _ _) ?_
                                    refine k_iald hx hb hK hP 6 rfl (k := (3 * kC) + 2) (by omega) (by decide) dM_reads_186 ?_
                                    refine lv_iload_n hx hb dM_reads_187 rfl (lv_at hl 0 rfl) ?_
                                    refine lv_icmp_ge (tgt := 195) hx hb dM_reads_188 rfl (fun h188 => ?_) (fun h188 => ?_)
                                    · have h188 : fg91 (3 * kC) ≤ fg91 ((3 * kC) + 2) := (nI_leI (a := fg91 (3 * kC)) (b := fg91 ((3 * kC) + 2)) (by omega) (by omega)).mp h188
                                      refine lv_iconst (v := nI 0) hx hb dM_reads_195 (by decide) ?_
                                      refine lv_istore_n (lv' := [(1, .int (nI 0)), (3, .int (nI (fg91 (3 * kC)))), (0, .ref qm), (2, .int (nI kC))]) hx hb dM_reads_196 rfl hl (by decide) rfl (fun ls hl => ?_)
                                      refine lv_iinc (v := nI (kC + 1)) (lv' := [(2, .int (nI (kC + 1))), (1, .int (nI 0)), (3, .int (nI (fg91 (3 * kC)))), (0, .ref qm)]) hx hb dM_reads_197 hl (k := 3) rfl (nI_add _ 1) (by decide) rfl (fun ls hl => ?_)
                                      refine lv_goto (tgt := 132) hx hb dM_reads_200 rfl ?_
                                      have hl : lv_has ls 4 [(0, .ref qm), (1, .int (nI 0)), (2, .int (nI (kC + 1)))] := lv_sub hl [3, 1, 0] rfl
                                      exact ih132 0 (kC + 1) (va_up dC ((fg91 (3 * kC)) / 2) true) _ _ _ (by omega) (by omega) (by first | (rw [hy1]; exact rS_ga (by omega) hsC h160 hgd ⟨by omega, by omega⟩) | exact rS_0 hsC h160 | exact rS_no hsC (fun q => rS_gan (by omega) q hgd) | exact rS_no hsC (fun _ q => by have := q.2.2.2.1 kC (by omega); omega)) hP hD hS hl
                                    · have h188 : fg91 ((3 * kC) + 2) < fg91 (3 * kC) := Nat.lt_of_not_le (fun z => h188 ((nI_leI (a := fg91 (3 * kC)) (b := fg91 ((3 * kC) + 2)) (by omega) (by omega)).mpr z))
                                      refine lv_iconst (v := nI 1) hx hb dM_reads_191 (by decide) ?_
                                      refine lv_goto (tgt := 196) hx hb dM_reads_192 rfl ?_
                                      refine lv_istore_n (lv' := [(1, .int (nI 1)), (3, .int (nI (fg91 (3 * kC)))), (0, .ref qm), (2, .int (nI kC))]) hx hb dM_reads_196 rfl hl (by decide) rfl (fun ls hl => ?_)
                                      refine lv_iinc (v := nI (kC + 1)) (lv' := [(2, .int (nI (kC + 1))), (1, .int (nI 1)), (3, .int (nI (fg91 (3 * kC)))), (0, .ref qm)]) hx hb dM_reads_197 hl (k := 3) rfl (nI_add _ 1) (by decide) rfl (fun ls hl => ?_)
                                      refine lv_goto (tgt := 132) hx hb dM_reads_200 rfl ?_
                                      have hl : lv_has ls 4 [(0, .ref qm), (1, .int (nI 1)), (2, .int (nI (kC + 1)))] := lv_sub hl [3, 1, 0] rfl
                                      exact ih132 1 (kC + 1) (va_up dC ((fg91 (3 * kC)) / 2) true) _ _ _ (by omega) (by omega) (by first | (rw [hy1]; exact rS_ga (by omega) hsC h160 hgd ⟨by omega, by omega⟩) | exact rS_0 hsC h160 | exact rS_no hsC (fun q => rS_gan (by omega) q hgd) | exact rS_no hsC (fun _ q => by have := q.2.2.2.1 kC (by omega); omega)) hP hD hS hl
                              · skip
                                have hP : va_P (gD G) vC [(qm, .inr (6, [.int (nI th), .int (nI ul), .ref xt, .int (nI pt91), .ref xh, .ref xi, .ref xl, .ref xo, .ref xg, .ref xd, .int (zB ld), .ref xs, .int (nI stt), .int (nI sts), .int (nI drw), .ref xn, .ref xb, .ref xv, .int (nI bd), .int (nI rd)])), (xt, aI G 400 tx), (xh, aI G 5 hh91), (xi, aI G 100 fi91), (xl, aI G 300 fl91), (xo, aI G 100 fo91), (xg, aI G 300 fg91), (xd, aZ G 100 dC)] H := hP
                                have hD : va_D A [(qm, .inr (6, [.int (nI th), .int (nI ul), .ref xt, .int (nI pt91), .ref xh, .ref xi, .ref xl, .ref xo, .ref xg, .ref xd, .int (zB ld), .ref xs, .int (nI stt), .int (nI sts), .int (nI drw), .ref xn, .ref xb, .ref xv, .int (nI bd), .int (nI rd)])), (xt, aI G 400 tx), (xh, aI G 5 hh91), (xi, aI G 100 fi91), (xl, aI G 300 fl91), (xo, aI G 100 fo91), (xg, aI G 300 fg91), (xd, aZ G 100 dC)] := hD
                                have hgd : ¬ dGood (lk tx ul) dC (xga (lk tx ul) kC 0) := by have q9 := hc153_e; rw [hy1, hy0] at q9; exact q9
                                refine lv_if_eq (tgt := 195) hx hb dM_reads_156 rfl (fun _ => ?_) (fun h156 => (by revert h156; first | decide | exact fun z => absurd z (by decide) | exact fun z => z.elim (by decide)))
                                refine lv_iconst (v := nI 0) hx hb dM_reads_195 (by decide) ?_
                                refine lv_istore_n (lv' := [(1, .int (nI 0)), (3, .int (nI (fg91 (3 * kC)))), (0, .ref qm), (2, .int (nI kC))]) hx hb dM_reads_196 rfl hl (by decide) rfl (fun ls hl => ?_)
                                refine lv_iinc (v := nI (kC + 1)) (lv' := [(2, .int (nI (kC + 1))), (1, .int (nI 0)), (3, .int (nI (fg91 (3 * kC)))), (0, .ref qm)]) hx hb dM_reads_197 hl (k := 3) rfl (nI_add _ 1) (by decide) rfl (fun ls hl => ?_)
                                refine lv_goto (tgt := 132) hx hb dM_reads_200 rfl ?_
                                have hl : lv_has ls 4 [(0, .ref qm), (1, .int (nI 0)), (2, .int (nI (kC + 1)))] := lv_sub hl [3, 1, 0] rfl
                                exact ih132 0 (kC + 1) dC _ _ _ (by omega) (by omega) (by first | (rw [hy1]; exact rS_ga (by omega) hsC h160 hgd ⟨by omega, by omega⟩) | exact rS_0 hsC h160 | exact rS_no hsC (fun q => rS_gan (by omega) q hgd) | exact rS_no hsC (fun _ q => by have := q.2.2.2.1 kC (by omega); omega)) hP hD hS hl
                        have hl : lv_has ls 4 [(0, .ref qm), (1, .int (nI goB)), (2, .int (nI 0))] := lv_sub hl [1, 2, 0] rfl
                        exact loop132 (hh91 4 - 0 + 1) goB 0 dB _ _ _ (by omega) (by omega) (by have q9 := hsB; rw [show kB = hd (lk tx ul) 2 by omega] at q9; exact q9) hP hD hS hl
                      · have h82 : kB < hh91 2 := Nat.lt_of_not_le (fun z => h82 ((nI_leI (a := hh91 2) (b := kB) (by omega) (by omega)).mpr z))
                        refine lv_aload_n hx hb dM_reads_85 rfl (lv_at hl 0 rfl) ?_
                        refine lv_aload_n hx hb dM_reads_86 rfl (lv_at hl 0 rfl) ?_
                        refine va_get (D := gD G) (ci := 6) (v := .ref xl) (C := "CircuitProverModel") (T := TM) (N := 20) hx hb htb inM hown hK hP 0 rfl rfl 6 (by decide) (htb _ b677) (fun _ h9 => h9) rfl dM_reads_87 ?_
                        refine lv_iconst (v := nI 3) hx hb dM_reads_90 (by decide) ?_
                        refine lv_iload_n hx hb dM_reads_91 rfl (lv_at hl 2 rfl) ?_
                        refine lv_imul hx hb dM_reads_92 ?_
                        refine k_toi (y := nI (3 * kB)) (pk_mul _ _) ?_
                        have hy1 : fl91 (3 * kB) = xla (lk tx ul) kB 0 := hc1_l kB (by omega) 0 (by decide)
                        have hl1 := xla_lt (lk tx ul) kB 0
                        have hy3 : fl91 (3 * kB + 2) = xla (lk tx ul) kB 2 := hc1_l kB (by omega) 2 (by decide)
                        have hl3 := xla_lt (lk tx ul) kB 2
                        refine k_iald hx hb hK hP 4 rfl (k := 3 * kB) (by omega) (by decide) dM_reads_93 ?_
                        refine k_i (ws2 := fun u => [(qm, .inr (6, [.int (nI th), .int (nI ul), .ref xt, .int (nI pt91), .ref xh, .ref xi, .ref xl, .ref xo, .ref xg, .ref xd, .int (zB ld), .ref xs, .int (nI stt), .int (nI sts), .int (nI drw), .ref xn, .ref xb, .ref xv, .int (nI bd), .int (nI rd)])), (xt, aI G 400 tx), (xh, aI G 5 hh91), (xi, aI G 100 fi91), (xl, aI G 300 fl91), (xo, aI G 100 fo91), (xg, aI G 300 fg91), (xd, aZ G 100 (u))]) (wr := [(xt, aI G 400 tx), (xi, aI G 100 fi91), (xl, aI G 300 fl91), (xo, aI G 100 fo91), (xg, aI G 300 fg91)]) (k_runV (n := 1) (As := [.int (nI (fl91 (3 * kB)))]) (rest := []) hx hb hml hown htb hP hD hK hS hA hE (k_M_defines l G H.size qm xt xh xi xl xo xg xd xs xn xb xv th ul pt91 ld stt sts drw bd rd hh91 dB (fl91 (3 * kB)) (show (fl91 (3 * kB)) < 100 from by omega) (show hh91 0 < 100 from by omega)) b776 b778 s35 b7 b779 (by decide +kernel) rfl rfl ⟨by rw [hRf]; exact Nat.le_of_ble_eq_true rfl, by rw [hRl]; exact Nat.le_of_ble_eq_true rfl⟩ [0, 2, 7] rfl (by decide) 0 rfl rfl rfl rfl hl.1 rfl (Nat.le_of_ble_eq_true rfl) dM_reads_94 ⟨Nat.zero_le _, Nat.zero_le _⟩) hP hD hS hA [0, 2, 7] [1, 3, 4, 5, 6] [5, 0, 6, 1, 2, 3, 4, 7] rfl rfl (by decide) (by decide) (fun u => rfl) (by decide) (fun r u H locs hw hP hD hS => ?_)
                        rcases hw with ⟨hc94_e, rfl, rfl⟩ | ⟨hc94_e, rfl, rfl⟩
                        · skip
                          have hP : va_P (gD G) vC [(qm, .inr (6, [.int (nI th), .int (nI ul), .ref xt, .int (nI pt91), .ref xh, .ref xi, .ref xl, .ref xo, .ref xg, .ref xd, .int (zB ld), .ref xs, .int (nI stt), .int (nI sts), .int (nI drw), .ref xn, .ref xb, .ref xv, .int (nI bd), .int (nI rd)])), (xt, aI G 400 tx), (xh, aI G 5 hh91), (xi, aI G 100 fi91), (xl, aI G 300 fl91), (xo, aI G 100 fo91), (xg, aI G 300 fg91), (xd, aZ G 100 (va_up dB ((fl91 (3 * kB)) / 2) true))] H := hP
                          have hD : va_D A [(qm, .inr (6, [.int (nI th), .int (nI ul), .ref xt, .int (nI pt91), .ref xh, .ref xi, .ref xl, .ref xo, .ref xg, .ref xd, .int (zB ld), .ref xs, .int (nI stt), .int (nI sts), .int (nI drw), .ref xn, .ref xb, .ref xv, .int (nI bd), .int (nI rd)])), (xt, aI G 400 tx), (xh, aI G 5 hh91), (xi, aI G 100 fi91), (xl, aI G 300 fl91), (xo, aI G 100 fo91), (xg, aI G 300 fg91), (xd, aZ G 100 (va_up dB ((fl91 (3 * kB)) / 2) true))] := hD
                          have hgd : dGood (lk tx ul) dB (xla (lk tx ul) kB 0) := by have q9 := hc94_e; rw [hy1, hy0] at q9; exact q9
                          refine lv_if_eq (tgt := 122) hx hb dM_reads_97 rfl (fun h97 => (by revert h97; first | decide | exact fun z => absurd z (by decide) | exact fun z => z.elim (by decide))) (fun _ => ?_)
                          refine lv_iload_n hx hb dM_reads_100 rfl (lv_at hl 1 rfl) ?_
                          refine lv_if_eq (tgt := 122) hx hb dM_reads_101 rfl (fun h101 => ?_) (fun h101 => ?_)
                          · have h101 : goB = 0 := (nI_eq (a := goB) (b := 0) (by omega) (by omega)).mp h101
                            refine lv_iconst (v := nI 0) hx hb dM_reads_122 (by decide) ?_
                            refine lv_istore_n (lv' := [(1, .int (nI 0)), (0, .ref qm), (2, .int (nI kB))]) hx hb dM_reads_123 rfl hl (by decide) rfl (fun ls hl => ?_)
                            refine lv_iinc (v := nI (kB + 1)) (lv' := [(2, .int (nI (kB + 1))), (1, .int (nI 0)), (0, .ref qm)]) hx hb dM_reads_124 hl (k := 2) rfl (nI_add _ 1) (by decide) rfl (fun ls hl => ?_)
                            refine lv_goto (tgt := 75) hx hb dM_reads_127 rfl ?_
                            have hl : lv_has ls 4 [(0, .ref qm), (1, .int (nI 0)), (2, .int (nI (kB + 1)))] := lv_sub hl [2, 1, 0] rfl
                            exact ih75 0 (kB + 1) (va_up dB ((fl91 (3 * kB)) / 2) true) _ _ _ (by omega) (by omega) (by first | (rw [hy1]; exact rS_la (by omega) hsB h101 hgd (by omega)) | exact rS_0 hsB h101 | exact rS_no hsB (fun q => rS_lan (by omega) q hgd) | exact rS_no hsB (fun _ q => by have := q.2.2.1 kB (by omega); omega)) hP hD hS hl
                          · have h101 : ¬ goB = 0 := fun z => h101 ((nI_eq (a := goB) (b := 0) (by omega) (by omega)).mpr z)
                            refine lv_aload_n hx hb dM_reads_104 rfl (lv_at hl 0 rfl) ?_
                            refine va_get (D := gD G) (ci := 6) (v := .ref xl) (C := "CircuitProverModel") (T := TM) (N := 20) hx hb htb inM hown hK hP 0 rfl rfl 6 (by decide) (htb _ b677) (fun _ h9 => h9) rfl dM_reads_105 ?_
                            refine lv_iconst (v := nI 3) hx hb dM_reads_108 (by decide) ?_
                            refine lv_iload_n hx hb dM_reads_109 rfl (lv_at hl 2 rfl) ?_
                            refine lv_imul hx hb dM_reads_110 ?_
                            refine k_toi (y := nI (3 * kB)) (pk_mul _ _) ?_
                            refine lv_iconst (v := nI 2) hx hb dM_reads_111 (by decide) ?_
                            refine lv_iadd hx hb dM_reads_112 ?_
                            refine k_toi (y := nI ((3 * kB) + 2)) (nI_add _ _) ?_
                            refine k_iald hx hb hK hP 4 rfl (k := (3 * kB) + 2) (by omega) (by decide) dM_reads_113 ?_
                            refine lv_iconst (v := nI 2) hx hb dM_reads_114 (by decide) ?_
                            refine lv_icmp_ge (tgt := 122) hx hb dM_reads_115 rfl (fun h115 => ?_) (fun h115 => ?_)
                            · have h115 : 2 ≤ fl91 ((3 * kB) + 2) := (nI_leI (a := 2) (b := fl91 ((3 * kB) + 2)) (by omega) (by omega)).mp h115
                              refine lv_iconst (v := nI 0) hx hb dM_reads_122 (by decide) ?_
                              refine lv_istore_n (lv' := [(1, .int (nI 0)), (0, .ref qm), (2, .int (nI kB))]) hx hb dM_reads_123 rfl hl (by decide) rfl (fun ls hl => ?_)
                              refine lv_iinc (v := nI (kB + 1)) (lv' := [(2, .int (nI (kB + 1))), (1, .int (nI 0)), (0, .ref qm)]) hx hb dM_reads_124 hl (k := 2) rfl (nI_add _ 1) (by decide) rfl (fun ls hl => ?_)
                              refine lv_goto (tgt := 75) hx hb dM_reads_127 rfl ?_
                              have hl : lv_has ls 4 [(0, .ref qm), (1, .int (nI 0)), (2, .int (nI (kB + 1)))] := lv_sub hl [2, 1, 0] rfl
                              exact ih75 0 (kB + 1) (va_up dB ((fl91 (3 * kB)) / 2) true) _ _ _ (by omega) (by omega) (by first | (rw [hy1]; exact rS_la (by omega) hsB h101 hgd (by omega)) | exact rS_0 hsB h101 | exact rS_no hsB (fun q => rS_lan (by omega) q hgd) | exact rS_no hsB (fun _ q => by have := q.2.2.1 kB (by omega); omega)) hP hD hS hl
                            · have h115 : fl91 ((3 * kB) + 2) < 2 := Nat.lt_of_not_le (fun z => h115 ((nI_leI (a := 2) (b := fl91 ((3 * kB) + 2)) (by omega) (by omega)).mpr z))
                              refine lv_iconst (v := nI 1) hx hb dM_reads_118 (by decide) ?_
                              refine lv_goto (tgt := 123) hx hb dM_reads_119 rfl ?_
                              refine lv_istore_n (lv' := [(1, .int (nI 1)), (0, .ref qm), (2, .int (nI kB))]) hx hb dM_reads_123 rfl hl (by decide) rfl (fun ls hl => ?_)
                              refine lv_iinc (v := nI (kB + 1)) (lv' := [(2, .int (nI (kB + 1))), (1, .int (nI 1)), (0, .ref qm)]) hx hb dM_reads_124 hl (k := 2) rfl (nI_add _ 1) (by decide) rfl (fun ls hl => ?_)
                              refine lv_goto (tgt := 75) hx hb dM_reads_127 rfl ?_
                              have hl : lv_has ls 4 [(0, .ref qm), (1, .int (nI 1)), (2, .int (nI (kB + 1)))] := lv_sub hl [2, 1, 0] rfl
                              exact ih75 1 (kB + 1) (va_up dB ((fl91 (3 * kB)) / 2) true) _ _ _ (by omega) (by omega) (by first | (rw [hy1]; exact rS_la (by omega) hsB h101 hgd (by omega)) | exact rS_0 hsB h101 | exact rS_no hsB (fun q => rS_lan (by omega) q hgd) | exact rS_no hsB (fun _ q => by have := q.2.2.1 kB (by omega); omega)) hP hD hS hl
                        · skip
                          have hP : va_P (gD G) vC [(qm, .inr (6, [.int (nI th), .int (nI ul), .ref xt, .int (nI pt91), .ref xh, .ref xi, .ref xl, .ref xo, .ref xg, .ref xd, .int (zB ld), .ref xs, .int (nI stt), .int (nI sts), .int (nI drw), .ref xn, .ref xb, .ref xv, .int (nI bd), .int (nI rd)])), (xt, aI G 400 tx), (xh, aI G 5 hh91), (xi, aI G 100 fi91), (xl, aI G 300 fl91), (xo, aI G 100 fo91), (xg, aI G 300 fg91), (xd, aZ G 100 dB)] H := hP
                          have hD : va_D A [(qm, .inr (6, [.int (nI th), .int (nI ul), .ref xt, .int (nI pt91), .ref xh, .ref xi, .ref xl, .ref xo, .ref xg, .ref xd, .int (zB ld), .ref xs, .int (nI stt), .int (nI sts), .int (nI drw), .ref xn, .ref xb, .ref xv, .int (nI bd), .int (nI rd)])), (xt, aI G 400 tx), (xh, aI G 5 hh91), (xi, aI G 100 fi91), (xl, aI G 300 fl91), (xo, aI G 100 fo91), (xg, aI G 300 fg91), (xd, aZ G 100 dB)] := hD
                          have hgd : ¬ dGood (lk tx ul) dB (xla (lk tx ul) kB 0) := by have q9 := hc94_e; rw [hy1, hy0] at q9; exact q9
                          refine lv_if_eq (tgt := 122) hx hb dM_reads_97 rfl (fun _ => ?_) (fun h97 => (by revert h97; first | decide | exact fun z => absurd z (by decide) | exact fun z => z.elim (by decide)))
                          refine lv_iconst (v := nI 0) hx hb dM_reads_122 (by decide) ?_
                          refine lv_istore_n (lv' := [(1, .int (nI 0)), (0, .ref qm), (2, .int (nI kB))]) hx hb dM_reads_123 rfl hl (by decide) rfl (fun ls hl => ?_)
                          refine lv_iinc (v := nI (kB + 1)) (lv' := [(2, .int (nI (kB + 1))), (1, .int (nI 0)), (0, .ref qm)]) hx hb dM_reads_124 hl (k := 2) rfl (nI_add _ 1) (by decide) rfl (fun ls hl => ?_)
                          refine lv_goto (tgt := 75) hx hb dM_reads_127 rfl ?_
                          have hl : lv_has ls 4 [(0, .ref qm), (1, .int (nI 0)), (2, .int (nI (kB + 1)))] := lv_sub hl [2, 1, 0] rfl
                          exact ih75 0 (kB + 1) dB _ _ _ (by omega) (by omega) (by first | (rw [hy1]; exact rS_la (by omega) hsB h101 hgd (by omega)) | exact rS_0 hsB h101 | exact rS_no hsB (fun q => rS_lan (by omega) q hgd) | exact rS_no hsB (fun _ q => by have := q.2.2.1 kB (by omega); omega)) hP hD hS hl
                  have hl : lv_has ls 4 [(0, .ref qm), (1, .int (nI goA)), (2, .int (nI 0))] := lv_sub hl [1, 2, 0] rfl
                  exact loop75 (hh91 2 - 0 + 1) goA 0 dA _ _ _ (by omega) (by omega) (by have q9 := hsA; rw [show kA = hd (lk tx ul) 1 by omega] at q9; exact q9) hP hD hS hl
                · have h41 : kA < hh91 1 := Nat.lt_of_not_le (fun z => h41 ((nI_leI (a := hh91 1) (b := kA) (by omega) (by omega)).mpr z))
                  refine lv_aload_n hx hb dM_reads_44 rfl (lv_at hl 0 rfl) ?_
                  refine lv_aload_n hx hb dM_reads_45 rfl (lv_at hl 0 rfl) ?_
                  refine va_get (D := gD G) (ci := 6) (v := .ref xi) (C := "CircuitProverModel") (T := TM) (N := 20) hx hb htb inM hown hK hP 0 rfl rfl 5 (by decide) (htb _ b676) (fun _ h9 => h9) rfl dM_reads_46 ?_
                  refine lv_iload_n hx hb dM_reads_49 rfl (lv_at hl 2 rfl) ?_
                  refine k_iald hx hb hK hP 3 rfl (k := kA) (by omega) (by decide) dM_reads_50 ?_
                  have hy1 : fi91 kA = xin (lk tx ul) kA := hc1_i kA (by omega)
                  have hl1 := xin_lt (lk tx ul) kA
                  refine k_i (ws2 := fun u => [(qm, .inr (6, [.int (nI th), .int (nI ul), .ref xt, .int (nI pt91), .ref xh, .ref xi, .ref xl, .ref xo, .ref xg, .ref xd, .int (zB ld), .ref xs, .int (nI stt), .int (nI sts), .int (nI drw), .ref xn, .ref xb, .ref xv, .int (nI bd), .int (nI rd)])), (xt, aI G 400 tx), (xh, aI G 5 hh91), (xi, aI G 100 fi91), (xl, aI G 300 fl91), (xo, aI G 100 fo91), (xg, aI G 300 fg91), (xd, aZ G 100 (u))]) (wr := [(xt, aI G 400 tx), (xi, aI G 100 fi91), (xl, aI G 300 fl91), (xo, aI G 100 fo91), (xg, aI G 300 fg91)]) (k_runV (n := 1) (As := [.int (nI (fi91 kA))]) (rest := []) hx hb hml hown htb hP hD hK hS hA hE (k_M_defines l G H.size qm xt xh xi xl xo xg xd xs xn xb xv th ul pt91 ld stt sts drw bd rd hh91 dA (fi91 kA) (show (fi91 kA) < 100 from by omega) (show hh91 0 < 100 from by omega)) b776 b778 s35 b7 b779 (by decide +kernel) rfl rfl ⟨by rw [hRf]; exact Nat.le_of_ble_eq_true rfl, by rw [hRl]; exact Nat.le_of_ble_eq_true rfl⟩ [0, 2, 7] rfl (by decide) 0 rfl rfl rfl rfl hl.1 rfl (Nat.le_of_ble_eq_true rfl) dM_reads_51 ⟨Nat.zero_le _, Nat.zero_le _⟩) hP hD hS hA [0, 2, 7] [1, 3, 4, 5, 6] [5, 0, 6, 1, 2, 3, 4, 7] rfl rfl (by decide) (by decide) (fun u => rfl) (by decide) (fun r u H locs hw hP hD hS => ?_)
                  rcases hw with ⟨hc51_e, rfl, rfl⟩ | ⟨hc51_e, rfl, rfl⟩
                  · skip
                    have hP : va_P (gD G) vC [(qm, .inr (6, [.int (nI th), .int (nI ul), .ref xt, .int (nI pt91), .ref xh, .ref xi, .ref xl, .ref xo, .ref xg, .ref xd, .int (zB ld), .ref xs, .int (nI stt), .int (nI sts), .int (nI drw), .ref xn, .ref xb, .ref xv, .int (nI bd), .int (nI rd)])), (xt, aI G 400 tx), (xh, aI G 5 hh91), (xi, aI G 100 fi91), (xl, aI G 300 fl91), (xo, aI G 100 fo91), (xg, aI G 300 fg91), (xd, aZ G 100 (va_up dA ((fi91 kA) / 2) true))] H := hP
                    have hD : va_D A [(qm, .inr (6, [.int (nI th), .int (nI ul), .ref xt, .int (nI pt91), .ref xh, .ref xi, .ref xl, .ref xo, .ref xg, .ref xd, .int (zB ld), .ref xs, .int (nI stt), .int (nI sts), .int (nI drw), .ref xn, .ref xb, .ref xv, .int (nI bd), .int (nI rd)])), (xt, aI G 400 tx), (xh, aI G 5 hh91), (xi, aI G 100 fi91), (xl, aI G 300 fl91), (xo, aI G 100 fo91), (xg, aI G 300 fg91), (xd, aZ G 100 (va_up dA ((fi91 kA) / 2) true))] := hD
                    have hgd : dGood (lk tx ul) dA (xin (lk tx ul) kA) := by have q9 := hc51_e; rw [hy1, hy0] at q9; exact q9
                    refine lv_if_eq (tgt := 65) hx hb dM_reads_54 rfl (fun h54 => (by revert h54; first | decide | exact fun z => absurd z (by decide) | exact fun z => z.elim (by decide))) (fun _ => ?_)
                    refine lv_iload_n hx hb dM_reads_57 rfl (lv_at hl 1 rfl) ?_
                    refine lv_if_eq (tgt := 65) hx hb dM_reads_58 rfl (fun h58 => ?_) (fun h58 => ?_)
                    · have h58 : goA = 0 := (nI_eq (a := goA) (b := 0) (by omega) (by omega)).mp h58
                      refine lv_iconst (v := nI 0) hx hb dM_reads_65 (by decide) ?_
                      refine lv_istore_n (lv' := [(1, .int (nI 0)), (0, .ref qm), (2, .int (nI kA))]) hx hb dM_reads_66 rfl hl (by decide) rfl (fun ls hl => ?_)
                      refine lv_iinc (v := nI (kA + 1)) (lv' := [(2, .int (nI (kA + 1))), (1, .int (nI 0)), (0, .ref qm)]) hx hb dM_reads_67 hl (k := 2) rfl (nI_add _ 1) (by decide) rfl (fun ls hl => ?_)
                      refine lv_goto (tgt := 34) hx hb dM_reads_70 rfl ?_
                      have hl : lv_has ls 4 [(0, .ref qm), (1, .int (nI 0)), (2, .int (nI (kA + 1)))] := lv_sub hl [2, 1, 0] rfl
                      exact ih34 0 (kA + 1) (va_up dA ((fi91 kA) / 2) true) _ _ _ (by omega) (by omega) (by first | (rw [hy1]; exact rS_in (by omega) hsA h58 hgd) | exact rS_0 hsA h58 | exact rS_no hsA (fun q => rS_inn (by omega) q hgd)) hP hD hS hl
                    · have h58 : ¬ goA = 0 := fun z => h58 ((nI_eq (a := goA) (b := 0) (by omega) (by omega)).mpr z)
                      refine lv_iconst (v := nI 1) hx hb dM_reads_61 (by decide) ?_
                      refine lv_goto (tgt := 66) hx hb dM_reads_62 rfl ?_
                      refine lv_istore_n (lv' := [(1, .int (nI 1)), (0, .ref qm), (2, .int (nI kA))]) hx hb dM_reads_66 rfl hl (by decide) rfl (fun ls hl => ?_)
                      refine lv_iinc (v := nI (kA + 1)) (lv' := [(2, .int (nI (kA + 1))), (1, .int (nI 1)), (0, .ref qm)]) hx hb dM_reads_67 hl (k := 2) rfl (nI_add _ 1) (by decide) rfl (fun ls hl => ?_)
                      refine lv_goto (tgt := 34) hx hb dM_reads_70 rfl ?_
                      have hl : lv_has ls 4 [(0, .ref qm), (1, .int (nI 1)), (2, .int (nI (kA + 1)))] := lv_sub hl [2, 1, 0] rfl
                      exact ih34 1 (kA + 1) (va_up dA ((fi91 kA) / 2) true) _ _ _ (by omega) (by omega) (by first | (rw [hy1]; exact rS_in (by omega) hsA h58 hgd) | exact rS_0 hsA h58 | exact rS_no hsA (fun q => rS_inn (by omega) q hgd)) hP hD hS hl
                  · skip
                    have hP : va_P (gD G) vC [(qm, .inr (6, [.int (nI th), .int (nI ul), .ref xt, .int (nI pt91), .ref xh, .ref xi, .ref xl, .ref xo, .ref xg, .ref xd, .int (zB ld), .ref xs, .int (nI stt), .int (nI sts), .int (nI drw), .ref xn, .ref xb, .ref xv, .int (nI bd), .int (nI rd)])), (xt, aI G 400 tx), (xh, aI G 5 hh91), (xi, aI G 100 fi91), (xl, aI G 300 fl91), (xo, aI G 100 fo91), (xg, aI G 300 fg91), (xd, aZ G 100 dA)] H := hP
                    have hD : va_D A [(qm, .inr (6, [.int (nI th), .int (nI ul), .ref xt, .int (nI pt91), .ref xh, .ref xi, .ref xl, .ref xo, .ref xg, .ref xd, .int (zB ld), .ref xs, .int (nI stt), .int (nI sts), .int (nI drw), .ref xn, .ref xb, .ref xv, .int (nI bd), .int (nI rd)])), (xt, aI G 400 tx), (xh, aI G 5 hh91), (xi, aI G 100 fi91), (xl, aI G 300 fl91), (xo, aI G 100 fo91), (xg, aI G 300 fg91), (xd, aZ G 100 dA)] := hD
                    have hgd : ¬ dGood (lk tx ul) dA (xin (lk tx ul) kA) := by have q9 := hc51_e; rw [hy1, hy0] at q9; exact q9
                    refine lv_if_eq (tgt := 65) hx hb dM_reads_54 rfl (fun _ => ?_) (fun h54 => (by revert h54; first | decide | exact fun z => absurd z (by decide) | exact fun z => z.elim (by decide)))
                    refine lv_iconst (v := nI 0) hx hb dM_reads_65 (by decide) ?_
                    refine lv_istore_n (lv' := [(1, .int (nI 0)), (0, .ref qm), (2, .int (nI kA))]) hx hb dM_reads_66 rfl hl (by decide) rfl (fun ls hl => ?_)
                    refine lv_iinc (v := nI (kA + 1)) (lv' := [(2, .int (nI (kA + 1))), (1, .int (nI 0)), (0, .ref qm)]) hx hb dM_reads_67 hl (k := 2) rfl (nI_add _ 1) (by decide) rfl (fun ls hl => ?_)
                    refine lv_goto (tgt := 34) hx hb dM_reads_70 rfl ?_
                    have hl : lv_has ls 4 [(0, .ref qm), (1, .int (nI 0)), (2, .int (nI (kA + 1)))] := lv_sub hl [2, 1, 0] rfl
                    exact ih34 0 (kA + 1) dA _ _ _ (by omega) (by omega) (by first | (rw [hy1]; exact rS_in (by omega) hsA h58 hgd) | exact rS_0 hsA h58 | exact rS_no hsA (fun q => rS_inn (by omega) q hgd)) hP hD hS hl
            have hl : lv_has ls 4 [(0, .ref qm), (1, .int (nI 1)), (2, .int (nI 0))] := lv_sub hl [2, 1, 0] rfl
            exact loop34 (hh91 1 - 0 + 1) 1 0 dZ _ _ _ (by omega) (by omega) (rS_start (fun v hv => hdZ v (by omega))) hP hD hS hl
          · have h14 : kZ < 100 := Nat.lt_of_not_le (fun z => h14 ((nI_leI (a := 100) (b := kZ) (by omega) (by omega)).mpr z))
            refine lv_aload_n hx hb dM_reads_17 rfl (lv_at hl 0 rfl) ?_
            refine va_get (D := gD G) (ci := 6) (v := .ref xd) (C := "CircuitProverModel") (T := TM) (N := 20) hx hb htb inM hown hK hP 0 rfl rfl 9 (by decide) (htb _ b680) (fun _ h9 => h9) rfl dM_reads_18 ?_
            refine lv_iload_n hx hb dM_reads_21 rfl (lv_at hl 1 rfl) ?_
            refine lv_iconst (v := nI 0) hx hb dM_reads_22 (by decide) ?_
            refine k_toi (y := zB false) (by decide) ?_
            refine k_zast hx hb hK hP hD hS 7 rfl (k := kZ) (v := false) (by omega) (by decide) dM_reads_23 (fun H locs hP hD hS => ?_)
            have hP : va_P (gD G) vC [(qm, .inr (6, [.int (nI th), .int (nI ul), .ref xt, .int (nI pt91), .ref xh, .ref xi, .ref xl, .ref xo, .ref xg, .ref xd, .int (zB ld), .ref xs, .int (nI stt), .int (nI sts), .int (nI drw), .ref xn, .ref xb, .ref xv, .int (nI bd), .int (nI rd)])), (xt, aI G 400 tx), (xh, aI G 5 hh91), (xi, aI G 100 fi91), (xl, aI G 300 fl91), (xo, aI G 100 fo91), (xg, aI G 300 fg91), (xd, aZ G 100 (va_up dZ kZ false))] H := hP
            have hD : va_D A [(qm, .inr (6, [.int (nI th), .int (nI ul), .ref xt, .int (nI pt91), .ref xh, .ref xi, .ref xl, .ref xo, .ref xg, .ref xd, .int (zB ld), .ref xs, .int (nI stt), .int (nI sts), .int (nI drw), .ref xn, .ref xb, .ref xv, .int (nI bd), .int (nI rd)])), (xt, aI G 400 tx), (xh, aI G 5 hh91), (xi, aI G 100 fi91), (xl, aI G 300 fl91), (xo, aI G 100 fo91), (xg, aI G 300 fg91), (xd, aZ G 100 (va_up dZ kZ false))] := hD
            refine lv_iinc (v := nI (kZ + 1)) (lv' := [(1, .int (nI (kZ + 1))), (0, .ref qm)]) hx hb dM_reads_24 hl (k := 1) rfl (nI_add _ 1) (by decide) rfl (fun ls hl => ?_)
            refine lv_goto (tgt := 11) hx hb dM_reads_27 rfl ?_
            have hl : lv_has ls 4 [(0, .ref qm), (1, .int (nI (kZ + 1)))] := lv_sub hl [1, 0] rfl
            exact ih11 (kZ + 1) (va_up dZ kZ false) _ _ _ (by omega) (by omega) (fun v hv => by by_cases e9 : v = kZ; (subst e9; exact va_up_self _ _ _); (rw [va_up_ne _ _ e9]; exact hdZ v (by omega))) hP hD hS hl
      have hl : lv_has ls 4 [(0, .ref qm), (1, .int (nI 0))] := lv_sub hl [1, 0] rfl
      exact loop11 (100 - 0 + 1) 0 fd _ _ _ (by omega) (by omega) (fun v h => absurd h (Nat.not_lt_zero v)) hP hD hS hl
    · skip
      have hP : va_P (gD G) vC [(qm, .inr (6, [.int (nI th), .int (nI ul), .ref xt, .int (nI pt91), .ref xh, .ref xi, .ref xl, .ref xo, .ref xg, .ref xd, .int (zB ld), .ref xs, .int (nI stt), .int (nI sts), .int (nI drw), .ref xn, .ref xb, .ref xv, .int (nI bd), .int (nI rd)])), (xt, aI G 400 tx), (xh, aI G 5 hh91), (xi, aI G 100 fi91), (xl, aI G 300 fl91), (xo, aI G 100 fo91), (xg, aI G 300 fg91), (xd, aZ G 100 fd)] H := hP
      have hD : va_D A [(qm, .inr (6, [.int (nI th), .int (nI ul), .ref xt, .int (nI pt91), .ref xh, .ref xi, .ref xl, .ref xo, .ref xg, .ref xd, .int (zB ld), .ref xs, .int (nI stt), .int (nI sts), .int (nI drw), .ref xn, .ref xb, .ref xv, .int (nI bd), .int (nI rd)])), (xt, aI G 400 tx), (xh, aI G 5 hh91), (xi, aI G 100 fi91), (xl, aI G 300 fl91), (xo, aI G 100 fo91), (xg, aI G 300 fg91), (xd, aZ G 100 fd)] := hD
      refine lv_if_ne (tgt := 9) hx hb dM_reads_4 rfl (fun h4 => (by revert h4; first | decide | exact fun z => absurd z (by decide) | exact fun z => z.elim (by decide))) (fun _ => ?_)
      refine lv_iconst (v := nI 0) hx hb dM_reads_7 (by decide) ?_
      -- end 1
      rw [← hQ]
      exact k_iret hx hb hr hlocks (by decide) (u := (pt91, hh91, fi91, fl91, fo91, fg91, fd)) (⟨_, _, _, _, _, _, _, false, ⟨fun q => Bool.noConfusion q, fun q => absurd q.1 hc1_o⟩, fun q => Bool.noConfusion q, rfl, rfl⟩) hP hD hK hS dM_reads_8
  rw [hH, hlc] at hgo
  exact hgo
