/-- byte j of a part, the highest first; which may be typed; how many there are -/
def byt (x : Int64) (j : Nat) : Nat := (Int64.toInt32 (su x (56 - 8 * j))).toBitVec.toNat % 256
theorem byt_lt (x : Int64) (j : Nat) : byt x j < 256 := Nat.mod_lt _ (by decide)
def vch (c : Nat) : Prop := c = 10 ∨ (32 ≤ c ∧ c ≤ 126)
def okB (x : Int64) (n : Nat) : Prop := ∀ j, j < n → byt x j ≠ 0 → vch (byt x j)
def cB (x : Int64) : Nat → Nat
  | 0 => 0
  | j + 1 => cB x j + (if byt x j = 0 then 0 else 1)
def apB (x : Int64) (tx : Nat → Nat) (us : Nat) : Nat → (Nat → Nat)
  | 0 => tx
  | j + 1 => if byt x j = 0 then apB x tx us j else va_up (apB x tx us j) (us + cB x j) (byt x j)
theorem cB_le (x : Int64) (j : Nat) : cB x j ≤ j := by
  induction j with
  | zero => exact Nat.le_refl _
  | succ j ih => rw [cB]; split <;> omega
theorem cB_mono (x : Int64) {i j : Nat} (h : i ≤ j) : cB x i ≤ cB x j := by
  induction j with
  | zero => have : i = 0 := by omega
            subst this; exact Nat.le_refl _
  | succ j ih =>
    rcases Nat.lt_or_ge j i with h1 | h1
    · have : i = j + 1 := by omega
      subst this; exact Nat.le_refl _
    · have := ih h1
      rw [cB]; omega
theorem okB_s {x : Int64} {j : Nat} (h : okB x j) (h1 : byt x j ≠ 0 → vch (byt x j)) : okB x (j + 1) := fun i hi => by
  rcases Nat.lt_or_ge i j with h2 | h2
  · exact h i h2
  · have : i = j := by omega
    subst this; exact h1
def sv (j : Nat) : Int32 := nI 56 - nI (8 * j)
theorem sv_n {j : Nat} (h : j ≤ 7) : sv j = nI (56 - 8 * j) := pk_sub (by omega)
theorem sv_s (j : Nat) : sv j + (-8) = sv (j + 1) := by
  unfold sv
  rw [show 8 * (j + 1) = 8 * j + 8 by omega, ← nI_add, Int32.sub_eq_add_neg, Int32.sub_eq_add_neg, Int32.neg_add, Int32.sub_eq_add_neg, Int32.add_assoc]
  rfl
theorem sv_neg : ∀ j, j ≤ 8 → (sv j < 0 ↔ j = 8) := by decide +kernel
set_option maxRecDepth 100000 in
set_option maxHeartbeats 4000000 in
theorem k_T_lettersIn (l : Launch) (G : GG) (sz : Nat) (x : Int64) : Ki l yT_lettersIn cT_lettersIn 5 .int 0 0 G [.long x] [] sz (fun (r : Int32) (u : Unit) => (okB x 8 ∧ nI (cB x 8) = r ∧ () = u) ∨ (¬ okB x 8 ∧ (-1) = r ∧ () = u)) (fun (u : Unit) => []) := by
  refine Met.ofW (cc := cT_lettersIn) (maxL := 5) (ret := (some .int)) (by decide) rfl ?_
  intro p e s m args below meth c s₁ B hml hv
  obtain ⟨hav, hsz, hP, hK, hD0, hE⟩ := hv
  have hx := B.exec
  have hb := B.bytes
  have hr := B.returns
  have htb : ∀ w ∈ TB, w.before args s = true := fun w h => atoms_spec (ws := Cond.code yT_lettersIn cT_lettersIn 5 (some .int) :: TB) B.pre w (List.mem_cons_of_mem _ h)
  have hown : s.vm.findClass "CircuitProver$Text" = some m.cls := findClass_of_methodNamed B.named
  have hlocks := B.notSynchronized
  subst hsz
  have hD := hD0.self (sz := s.heap.size)
  clear hD0
  generalize hRm : (headSpec (Cond.code yT_lettersIn cT_lettersIn 5 (some .int) :: TB) { frames := 0, cells := 0, slots := 0, locals := 0 }).room = R
  have hRf : R.frames = 0 := by rw [← hRm]; rfl
  have hRl : R.locals = 0 := by rw [← hRm]; rfl
  have hRc : R.cells = 0 := by rw [← hRm]; rfl
  have hRs : R.slots = 0 := by rw [← hRm]; rfl
  clear hRm
  generalize hAe : va_A [] s.heap.size = A at hD hE ⊢
  have hA : ∀ q : Nat, s.heap.size ≤ q → A q := fun q h => by rw [← hAe]; exact Or.inr h
  clear hAe
  have hS : va_S A s.heap s.heap [] := va_S.rf
  have hl := lv_entry ([.long x]) (n := 5) (Nat.le_of_ble_eq_true rfl)
  have hent := lg_entry_eq m ([.long x]) 5
  rw [← hav] at hent
  rw [hent]
  clear hent hav
  generalize (lg_sl ([.long x]) ++ List.replicate (5 - (lg_sl ([.long x])).length) Slot.unset).toArray = ls at hl ⊢
  have hl : lv_has ls 5 [(0, .long x)] := hl
  generalize hQ : MQ below _ args s 0 0 _ = Q
  have hP : va_P (gD G) vC [] s.heap := hP
  obtain ⟨H, hH⟩ : ∃ H : Heap, H = s.heap := ⟨_, rfl⟩
  obtain ⟨locs, hlc⟩ : ∃ L : List Loc, L = [] := ⟨_, rfl⟩
  have hS : va_S A s.heap H locs := by rw [hH, hlc]; exact hS
  have hP : va_P (gD G) vC [] H := by rw [hH]; exact hP
  have hgo : W p l e R s m args below meth c H locs 0 0 Q (F0 m 0 ls []) := by
    clear hH hlc
    refine lv_iconst (v := nI 0) hx hb dT_lettersIn_0 (by decide) ?_
    refine lv_istore_n (lv' := [(2, .int (nI 0)), (0, .long x)]) hx hb dT_lettersIn_1 rfl hl (by decide) rfl (fun ls hl => ?_)
    refine lv_bipush (v := nI 56) hx hb dT_lettersIn_2 (by decide) ?_
    refine lv_istore_n (lv' := [(3, .int (nI 56)), (2, .int (nI 0)), (0, .long x)]) hx hb dT_lettersIn_4 rfl hl (by decide) rfl (fun ls hl => ?_)
    have loop5 : ∀ (n : Nat) (f : Nat) (sh : Int32) (j : Nat) (H : Heap) (locs : List Loc) (ls : Array Slot), 8 - j < n → (j ≤ 8) → (sh = sv j) → (f = cB x j) → (okB x j) → va_P (gD G) vC [] H → va_D A [] → va_S A s.heap H locs → lv_has ls 5 [(0, .long x), (2, .int (nI f)), (3, .int sh)] → W p l e R s m args below meth c H locs 0 0 Q (F0 m 5 ls []) := by
      intro n
      induction n with
      | zero => intro f sh j H locs ls hmu; omega
      | succ n ih =>
        intro f sh j H locs ls hmu hj hsh hf ho hP hD hS hl
        have ih5 := ih
        clear ih
        have hcl := cB_le x j
        refine lv_iload_n hx hb dT_lettersIn_5 rfl (lv_at hl 2 rfl) ?_
        refine lv_if_lt (tgt := 56) hx hb dT_lettersIn_6 rfl (fun h6 => ?_) (fun h6 => ?_)
        · skip
          refine lv_iload_n hx hb dT_lettersIn_56 rfl (lv_at hl 1 rfl) ?_
          -- end 0
          rw [← hQ]
          exact k_iret hx hb hr hlocks rfl (u := ()) (Or.inl ⟨by have h8 : j = 8 := (sv_neg j hj).mp (by rw [← hsh]; exact h6); rw [← h8]; exact ho, by have h8 : j = 8 := (sv_neg j hj).mp (by rw [← hsh]; exact h6); rw [hf, h8], rfl⟩) hP hD hK hS dT_lettersIn_57
        · skip
          have hj7 : j ≤ 7 := by rcases Nat.lt_or_ge j 8 with h9 | h9; (exact Nat.le_of_lt_succ h9); (exact absurd ((sv_neg j hj).mpr (by omega)) (by rw [← hsh]; exact h6))
          have hbl := byt_lt x j
          refine lv_lload_n hx hb dT_lettersIn_9 rfl (lv_at hl 0 rfl) ?_
          refine lv_iload_n hx hb dT_lettersIn_10 rfl (lv_at hl 2 rfl) ?_
          refine k_toi (y := nI (56 - 8 * j)) (by rw [hsh]; exact sv_n hj7) ?_
          refine lv_lushr (v := su x (56 - 8 * j)) hx hb dT_lettersIn_11 rfl ?_
          refine lv_l2i (v := Int64.toInt32 (su x (56 - 8 * j))) hx hb dT_lettersIn_12 rfl ?_
          refine lv_sipush (v := nI 255) hx hb dT_lettersIn_13 (by decide) ?_
          refine lv_iand hx hb dT_lettersIn_16 ?_
          refine k_toi (y := nI ((Int64.toInt32 (su x (56 - 8 * j))).toBitVec.toNat % 256)) (pk_and _ 8 (by decide)) ?_
          refine k_toi (y := nI (byt x j)) (rfl) ?_
          refine lv_istore (lv' := [(4, .int (nI (byt x j))), (0, .long x), (2, .int (nI f)), (3, .int sh)]) hx hb dT_lettersIn_17 hl (by decide) rfl (fun ls hl => ?_)
          refine lv_iload hx hb dT_lettersIn_19 (lv_at hl 0 rfl) ?_
          refine lv_if_eq (tgt := 50) hx hb dT_lettersIn_21 rfl (fun h21 => ?_) (fun h21 => ?_)
          · have h21 : byt x j = 0 := (nI_eq (a := byt x j) (b := 0) (by omega) (by omega)).mp h21
            refine lv_iinc (v := sh + (-8)) (lv' := [(3, .int (sh + (-8))), (4, .int (nI (byt x j))), (0, .long x), (2, .int (nI f))]) hx hb dT_lettersIn_50 hl (k := 3) rfl (rfl) (by decide) rfl (fun ls hl => ?_)
            refine lv_goto (tgt := 5) hx hb dT_lettersIn_53 rfl ?_
            have hl : lv_has ls 5 [(0, .long x), (2, .int (nI f)), (3, .int (sh + (-8)))] := lv_sub hl [2, 3, 0] rfl
            exact ih5 f (sh + (-8)) (j + 1) _ _ _ (by omega) (by omega) (by rw [hsh]; exact sv_s j) (by rw [cB]; first | rw [if_pos h21, hf, Nat.add_zero] | rw [if_neg h21, hf]) (okB_s ho (fun h0 => by first | exact absurd h21 h0 | (unfold vch; omega))) hP hD hS hl
          · have h21 : ¬ byt x j = 0 := fun z => h21 ((nI_eq (a := byt x j) (b := 0) (by omega) (by omega)).mpr z)
            refine lv_iload hx hb dT_lettersIn_24 (lv_at hl 0 rfl) ?_
            refine lv_bipush (v := nI 10) hx hb dT_lettersIn_26 (by decide) ?_
            refine lv_icmp_eq (tgt := 47) hx hb dT_lettersIn_28 rfl (fun h28 => ?_) (fun h28 => ?_)
            · have h28 : byt x j = 10 := (nI_eq (a := byt x j) (b := 10) (by omega) (by omega)).mp h28
              refine lv_iinc (v := nI (f + 1)) (lv' := [(2, .int (nI (f + 1))), (4, .int (nI (byt x j))), (0, .long x), (3, .int sh)]) hx hb dT_lettersIn_47 hl (k := 2) rfl (nI_add _ 1) (by decide) rfl (fun ls hl => ?_)
              refine lv_iinc (v := sh + (-8)) (lv' := [(3, .int (sh + (-8))), (2, .int (nI (f + 1))), (4, .int (nI (byt x j))), (0, .long x)]) hx hb dT_lettersIn_50 hl (k := 3) rfl (rfl) (by decide) rfl (fun ls hl => ?_)
              refine lv_goto (tgt := 5) hx hb dT_lettersIn_53 rfl ?_
              have hl : lv_has ls 5 [(0, .long x), (2, .int (nI (f + 1))), (3, .int (sh + (-8)))] := lv_sub hl [3, 1, 0] rfl
              exact ih5 (f + 1) (sh + (-8)) (j + 1) _ _ _ (by omega) (by omega) (by rw [hsh]; exact sv_s j) (by rw [cB]; first | rw [if_pos h21, hf, Nat.add_zero] | rw [if_neg h21, hf]) (okB_s ho (fun h0 => by first | exact absurd h21 h0 | (unfold vch; omega))) hP hD hS hl
            · have h28 : ¬ byt x j = 10 := fun z => h28 ((nI_eq (a := byt x j) (b := 10) (by omega) (by omega)).mpr z)
              refine lv_iload hx hb dT_lettersIn_31 (lv_at hl 0 rfl) ?_
              refine lv_bipush (v := nI 32) hx hb dT_lettersIn_33 (by decide) ?_
              refine lv_icmp_lt (tgt := 45) hx hb dT_lettersIn_35 rfl (fun h35 => ?_) (fun h35 => ?_)
              · have h35 : byt x j < 32 := (nI_ltI (a := byt x j) (b := 32) (by omega) (by omega)).mp h35
                refine lv_iconst (v := (-1)) hx hb dT_lettersIn_45 (by decide) ?_
                -- end 1
                rw [← hQ]
                exact k_iret hx hb hr hlocks rfl (u := ()) (Or.inr ⟨fun z => by have h9 := z j (by omega) h21; unfold vch at h9; omega, rfl, rfl⟩) hP hD hK hS dT_lettersIn_46
              · have h35 : 32 ≤ byt x j := Nat.le_of_not_lt (fun z => h35 ((nI_ltI (a := byt x j) (b := 32) (by omega) (by omega)).mpr z))
                refine lv_iload hx hb dT_lettersIn_38 (lv_at hl 0 rfl) ?_
                refine lv_bipush (v := nI 126) hx hb dT_lettersIn_40 (by decide) ?_
                refine lv_icmp_le (tgt := 47) hx hb dT_lettersIn_42 rfl (fun h42 => ?_) (fun h42 => ?_)
                · have h42 : byt x j ≤ 126 := (nI_leI (a := byt x j) (b := 126) (by omega) (by omega)).mp h42
                  refine lv_iinc (v := nI (f + 1)) (lv' := [(2, .int (nI (f + 1))), (4, .int (nI (byt x j))), (0, .long x), (3, .int sh)]) hx hb dT_lettersIn_47 hl (k := 2) rfl (nI_add _ 1) (by decide) rfl (fun ls hl => ?_)
                  refine lv_iinc (v := sh + (-8)) (lv' := [(3, .int (sh + (-8))), (2, .int (nI (f + 1))), (4, .int (nI (byt x j))), (0, .long x)]) hx hb dT_lettersIn_50 hl (k := 3) rfl (rfl) (by decide) rfl (fun ls hl => ?_)
                  refine lv_goto (tgt := 5) hx hb dT_lettersIn_53 rfl ?_
                  have hl : lv_has ls 5 [(0, .long x), (2, .int (nI (f + 1))), (3, .int (sh + (-8)))] := lv_sub hl [3, 1, 0] rfl
                  exact ih5 (f + 1) (sh + (-8)) (j + 1) _ _ _ (by omega) (by omega) (by rw [hsh]; exact sv_s j) (by rw [cB]; first | rw [if_pos h21, hf, Nat.add_zero] | rw [if_neg h21, hf]) (okB_s ho (fun h0 => by first | exact absurd h21 h0 | (unfold vch; omega))) hP hD hS hl
                · have h42 : 126 < byt x j := Nat.lt_of_not_le (fun z => h42 ((nI_leI (a := byt x j) (b := 126) (by omega) (by omega)).mpr z))
                  refine lv_iconst (v := (-1)) hx hb dT_lettersIn_45 (by decide) ?_
                  -- end 2
                  rw [← hQ]
                  exact k_iret hx hb hr hlocks rfl (u := ()) (Or.inr ⟨fun z => by have h9 := z j (by omega) h21; unfold vch at h9; omega, rfl, rfl⟩) hP hD hK hS dT_lettersIn_46
    have hl : lv_has ls 5 [(0, .long x), (2, .int (nI 0)), (3, .int (nI 56))] := lv_sub hl [2, 1, 0] rfl
    exact loop5 (8 - 0 + 1) 0 56 0 _ _ _ (by omega) (by omega) (by decide) rfl (fun i h => absurd h (Nat.not_lt_zero i)) hP hD hS hl
  rw [hH, hlc] at hgo
  exact hgo
set_option maxRecDepth 100000 in
set_option maxHeartbeats 4000000 in
theorem k_T_append (l : Launch) (G : GG) (sz : Nat) (q : Nat) (a1 : Nat) (a2 : Nat) (tx : Nat → Nat) (nm : Nat → Nat) (us : Nat) (pl : Nat) (x : Int64) (hus : us ≤ 400) (htx : ∀ j, tx j < 128) : Ki l yT_append cT_append 6 .boolean 1 24 G [.ref q, .long x] [(q, .inr (4, [.ref a1, .ref a2, .int (nI us), .int (nI pl)])), (a1, aB G 400 tx), (a2, aI G 5 nm)] sz (fun (r : Int32) (u : (Nat → Nat) × Nat) => ((okB x 8 ∧ us + cB x 8 ≤ 400) ∧ nI 1 = r ∧ (apB x tx us 8, us + cB x 8) = u) ∨ ((¬ (okB x 8 ∧ us + cB x 8 ≤ 400)) ∧ nI 0 = r ∧ (tx, us) = u)) (fun (u : (Nat → Nat) × Nat) => [(q, .inr (4, [.ref a1, .ref a2, .int (nI u.2), .int (nI pl)])), (a1, aB G 400 u.1), (a2, aI G 5 nm)]) := by
  refine Met.ofW (cc := cT_append) (maxL := 6) (ret := (some .boolean)) (by decide) rfl ?_
  intro p e s m args below meth c s₁ B hml hv
  obtain ⟨hav, hsz, hP, hK, hD0, hE⟩ := hv
  have hx := B.exec
  have hb := B.bytes
  have hr := B.returns
  have htb : ∀ w ∈ TB, w.before args s = true := fun w h => atoms_spec (ws := Cond.code yT_append cT_append 6 (some .boolean) :: TB) B.pre w (List.mem_cons_of_mem _ h)
  have hown : s.vm.findClass "CircuitProver$Text" = some m.cls := findClass_of_methodNamed B.named
  have hlocks := B.notSynchronized
  subst hsz
  have hD := hD0.self (sz := s.heap.size)
  clear hD0
  generalize hRm : (headSpec (Cond.code yT_append cT_append 6 (some .boolean) :: TB) { frames := 1, cells := 0, slots := 0, locals := 24 }).room = R
  have hRf : R.frames = 1 := by rw [← hRm]; rfl
  have hRl : R.locals = 24 := by rw [← hRm]; rfl
  have hRc : R.cells = 0 := by rw [← hRm]; rfl
  have hRs : R.slots = 0 := by rw [← hRm]; rfl
  clear hRm
  generalize hAe : va_A [(q, .inr (4, [.ref a1, .ref a2, .int (nI us), .int (nI pl)])), (a1, aB G 400 tx), (a2, aI G 5 nm)] s.heap.size = A at hD hE ⊢
  have hA : ∀ q : Nat, s.heap.size ≤ q → A q := fun q h => by rw [← hAe]; exact Or.inr h
  clear hAe
  have hS : va_S A s.heap s.heap [] := va_S.rf
  have hl := lv_entry ([.ref q, .long x]) (n := 6) (Nat.le_of_ble_eq_true rfl)
  have hent := lg_entry_eq m ([.ref q, .long x]) 6
  rw [← hav] at hent
  rw [hent]
  clear hent hav
  generalize (lg_sl ([.ref q, .long x]) ++ List.replicate (6 - (lg_sl ([.ref q, .long x])).length) Slot.unset).toArray = ls at hl ⊢
  have hl : lv_has ls 6 [(0, .ref q), (1, .long x)] := hl
  generalize hQ : MQ below _ args s 0 0 _ = Q
  have hP : va_P (gD G) vC [(q, .inr (4, [.ref a1, .ref a2, .int (nI us), .int (nI pl)])), (a1, aB G 400 tx), (a2, aI G 5 nm)] s.heap := hP
  obtain ⟨H, hH⟩ : ∃ H : Heap, H = s.heap := ⟨_, rfl⟩
  obtain ⟨locs, hlc⟩ : ∃ L : List Loc, L = [] := ⟨_, rfl⟩
  have hS : va_S A s.heap H locs := by rw [hH, hlc]; exact hS
  have hP : va_P (gD G) vC [(q, .inr (4, [.ref a1, .ref a2, .int (nI us), .int (nI pl)])), (a1, aB G 400 tx), (a2, aI G 5 nm)] H := by rw [hH]; exact hP
  have hgo : W p l e R s m args below meth c H locs 0 0 Q (F0 m 0 ls []) := by
    clear hH hlc
    refine lv_lload_n hx hb dT_append_0 rfl (lv_at hl 1 rfl) ?_
    refine k_i (ws2 := fun u => [(q, .inr (4, [.ref a1, .ref a2, .int (nI us), .int (nI pl)])), (a1, aB G 400 tx), (a2, aI G 5 nm)]) (wr := [(q, .inr (4, [.ref a1, .ref a2, .int (nI us), .int (nI pl)])), (a1, aB G 400 tx), (a2, aI G 5 nm)]) (k_runS (n := 1) (As := [.long x]) (rest := []) (wc := []) hx hb hml hown htb hP hD hK hS hA hE (k_T_lettersIn l G H.size x ) b214 b215 b2 b216 (by decide +kernel) rfl rfl ⟨by rw [hRf]; exact Nat.le_of_ble_eq_true rfl, by rw [hRl]; exact Nat.le_of_ble_eq_true rfl⟩ [] rfl (by decide) rfl hl.1 rfl (Nat.le_of_ble_eq_true rfl) dT_append_1 ⟨Nat.zero_le _, Nat.zero_le _⟩) hP hD hS hA [] [0, 1, 2] [0, 1, 2] rfl rfl (by decide) (by decide) (fun u => rfl) (by decide) (fun r u H locs hw hP hD hS => ?_)
    rcases hw with ⟨hc1_e, rfl, rfl⟩ | ⟨hc1_e, rfl, rfl⟩
    · skip
      have hP : va_P (gD G) vC [(q, .inr (4, [.ref a1, .ref a2, .int (nI us), .int (nI pl)])), (a1, aB G 400 tx), (a2, aI G 5 nm)] H := hP
      have hD : va_D A [(q, .inr (4, [.ref a1, .ref a2, .int (nI us), .int (nI pl)])), (a1, aB G 400 tx), (a2, aI G 5 nm)] := hD
      have hc8 := cB_le x 8
      refine lv_istore_n (lv' := [(3, .int (nI (cB x 8))), (0, .ref q), (1, .long x)]) hx hb dT_append_4 rfl hl (by decide) rfl (fun ls hl => ?_)
      refine lv_iload_n hx hb dT_append_5 rfl (lv_at hl 0 rfl) ?_
      refine lv_iconst (v := (-1)) hx hb dT_append_6 (by decide) ?_
      refine lv_icmp_eq (tgt := 22) hx hb dT_append_7 rfl (fun h7 => (by revert h7; first | decide | exact fun z => absurd z (nI_m1 (by omega)) | exact fun z => z.elim (nI_m1 (by omega)))) (fun _ => ?_)
      refine lv_aload_n hx hb dT_append_10 rfl (lv_at hl 1 rfl) ?_
      refine va_get (D := gD G) (ci := 4) (v := .int (nI us)) (C := "CircuitProver$Text") (T := TT) (N := 4) hx hb htb inT hown hK hP 0 rfl rfl 2 (by decide) (htb _ b35) (fun _ h9 => h9) rfl dT_append_11 ?_
      refine lv_iload_n hx hb dT_append_14 rfl (lv_at hl 0 rfl) ?_
      refine lv_iadd hx hb dT_append_15 ?_
      refine k_toi (y := nI (us + (cB x 8))) (nI_add _ _) ?_
      refine lv_sipush (v := nI 400) hx hb dT_append_16 (by decide) ?_
      refine lv_icmp_le (tgt := 24) hx hb dT_append_19 rfl (fun h19 => ?_) (fun h19 => ?_)
      · have h19 : us + (cB x 8) ≤ 400 := (nI_leI (a := us + (cB x 8)) (b := 400) (by omega) (by omega)).mp h19
        refine lv_bipush (v := nI 56) hx hb dT_append_24 (by decide) ?_
        refine lv_istore (lv' := [(4, .int (nI 56)), (3, .int (nI (cB x 8))), (0, .ref q), (1, .long x)]) hx hb dT_append_26 hl (by decide) rfl (fun ls hl => ?_)
        have loop28 : ∀ (n : Nat) (sh : Int32) (u1 : Nat) (t1 : Nat → Nat) (j : Nat) (H : Heap) (locs : List Loc) (ls : Array Slot), 8 - j < n → (j ≤ 8) → (sh = sv j) → (u1 = us + cB x j) → (t1 = apB x tx us j) → va_P (gD G) vC [(q, .inr (4, [.ref a1, .ref a2, .int (nI u1), .int (nI pl)])), (a1, aB G 400 t1), (a2, aI G 5 nm)] H → va_D A [(q, .inr (4, [.ref a1, .ref a2, .int (nI u1), .int (nI pl)])), (a1, aB G 400 t1), (a2, aI G 5 nm)] → va_S A s.heap H locs → lv_has ls 6 [(0, .ref q), (1, .long x), (4, .int sh)] → W p l e R s m args below meth c H locs 0 0 Q (F0 m 28 ls []) := by
          intro n
          induction n with
          | zero => intro sh u1 t1 j H locs ls hmu; omega
          | succ n ih =>
            intro sh u1 t1 j H locs ls hmu hj hsh hu ht hP hD hS hl
            have ih28 := ih
            clear ih
            have hcl := cB_mono x hj
            refine lv_iload hx hb dT_append_28 (lv_at hl 2 rfl) ?_
            refine lv_if_lt (tgt := 77) hx hb dT_append_30 rfl (fun h30 => ?_) (fun h30 => ?_)
            · skip
              refine lv_iconst (v := nI 1) hx hb dT_append_77 (by decide) ?_
              -- end 0
              rw [← hQ]
              exact k_iret hx hb hr hlocks (by decide) (u := (t1, u1)) (Or.inl ⟨⟨hc1_e, by omega⟩, rfl, by have h8 : j = 8 := (sv_neg j hj).mp (by rw [← hsh]; exact h30); rw [ht, hu, h8]⟩) hP hD hK hS dT_append_78
            · skip
              have hj7 : j ≤ 7 := by rcases Nat.lt_or_ge j 8 with h9 | h9; (exact Nat.le_of_lt_succ h9); (exact absurd ((sv_neg j hj).mpr (by omega)) (by rw [← hsh]; exact h30))
              have hbl := byt_lt x j
              refine lv_lload_n hx hb dT_append_33 rfl (lv_at hl 1 rfl) ?_
              refine lv_iload hx hb dT_append_34 (lv_at hl 2 rfl) ?_
              refine k_toi (y := nI (56 - 8 * j)) (by rw [hsh]; exact sv_n hj7) ?_
              refine lv_lushr (v := su x (56 - 8 * j)) hx hb dT_append_36 rfl ?_
              refine lv_l2i (v := Int64.toInt32 (su x (56 - 8 * j))) hx hb dT_append_37 rfl ?_
              refine lv_sipush (v := nI 255) hx hb dT_append_38 (by decide) ?_
              refine lv_iand hx hb dT_append_41 ?_
              refine k_toi (y := nI ((Int64.toInt32 (su x (56 - 8 * j))).toBitVec.toNat % 256)) (pk_and _ 8 (by decide)) ?_
              refine k_toi (y := nI (byt x j)) (rfl) ?_
              refine lv_istore (lv' := [(5, .int (nI (byt x j))), (0, .ref q), (1, .long x), (4, .int sh)]) hx hb dT_append_42 hl (by decide) rfl (fun ls hl => ?_)
              refine lv_iload hx hb dT_append_44 (lv_at hl 0 rfl) ?_
              refine lv_if_eq (tgt := 71) hx hb dT_append_46 rfl (fun h46 => ?_) (fun h46 => ?_)
              · have h46 : byt x j = 0 := (nI_eq (a := byt x j) (b := 0) (by omega) (by omega)).mp h46
                refine lv_iinc (v := sh + (-8)) (lv' := [(4, .int (sh + (-8))), (5, .int (nI (byt x j))), (0, .ref q), (1, .long x)]) hx hb dT_append_71 hl (k := 3) rfl (rfl) (by decide) rfl (fun ls hl => ?_)
                refine lv_goto (tgt := 28) hx hb dT_append_74 rfl ?_
                have hl : lv_has ls 6 [(0, .ref q), (1, .long x), (4, .int (sh + (-8)))] := lv_sub hl [2, 3, 0] rfl
                exact ih28 (sh + (-8)) u1 t1 (j + 1) _ _ _ (by omega) (by omega) (by rw [hsh]; exact sv_s j) (by rw [cB]; first | rw [if_pos h46, hu, Nat.add_zero] | rw [if_neg h46, hu, Nat.add_assoc]) (by rw [apB]; first | rw [if_pos h46, ht] | rw [if_neg h46, ht, hu]) hP hD hS hl
              · have h46 : ¬ byt x j = 0 := fun z => h46 ((nI_eq (a := byt x j) (b := 0) (by omega) (by omega)).mpr z)
                have hvc := hc1_e j (by omega) h46
                have hcl1 := cB_mono x (show j + 1 ≤ 8 by omega)
                rw [cB, if_neg h46] at hcl1
                unfold vch at hvc
                refine lv_aload_n hx hb dT_append_49 rfl (lv_at hl 1 rfl) ?_
                refine va_get (D := gD G) (ci := 4) (v := .ref a1) (C := "CircuitProver$Text") (T := TT) (N := 4) hx hb htb inT hown hK hP 0 rfl rfl 0 (by decide) (htb _ b32) (fun _ h9 => h9) rfl dT_append_50 ?_
                refine lv_aload_n hx hb dT_append_53 rfl (lv_at hl 1 rfl) ?_
                refine va_get (D := gD G) (ci := 4) (v := .int (nI u1)) (C := "CircuitProver$Text") (T := TT) (N := 4) hx hb htb inT hown hK hP 0 rfl rfl 2 (by decide) (htb _ b35) (fun _ h9 => h9) rfl dT_append_54 ?_
                refine lv_iload hx hb dT_append_57 (lv_at hl 0 rfl) ?_
                refine lv_i2b (v := nI (byt x j)) hx hb dT_append_59 (i2b_n _ (by omega)) ?_
                refine k_bast hx hb hK hP hD hS 1 rfl (k := u1) (v := byt x j) (by omega) (by decide) (by omega) dT_append_60 (fun H locs hP hD hS => ?_)
                have hP : va_P (gD G) vC [(q, .inr (4, [.ref a1, .ref a2, .int (nI u1), .int (nI pl)])), (a1, aB G 400 (va_up t1 u1 (byt x j))), (a2, aI G 5 nm)] H := hP
                have hD : va_D A [(q, .inr (4, [.ref a1, .ref a2, .int (nI u1), .int (nI pl)])), (a1, aB G 400 (va_up t1 u1 (byt x j))), (a2, aI G 5 nm)] := hD
                refine lv_aload_n hx hb dT_append_61 rfl (lv_at hl 1 rfl) ?_
                refine lv_dup hx hb dT_append_62 rfl ?_
                refine va_get (D := gD G) (ci := 4) (v := .int (nI u1)) (C := "CircuitProver$Text") (T := TT) (N := 4) hx hb htb inT hown hK hP 0 rfl rfl 2 (by decide) (htb _ b35) (fun _ h9 => h9) rfl dT_append_63 ?_
                refine lv_iconst (v := nI 1) hx hb dT_append_66 (by decide) ?_
                refine lv_iadd hx hb dT_append_67 ?_
                refine k_toi (y := nI (u1 + 1)) (nI_add _ _) ?_
                refine va_put (D := gD G) (ci := 4) (v := .int (nI (u1 + 1))) (ty := tyT 2) (C := "CircuitProver$Text") (T := TT) (N := 4) hx hb htb inT tyT tyT_ok nmT hown hK hP hD hS 0 rfl rfl 2 (by decide) (htb _ b35) (fun _ h9 => h9) rfl (tyT_ok 2 (by decide)) rfl rfl (Nat.le_of_ble_eq_true rfl) dT_append_68 (fun H locs hP hD hS => ?_)
                have hP : va_P (gD G) vC [(q, .inr (4, [.ref a1, .ref a2, .int (nI (u1 + 1)), .int (nI pl)])), (a1, aB G 400 (va_up t1 u1 (byt x j))), (a2, aI G 5 nm)] H := hP
                have hD : va_D A [(q, .inr (4, [.ref a1, .ref a2, .int (nI (u1 + 1)), .int (nI pl)])), (a1, aB G 400 (va_up t1 u1 (byt x j))), (a2, aI G 5 nm)] := hD
                refine lv_iinc (v := sh + (-8)) (lv' := [(4, .int (sh + (-8))), (5, .int (nI (byt x j))), (0, .ref q), (1, .long x)]) hx hb dT_append_71 hl (k := 3) rfl (rfl) (by decide) rfl (fun ls hl => ?_)
                refine lv_goto (tgt := 28) hx hb dT_append_74 rfl ?_
                have hl : lv_has ls 6 [(0, .ref q), (1, .long x), (4, .int (sh + (-8)))] := lv_sub hl [2, 3, 0] rfl
                exact ih28 (sh + (-8)) (u1 + 1) (va_up t1 u1 (byt x j)) (j + 1) _ _ _ (by omega) (by omega) (by rw [hsh]; exact sv_s j) (by rw [cB]; first | rw [if_pos h46, hu, Nat.add_zero] | rw [if_neg h46, hu, Nat.add_assoc]) (by rw [apB]; first | rw [if_pos h46, ht] | rw [if_neg h46, ht, hu]) hP hD hS hl
        have hl : lv_has ls 6 [(0, .ref q), (1, .long x), (4, .int (nI 56))] := lv_sub hl [2, 3, 0] rfl
        exact loop28 (8 - 0 + 1) 56 us tx 0 _ _ _ (by omega) (by omega) (by decide) rfl rfl hP hD hS hl
      · have h19 : 400 < us + (cB x 8) := Nat.lt_of_not_le (fun z => h19 ((nI_leI (a := us + (cB x 8)) (b := 400) (by omega) (by omega)).mpr z))
        refine lv_iconst (v := nI 0) hx hb dT_append_22 (by decide) ?_
        -- end 1
        rw [← hQ]
        exact k_iret hx hb hr hlocks (by decide) (u := (tx, us)) (Or.inr ⟨fun z => by omega, rfl, rfl⟩) hP hD hK hS dT_append_23
    · skip
      have hP : va_P (gD G) vC [(q, .inr (4, [.ref a1, .ref a2, .int (nI us), .int (nI pl)])), (a1, aB G 400 tx), (a2, aI G 5 nm)] H := hP
      have hD : va_D A [(q, .inr (4, [.ref a1, .ref a2, .int (nI us), .int (nI pl)])), (a1, aB G 400 tx), (a2, aI G 5 nm)] := hD
      refine lv_istore_n (lv' := [(3, .int (-1)), (0, .ref q), (1, .long x)]) hx hb dT_append_4 rfl hl (by decide) rfl (fun ls hl => ?_)
      refine lv_iload_n hx hb dT_append_5 rfl (lv_at hl 0 rfl) ?_
      refine lv_iconst (v := (-1)) hx hb dT_append_6 (by decide) ?_
      refine lv_icmp_eq (tgt := 22) hx hb dT_append_7 rfl (fun _ => ?_) (fun h7 => (by revert h7; first | decide | exact fun z => absurd z (by decide) | exact fun z => z.elim (by decide)))
      refine lv_iconst (v := nI 0) hx hb dT_append_22 (by decide) ?_
      -- end 2
      rw [← hQ]
      exact k_iret hx hb hr hlocks (by decide) (u := (tx, us)) (Or.inr ⟨fun z => hc1_e z.1, rfl, rfl⟩) hP hD hK hS dT_append_23
  rw [hH, hlc] at hgo
  exact hgo
