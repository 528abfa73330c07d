def nF (S D : Nat) (nx : Nat → Nat → Nat) (kb : Int64) (j : Nat) : Int64 := gr (preOf S D nx) j kb
def nrF (Nf : Nat → Int64) (K : Nat) : Int64 := Nf (K - 1)
/-- the states of the way, and its inputs -/
def wst (nx : Nat → Nat → Nat) (Nf : Nat → Int64) (D d st : Nat) : Nat → Nat
  | 0 => st
  | k + 1 => nx (wst nx Nf D d st k) (lst (fun i => lb (Nf (d - k - 1)) (nx (wst nx Nf D d st k) i)) (D - 1))
def win (nx : Nat → Nat → Nat) (Nf : Nat → Int64) (D d st k : Nat) : Nat := lst (fun i => lb (Nf (d - k - 1)) (nx (wst nx Nf D d st k) i)) (D - 1)
theorem sg_pos {k : Nat} (h : k < 64) : 1 ≤ cn (sg k) 64 := cn_pos (ne0.mpr ⟨k, h, by rw [lb_sg h h]; simp⟩)
theorem rmu_0 {r : Int64} (h : 1 ≤ cn r 64) : rmu 1 r < 4159 := by unfold rmu; omega
set_option maxRecDepth 100000 in
set_option maxHeartbeats 4000000 in
theorem k_A_leastInputInto (l : Launch) (G : GG) (sz : Nat) (qk : Nat) (k1 : Nat) (k2 : Nat) (k3 : Nat) (k4 : Nat) (la : Nat) (ss : Nat) (ii : Nat) (ks : Nat) (kb : Int64) (kn : Nat → Int64) (sx : Nat) (x : Int64) (hla : la ≤ 6) (hii : 1 ≤ ii ∧ ii ≤ 8) (hsx : sx < 64) : Ki l yA_leastInputInto cA_leastInputInto 5 .int 2 46 G [.ref qk, .int (nI sx), .long x] [(qk, .inr (2, [.ref k1, .int (nI la), .int (nI ss), .int (nI ii), .int (nI ks), .ref k2, .ref k3, .ref k4, .long kb])), (k2, aJ G 48 kn)] sz (fun (r : Int32) (u : Unit) => (nI (lst (fun i => lb x (nxC kn la sx i)) (ii - 1)) = r ∧ () = u)) (fun (u : Unit) => [(qk, .inr (2, [.ref k1, .int (nI la), .int (nI ss), .int (nI ii), .int (nI ks), .ref k2, .ref k3, .ref k4, .long kb])), (k2, aJ G 48 kn)]) := by
  refine Met.ofW (cc := cA_leastInputInto) (maxL := 5) (ret := (some .int)) (by decide) rfl ?_
  intro p e s m args below meth c s₁ B hml hv
  obtain ⟨hav, hsz, hP, hK, hD0, hE⟩ := hv
  have hx := B.exec
  have hb := B.bytes
  have hr := B.returns
  have htb : ∀ w ∈ TB, w.before args s = true := fun w h => atoms_spec (ws := Cond.code yA_leastInputInto cA_leastInputInto 5 (some .int) :: TB) B.pre w (List.mem_cons_of_mem _ h)
  have hown : s.vm.findClass "CircuitProver$Answer" = some m.cls := findClass_of_methodNamed B.named
  have hlocks := B.notSynchronized
  subst hsz
  have hD := hD0.self (sz := s.heap.size)
  clear hD0
  generalize hRm : (headSpec (Cond.code yA_leastInputInto cA_leastInputInto 5 (some .int) :: TB) { frames := 2, cells := 0, slots := 0, locals := 46 }).room = R
  have hRf : R.frames = 2 := by rw [← hRm]; rfl
  have hRl : R.locals = 46 := by rw [← hRm]; rfl
  have hRc : R.cells = 0 := by rw [← hRm]; rfl
  have hRs : R.slots = 0 := by rw [← hRm]; rfl
  clear hRm
  generalize hAe : va_A [(qk, .inr (2, [.ref k1, .int (nI la), .int (nI ss), .int (nI ii), .int (nI ks), .ref k2, .ref k3, .ref k4, .long kb])), (k2, aJ G 48 kn)] s.heap.size = A at hD hE ⊢
  have hA : ∀ q : Nat, s.heap.size ≤ q → A q := fun q h => by rw [← hAe]; exact Or.inr h
  clear hAe
  have hS : va_S A s.heap s.heap [] := va_S.rf
  have hl := lv_entry ([.ref qk, .int (nI sx), .long x]) (n := 5) (Nat.le_of_ble_eq_true rfl)
  have hent := lg_entry_eq m ([.ref qk, .int (nI sx), .long x]) 5
  rw [← hav] at hent
  rw [hent]
  clear hent hav
  generalize (lg_sl ([.ref qk, .int (nI sx), .long x]) ++ List.replicate (5 - (lg_sl ([.ref qk, .int (nI sx), .long x])).length) Slot.unset).toArray = ls at hl ⊢
  have hl : lv_has ls 5 [(0, .ref qk), (1, .int (nI sx)), (2, .long x)] := hl
  generalize hQ : MQ below _ args s 0 0 _ = Q
  have hP : va_P (gD G) vC [(qk, .inr (2, [.ref k1, .int (nI la), .int (nI ss), .int (nI ii), .int (nI ks), .ref k2, .ref k3, .ref k4, .long kb])), (k2, aJ G 48 kn)] s.heap := hP
  obtain ⟨H, hH⟩ : ∃ H : Heap, H = s.heap := ⟨_, rfl⟩
  obtain ⟨locs, hlc⟩ : ∃ L : List Loc, L = [] := ⟨_, rfl⟩
  have hS : va_S A s.heap H locs := by rw [hH, hlc]; exact hS
  have hP : va_P (gD G) vC [(qk, .inr (2, [.ref k1, .int (nI la), .int (nI ss), .int (nI ii), .int (nI ks), .ref k2, .ref k3, .ref k4, .long kb])), (k2, aJ G 48 kn)] H := by rw [hH]; exact hP
  have hgo : W p l e R s m args below meth c H locs 0 0 Q (F0 m 0 ls []) := by
    clear hH hlc
    refine lv_iconst (v := nI 0) hx hb dA_leastInputInto_0 (by decide) ?_
    refine lv_istore (lv' := [(4, .int (nI 0)), (0, .ref qk), (1, .int (nI sx)), (2, .long x)]) hx hb dA_leastInputInto_1 hl (by decide) rfl (fun ls hl => ?_)
    have loop3 : ∀ (n : Nat) (i : Nat) (H : Heap) (locs : List Loc) (ls : Array Slot), ii - i < n → (i ≤ ii - 1) → (∀ j, j < i → lb x (nxC kn la sx j) = false) → va_P (gD G) vC [(qk, .inr (2, [.ref k1, .int (nI la), .int (nI ss), .int (nI ii), .int (nI ks), .ref k2, .ref k3, .ref k4, .long kb])), (k2, aJ G 48 kn)] H → va_D A [(qk, .inr (2, [.ref k1, .int (nI la), .int (nI ss), .int (nI ii), .int (nI ks), .ref k2, .ref k3, .ref k4, .long kb])), (k2, aJ G 48 kn)] → va_S A s.heap H locs → lv_has ls 5 [(0, .ref qk), (1, .int (nI sx)), (2, .long x), (4, .int (nI i))] → W p l e R s m args below meth c H locs 0 0 Q (F0 m 3 ls []) := by
      intro n
      induction n with
      | zero => intro i H locs ls hmu; omega
      | succ n ih =>
        intro i H locs ls hmu hi ha hP hD hS hl
        have ih3 := ih
        clear ih
        refine lv_iload hx hb dA_leastInputInto_3 (lv_at hl 3 rfl) ?_
        refine lv_aload_n hx hb dA_leastInputInto_5 rfl (lv_at hl 0 rfl) ?_
        refine va_getN (D := gD G) (ci := 2) (v := .int (nI ii)) (C := "CircuitProver$Machine") (T := TK) (N := 9) hx hb htb inK hown hK hP 0 rfl rfl 3 (by decide) (va_Nw.use rfl (hE.nw n111)) (fun _ h9 => h9) rfl dA_leastInputInto_6 ?_
        refine lv_iconst (v := nI 1) hx hb dA_leastInputInto_9 (by decide) ?_
        refine lv_isub hx hb dA_leastInputInto_10 ?_
        refine k_toi (y := nI (ii - 1)) (pk_sub (by omega)) ?_
        refine lv_icmp_ge (tgt := 34) hx hb dA_leastInputInto_11 rfl (fun h11 => ?_) (fun h11 => ?_)
        · have h11 : ii - 1 ≤ i := (nI_leI (a := ii - 1) (b := i) (by omega) (by omega)).mp h11
          refine lv_iload hx hb dA_leastInputInto_34 (lv_at hl 3 rfl) ?_
          -- end 0
          rw [← hQ]
          exact k_iret hx hb hr hlocks rfl (u := ()) (⟨by rw [lst_eq (P := (fun i => lb x (nxC kn la sx i))) (k := i) hi ha (fun h => by omega)], rfl⟩) hP hD hK hS dA_leastInputInto_36
        · have h11 : i < ii - 1 := Nat.lt_of_not_le (fun z => h11 ((nI_leI (a := ii - 1) (b := i) (by omega) (by omega)).mpr z))
          refine lv_lload_n hx hb dA_leastInputInto_14 rfl (lv_at hl 2 rfl) ?_
          refine lv_aload_n hx hb dA_leastInputInto_15 rfl (lv_at hl 0 rfl) ?_
          refine lv_iload_n hx hb dA_leastInputInto_16 rfl (lv_at hl 1 rfl) ?_
          refine lv_iload hx hb dA_leastInputInto_17 (lv_at hl 3 rfl) ?_
          refine k_i (ws2 := fun u => [(qk, .inr (2, [.ref k1, .int (nI la), .int (nI ss), .int (nI ii), .int (nI ks), .ref k2, .ref k3, .ref k4, .long kb])), (k2, aJ G 48 kn)]) (wr := []) (k_runV (n := 2) (As := [.int (nI sx), .int (nI i)]) (rest := [.long x]) hx hb hml hown htb hP hD hK hS hA hE (k_K_next l G H.size qk k1 k2 k3 k4 la ss ii ks kb kn sx i (show la ≤ 6 from by omega) (show i < 8 from by omega) (show sx < 64 from by omega)) b491 b431 b432 b4 b433 (by decide +kernel) rfl rfl ⟨by rw [hRf]; exact Nat.le_of_ble_eq_true rfl, by rw [hRl]; exact Nat.le_of_ble_eq_true rfl⟩ [0, 1] rfl (by decide) 0 rfl rfl rfl rfl hl.1 rfl (Nat.le_of_ble_eq_true rfl) dA_leastInputInto_19 ⟨Nat.zero_le _, Nat.zero_le _⟩) hP hD hS hA [0, 1] [] [0, 1] rfl rfl (by decide) (by decide) (fun u => rfl) (by decide) (fun r u H locs hw hP hD hS => ?_)
          obtain ⟨rfl, rfl⟩ := hw
          have hP : va_P (gD G) vC [(qk, .inr (2, [.ref k1, .int (nI la), .int (nI ss), .int (nI ii), .int (nI ks), .ref k2, .ref k3, .ref k4, .long kb])), (k2, aJ G 48 kn)] H := hP
          have hD : va_D A [(qk, .inr (2, [.ref k1, .int (nI la), .int (nI ss), .int (nI ii), .int (nI ks), .ref k2, .ref k3, .ref k4, .long kb])), (k2, aJ G 48 kn)] := hD
          have hnx := nxC_lt kn la sx i
          have hp2 := p2_le hla
          refine k_i (ws2 := fun u => [(qk, .inr (2, [.ref k1, .int (nI la), .int (nI ss), .int (nI ii), .int (nI ks), .ref k2, .ref k3, .ref k4, .long kb])), (k2, aJ G 48 kn)]) (wr := [(qk, .inr (2, [.ref k1, .int (nI la), .int (nI ss), .int (nI ii), .int (nI ks), .ref k2, .ref k3, .ref k4, .long kb])), (k2, aJ G 48 kn)]) (k_runSN (n := 2) (As := [.long x, .int (nI (nxC kn la sx i))]) (rest := []) (wc := []) hx hb hml hown htb hP hD hK hS hA hE (k_C_contains l G H.size x (nxC kn la sx i) (show (nxC kn la sx i) < 64 from by omega)) n461 b435 b1 b436 (by decide +kernel) rfl rfl ⟨by rw [hRf]; exact Nat.le_of_ble_eq_true rfl, by rw [hRl]; exact Nat.le_of_ble_eq_true rfl⟩ [] rfl (by decide) rfl hl.1 rfl (Nat.le_of_ble_eq_true rfl) dA_leastInputInto_22 ⟨Nat.zero_le _, Nat.zero_le _⟩) hP hD hS hA [] [0, 1] [0, 1] rfl rfl (by decide) (by decide) (fun u => rfl) (by decide) (fun r u H locs hw hP hD hS => ?_)
          rcases hw with ⟨hc22_e, rfl, rfl⟩ | ⟨hc22_e, rfl, rfl⟩
          · skip
            have hP : va_P (gD G) vC [(qk, .inr (2, [.ref k1, .int (nI la), .int (nI ss), .int (nI ii), .int (nI ks), .ref k2, .ref k3, .ref k4, .long kb])), (k2, aJ G 48 kn)] H := hP
            have hD : va_D A [(qk, .inr (2, [.ref k1, .int (nI la), .int (nI ss), .int (nI ii), .int (nI ks), .ref k2, .ref k3, .ref k4, .long kb])), (k2, aJ G 48 kn)] := hD
            refine lv_if_ne (tgt := 34) hx hb dA_leastInputInto_25 rfl (fun _ => ?_) (fun h25 => (by revert h25; first | decide | exact fun z => absurd z (by decide) | exact fun z => z.elim (by decide)))
            refine lv_iload hx hb dA_leastInputInto_34 (lv_at hl 3 rfl) ?_
            -- end 1
            rw [← hQ]
            exact k_iret hx hb hr hlocks rfl (u := ()) (⟨by rw [lst_eq (P := (fun i => lb x (nxC kn la sx i))) (k := i) hi ha (fun h => hc22_e)], rfl⟩) hP hD hK hS dA_leastInputInto_36
          · skip
            have hP : va_P (gD G) vC [(qk, .inr (2, [.ref k1, .int (nI la), .int (nI ss), .int (nI ii), .int (nI ks), .ref k2, .ref k3, .ref k4, .long kb])), (k2, aJ G 48 kn)] H := hP
            have hD : va_D A [(qk, .inr (2, [.ref k1, .int (nI la), .int (nI ss), .int (nI ii), .int (nI ks), .ref k2, .ref k3, .ref k4, .long kb])), (k2, aJ G 48 kn)] := hD
            refine lv_if_ne (tgt := 34) hx hb dA_leastInputInto_25 rfl (fun h25 => (by revert h25; first | decide | exact fun z => absurd z (by decide) | exact fun z => z.elim (by decide))) (fun _ => ?_)
            refine lv_iinc (v := nI (i + 1)) (lv' := [(4, .int (nI (i + 1))), (0, .ref qk), (1, .int (nI sx)), (2, .long x)]) hx hb dA_leastInputInto_28 hl (k := 3) rfl (nI_add _ 1) (by decide) rfl (fun ls hl => ?_)
            refine lv_goto (tgt := 3) hx hb dA_leastInputInto_31 rfl ?_
            have hl : lv_has ls 5 [(0, .ref qk), (1, .int (nI sx)), (2, .long x), (4, .int (nI (i + 1)))] := lv_sub hl [1, 2, 3, 0] rfl
            exact ih3 (i + 1) _ _ _ (by omega) (by omega) (fun j hj => by by_cases e9 : j = i; (subst e9; exact hc22_e); (exact ha j (by omega))) hP hD hS hl
    have hl : lv_has ls 5 [(0, .ref qk), (1, .int (nI sx)), (2, .long x), (4, .int (nI 0))] := lv_sub hl [1, 2, 3, 0] rfl
    exact loop3 (ii - 0 + 1) 0 _ _ _ (by omega) (by omega) (fun j hj => absurd hj (Nat.not_lt_zero j)) hP hD hS hl
  rw [hH, hlc] at hgo
  exact hgo
set_option maxRecDepth 100000 in
set_option maxHeartbeats 4000000 in
theorem k_A_leastInputWithOutput (l : Launch) (G : GG) (sz : Nat) (qk : Nat) (k1 : Nat) (k2 : Nat) (k3 : Nat) (k4 : Nat) (la : Nat) (ss : Nat) (ii : Nat) (ks : Nat) (kb : Int64) (ko : Nat → Int64) (sx : Nat) (hii : 1 ≤ ii ∧ ii ≤ 8) (hsx : sx < 64) : Ki l yA_leastInputWithOutput cA_leastInputWithOutput 3 .int 2 44 G [.ref qk, .int (nI sx)] [(qk, .inr (2, [.ref k1, .int (nI la), .int (nI ss), .int (nI ii), .int (nI ks), .ref k2, .ref k3, .ref k4, .long kb])), (k3, aJ G 8 ko)] sz (fun (r : Int32) (u : Unit) => (nI (lst (fun i => lb (ko i) sx) (ii - 1)) = r ∧ () = u)) (fun (u : Unit) => [(qk, .inr (2, [.ref k1, .int (nI la), .int (nI ss), .int (nI ii), .int (nI ks), .ref k2, .ref k3, .ref k4, .long kb])), (k3, aJ G 8 ko)]) := by
  refine Met.ofW (cc := cA_leastInputWithOutput) (maxL := 3) (ret := (some .int)) (by decide) rfl ?_
  intro p e s m args below meth c s₁ B hml hv
  obtain ⟨hav, hsz, hP, hK, hD0, hE⟩ := hv
  have hx := B.exec
  have hb := B.bytes
  have hr := B.returns
  have htb : ∀ w ∈ TB, w.before args s = true := fun w h => atoms_spec (ws := Cond.code yA_leastInputWithOutput cA_leastInputWithOutput 3 (some .int) :: TB) B.pre w (List.mem_cons_of_mem _ h)
  have hown : s.vm.findClass "CircuitProver$Answer" = some m.cls := findClass_of_methodNamed B.named
  have hlocks := B.notSynchronized
  subst hsz
  have hD := hD0.self (sz := s.heap.size)
  clear hD0
  generalize hRm : (headSpec (Cond.code yA_leastInputWithOutput cA_leastInputWithOutput 3 (some .int) :: TB) { frames := 2, cells := 0, slots := 0, locals := 44 }).room = R
  have hRf : R.frames = 2 := by rw [← hRm]; rfl
  have hRl : R.locals = 44 := by rw [← hRm]; rfl
  have hRc : R.cells = 0 := by rw [← hRm]; rfl
  have hRs : R.slots = 0 := by rw [← hRm]; rfl
  clear hRm
  generalize hAe : va_A [(qk, .inr (2, [.ref k1, .int (nI la), .int (nI ss), .int (nI ii), .int (nI ks), .ref k2, .ref k3, .ref k4, .long kb])), (k3, aJ G 8 ko)] s.heap.size = A at hD hE ⊢
  have hA : ∀ q : Nat, s.heap.size ≤ q → A q := fun q h => by rw [← hAe]; exact Or.inr h
  clear hAe
  have hS : va_S A s.heap s.heap [] := va_S.rf
  have hl := lv_entry ([.ref qk, .int (nI sx)]) (n := 3) (Nat.le_of_ble_eq_true rfl)
  have hent := lg_entry_eq m ([.ref qk, .int (nI sx)]) 3
  rw [← hav] at hent
  rw [hent]
  clear hent hav
  generalize (lg_sl ([.ref qk, .int (nI sx)]) ++ List.replicate (3 - (lg_sl ([.ref qk, .int (nI sx)])).length) Slot.unset).toArray = ls at hl ⊢
  have hl : lv_has ls 3 [(0, .ref qk), (1, .int (nI sx))] := hl
  generalize hQ : MQ below _ args s 0 0 _ = Q
  have hP : va_P (gD G) vC [(qk, .inr (2, [.ref k1, .int (nI la), .int (nI ss), .int (nI ii), .int (nI ks), .ref k2, .ref k3, .ref k4, .long kb])), (k3, aJ G 8 ko)] s.heap := hP
  obtain ⟨H, hH⟩ : ∃ H : Heap, H = s.heap := ⟨_, rfl⟩
  obtain ⟨locs, hlc⟩ : ∃ L : List Loc, L = [] := ⟨_, rfl⟩
  have hS : va_S A s.heap H locs := by rw [hH, hlc]; exact hS
  have hP : va_P (gD G) vC [(qk, .inr (2, [.ref k1, .int (nI la), .int (nI ss), .int (nI ii), .int (nI ks), .ref k2, .ref k3, .ref k4, .long kb])), (k3, aJ G 8 ko)] H := by rw [hH]; exact hP
  have hgo : W p l e R s m args below meth c H locs 0 0 Q (F0 m 0 ls []) := by
    clear hH hlc
    refine lv_iconst (v := nI 0) hx hb dA_leastInputWithOutput_0 (by decide) ?_
    refine lv_istore_n (lv' := [(2, .int (nI 0)), (0, .ref qk), (1, .int (nI sx))]) hx hb dA_leastInputWithOutput_1 rfl hl (by decide) rfl (fun ls hl => ?_)
    have loop2 : ∀ (n : Nat) (i : Nat) (H : Heap) (locs : List Loc) (ls : Array Slot), ii - i < n → (i ≤ ii - 1) → (∀ j, j < i → lb (ko j) sx = false) → va_P (gD G) vC [(qk, .inr (2, [.ref k1, .int (nI la), .int (nI ss), .int (nI ii), .int (nI ks), .ref k2, .ref k3, .ref k4, .long kb])), (k3, aJ G 8 ko)] H → va_D A [(qk, .inr (2, [.ref k1, .int (nI la), .int (nI ss), .int (nI ii), .int (nI ks), .ref k2, .ref k3, .ref k4, .long kb])), (k3, aJ G 8 ko)] → va_S A s.heap H locs → lv_has ls 3 [(0, .ref qk), (1, .int (nI sx)), (2, .int (nI i))] → W p l e R s m args below meth c H locs 0 0 Q (F0 m 2 ls []) := by
      intro n
      induction n with
      | zero => intro i H locs ls hmu; omega
      | succ n ih =>
        intro i H locs ls hmu hi ha hP hD hS hl
        have ih2 := ih
        clear ih
        refine lv_iload_n hx hb dA_leastInputWithOutput_2 rfl (lv_at hl 2 rfl) ?_
        refine lv_aload_n hx hb dA_leastInputWithOutput_3 rfl (lv_at hl 0 rfl) ?_
        refine va_getN (D := gD G) (ci := 2) (v := .int (nI ii)) (C := "CircuitProver$Machine") (T := TK) (N := 9) hx hb htb inK hown hK hP 0 rfl rfl 3 (by decide) (va_Nw.use rfl (hE.nw n111)) (fun _ h9 => h9) rfl dA_leastInputWithOutput_4 ?_
        refine lv_iconst (v := nI 1) hx hb dA_leastInputWithOutput_7 (by decide) ?_
        refine lv_isub hx hb dA_leastInputWithOutput_8 ?_
        refine k_toi (y := nI (ii - 1)) (pk_sub (by omega)) ?_
        refine lv_icmp_ge (tgt := 27) hx hb dA_leastInputWithOutput_9 rfl (fun h9 => ?_) (fun h9 => ?_)
        · have h9 : ii - 1 ≤ i := (nI_leI (a := ii - 1) (b := i) (by omega) (by omega)).mp h9
          refine lv_iload_n hx hb dA_leastInputWithOutput_27 rfl (lv_at hl 2 rfl) ?_
          -- end 0
          rw [← hQ]
          exact k_iret hx hb hr hlocks rfl (u := ()) (⟨by rw [lst_eq (P := (fun i => lb (ko i) sx)) (k := i) hi ha (fun h => by omega)], rfl⟩) hP hD hK hS dA_leastInputWithOutput_28
        · have h9 : i < ii - 1 := Nat.lt_of_not_le (fun z => h9 ((nI_leI (a := ii - 1) (b := i) (by omega) (by omega)).mpr z))
          refine lv_aload_n hx hb dA_leastInputWithOutput_12 rfl (lv_at hl 0 rfl) ?_
          refine lv_iload_n hx hb dA_leastInputWithOutput_13 rfl (lv_at hl 1 rfl) ?_
          refine lv_iload_n hx hb dA_leastInputWithOutput_14 rfl (lv_at hl 2 rfl) ?_
          refine k_i (ws2 := fun u => [(qk, .inr (2, [.ref k1, .int (nI la), .int (nI ss), .int (nI ii), .int (nI ks), .ref k2, .ref k3, .ref k4, .long kb])), (k3, aJ G 8 ko)]) (wr := []) (k_runV (n := 2) (As := [.int (nI sx), .int (nI i)]) (rest := []) hx hb hml hown htb hP hD hK hS hA hE (k_K_hasOutput l G H.size qk k1 k2 k3 k4 la ss ii ks kb ko sx i (show i < 8 from by omega) (show sx < 64 from by omega)) b495 b496 b497 b4 b498 (by decide +kernel) rfl rfl ⟨by rw [hRf]; exact Nat.le_of_ble_eq_true rfl, by rw [hRl]; exact Nat.le_of_ble_eq_true rfl⟩ [0, 1] rfl (by decide) 0 rfl rfl rfl rfl hl.1 rfl (Nat.le_of_ble_eq_true rfl) dA_leastInputWithOutput_15 ⟨Nat.zero_le _, Nat.zero_le _⟩) hP hD hS hA [0, 1] [] [0, 1] rfl rfl (by decide) (by decide) (fun u => rfl) (by decide) (fun r u H locs hw hP hD hS => ?_)
          rcases hw with ⟨hc15_e, rfl, rfl⟩ | ⟨hc15_e, rfl, rfl⟩
          · skip
            have hP : va_P (gD G) vC [(qk, .inr (2, [.ref k1, .int (nI la), .int (nI ss), .int (nI ii), .int (nI ks), .ref k2, .ref k3, .ref k4, .long kb])), (k3, aJ G 8 ko)] H := hP
            have hD : va_D A [(qk, .inr (2, [.ref k1, .int (nI la), .int (nI ss), .int (nI ii), .int (nI ks), .ref k2, .ref k3, .ref k4, .long kb])), (k3, aJ G 8 ko)] := hD
            refine lv_if_ne (tgt := 27) hx hb dA_leastInputWithOutput_18 rfl (fun _ => ?_) (fun h18 => (by revert h18; first | decide | exact fun z => absurd z (by decide) | exact fun z => z.elim (by decide)))
            refine lv_iload_n hx hb dA_leastInputWithOutput_27 rfl (lv_at hl 2 rfl) ?_
            -- end 1
            rw [← hQ]
            exact k_iret hx hb hr hlocks rfl (u := ()) (⟨by rw [lst_eq (P := (fun i => lb (ko i) sx)) (k := i) hi ha (fun h => hc15_e)], rfl⟩) hP hD hK hS dA_leastInputWithOutput_28
          · skip
            have hP : va_P (gD G) vC [(qk, .inr (2, [.ref k1, .int (nI la), .int (nI ss), .int (nI ii), .int (nI ks), .ref k2, .ref k3, .ref k4, .long kb])), (k3, aJ G 8 ko)] H := hP
            have hD : va_D A [(qk, .inr (2, [.ref k1, .int (nI la), .int (nI ss), .int (nI ii), .int (nI ks), .ref k2, .ref k3, .ref k4, .long kb])), (k3, aJ G 8 ko)] := hD
            refine lv_if_ne (tgt := 27) hx hb dA_leastInputWithOutput_18 rfl (fun h18 => (by revert h18; first | decide | exact fun z => absurd z (by decide) | exact fun z => z.elim (by decide))) (fun _ => ?_)
            refine lv_iinc (v := nI (i + 1)) (lv' := [(2, .int (nI (i + 1))), (0, .ref qk), (1, .int (nI sx))]) hx hb dA_leastInputWithOutput_21 hl (k := 2) rfl (nI_add _ 1) (by decide) rfl (fun ls hl => ?_)
            refine lv_goto (tgt := 2) hx hb dA_leastInputWithOutput_24 rfl ?_
            have hl : lv_has ls 3 [(0, .ref qk), (1, .int (nI sx)), (2, .int (nI (i + 1)))] := lv_sub hl [1, 2, 0] rfl
            exact ih2 (i + 1) _ _ _ (by omega) (by omega) (fun j hj => by by_cases e9 : j = i; (subst e9; exact hc15_e); (exact ha j (by omega))) hP hD hS hl
    have hl : lv_has ls 3 [(0, .ref qk), (1, .int (nI sx)), (2, .int (nI 0))] := lv_sub hl [1, 2, 0] rfl
    exact loop2 (ii - 0 + 1) 0 _ _ _ (by omega) (by omega) (fun j hj => absurd hj (Nat.not_lt_zero j)) hP hD hS hl
  rw [hH, hlc] at hgo
  exact hgo
set_option maxRecDepth 100000 in
set_option maxHeartbeats 4000000 in
theorem k_A_findWay (l : Launch) (G : GG) (sz : Nat) (qa : Nat) (r1 : Nat) (r2 : Nat) (ns : Nat) (re : Int64) (lr : Nat) (rt : Nat) (vi : Int64) (na : Nat → Int64) (wy : Nat → Nat) (d : Nat) (qk : Nat) (k1 : Nat) (k2 : Nat) (k3 : Nat) (k4 : Nat) (la : Nat) (ss : Nat) (ii : Nat) (ks : Nat) (kb : Int64) (kn : Nat → Int64) (ko : Nat → Int64) (Nf : Nat → Int64) (hns : 1 ≤ ns ∧ ns ≤ 64) (hna : ∀ j, j < ns → na j = Nf j) (hst : ∀ j, ns - 1 ≤ j → Nf j = Nf (ns - 1)) (hla : la ≤ 6) (hii : 1 ≤ ii ∧ ii ≤ 8) (hd : d < 64) (hks : ks < 64) : Kv l yA_findWay cA_findWay 4 3 70 0 0 G [.ref qa, .ref qk] [(qa, .inr (0, [.ref r1, .int (nI ns), .long re, .int (nI d), .ref r2, .int (nI lr), .int (nI rt), .long vi])), (r1, aJ G 64 na), (r2, aI G 64 wy), (qk, .inr (2, [.ref k1, .int (nI la), .int (nI ss), .int (nI ii), .int (nI ks), .ref k2, .ref k3, .ref k4, .long kb])), (k2, aJ G 48 kn), (k3, aJ G 8 ko)] sz (fun (u : (Nat → Nat)) => (∃ (w9 : Nat → Nat), (∀ k, k < d → w9 k = win (nxC kn la) Nf ii d ks k) ∧ w9 d = lst (fun i => lb (ko i) (wst (nxC kn la) Nf ii d ks d)) (ii - 1) ∧ w9 = u)) (fun (u : (Nat → Nat)) => [(qa, .inr (0, [.ref r1, .int (nI ns), .long re, .int (nI d), .ref r2, .int (nI lr), .int (nI rt), .long vi])), (r1, aJ G 64 na), (r2, aI G 64 u), (qk, .inr (2, [.ref k1, .int (nI la), .int (nI ss), .int (nI ii), .int (nI ks), .ref k2, .ref k3, .ref k4, .long kb])), (k2, aJ G 48 kn), (k3, aJ G 8 ko)]) := by
  refine Met.ofW (cc := cA_findWay) (maxL := 4) (ret := none) (by decide) rfl ?_
  intro p e s m args below meth c s₁ B hml hv
  obtain ⟨hav, hsz, hP, hK, hD0, hE⟩ := hv
  have hx := B.exec
  have hb := B.bytes
  have hr := B.returns
  have htb : ∀ w ∈ TB, w.before args s = true := fun w h => atoms_spec (ws := Cond.code yA_findWay cA_findWay 4 none :: TB) B.pre w (List.mem_cons_of_mem _ h)
  have hown : s.vm.findClass "CircuitProver$Answer" = some m.cls := findClass_of_methodNamed B.named
  have hlocks := B.notSynchronized
  subst hsz
  have hD := hD0.self (sz := s.heap.size)
  clear hD0
  generalize hRm : (headSpec (Cond.code yA_findWay cA_findWay 4 none :: TB) { frames := 3, cells := 0, slots := 0, locals := 70 }).room = R
  have hRf : R.frames = 3 := by rw [← hRm]; rfl
  have hRl : R.locals = 70 := by rw [← hRm]; rfl
  have hRc : R.cells = 0 := by rw [← hRm]; rfl
  have hRs : R.slots = 0 := by rw [← hRm]; rfl
  clear hRm
  generalize hAe : va_A [(qa, .inr (0, [.ref r1, .int (nI ns), .long re, .int (nI d), .ref r2, .int (nI lr), .int (nI rt), .long vi])), (r1, aJ G 64 na), (r2, aI G 64 wy), (qk, .inr (2, [.ref k1, .int (nI la), .int (nI ss), .int (nI ii), .int (nI ks), .ref k2, .ref k3, .ref k4, .long kb])), (k2, aJ G 48 kn), (k3, aJ G 8 ko)] s.heap.size = A at hD hE ⊢
  have hA : ∀ q : Nat, s.heap.size ≤ q → A q := fun q h => by rw [← hAe]; exact Or.inr h
  clear hAe
  have hS : va_S A s.heap s.heap [] := va_S.rf
  have hl := lv_entry ([.ref qa, .ref qk]) (n := 4) (Nat.le_of_ble_eq_true rfl)
  have hent := lg_entry_eq m ([.ref qa, .ref qk]) 4
  rw [← hav] at hent
  rw [hent]
  clear hent hav
  generalize (lg_sl ([.ref qa, .ref qk]) ++ List.replicate (4 - (lg_sl ([.ref qa, .ref qk])).length) Slot.unset).toArray = ls at hl ⊢
  have hl : lv_has ls 4 [(0, .ref qa), (1, .ref qk)] := hl
  generalize hQ : MQ below _ args s 0 0 _ = Q
  have hP : va_P (gD G) vC [(qa, .inr (0, [.ref r1, .int (nI ns), .long re, .int (nI d), .ref r2, .int (nI lr), .int (nI rt), .long vi])), (r1, aJ G 64 na), (r2, aI G 64 wy), (qk, .inr (2, [.ref k1, .int (nI la), .int (nI ss), .int (nI ii), .int (nI ks), .ref k2, .ref k3, .ref k4, .long kb])), (k2, aJ G 48 kn), (k3, aJ G 8 ko)] s.heap := hP
  obtain ⟨H, hH⟩ : ∃ H : Heap, H = s.heap := ⟨_, rfl⟩
  obtain ⟨locs, hlc⟩ : ∃ L : List Loc, L = [] := ⟨_, rfl⟩
  have hS : va_S A s.heap H locs := by rw [hH, hlc]; exact hS
  have hP : va_P (gD G) vC [(qa, .inr (0, [.ref r1, .int (nI ns), .long re, .int (nI d), .ref r2, .int (nI lr), .int (nI rt), .long vi])), (r1, aJ G 64 na), (r2, aI G 64 wy), (qk, .inr (2, [.ref k1, .int (nI la), .int (nI ss), .int (nI ii), .int (nI ks), .ref k2, .ref k3, .ref k4, .long kb])), (k2, aJ G 48 kn), (k3, aJ G 8 ko)] H := by rw [hH]; exact hP
  have hgo : W p l e R s m args below meth c H locs 0 0 Q (F0 m 0 ls []) := by
    clear hH hlc
    refine lv_aload_n hx hb dA_findWay_0 rfl (lv_at hl 1 rfl) ?_
    refine va_getN (D := gD G) (ci := 2) (v := .int (nI ks)) (C := "CircuitProver$Machine") (T := TK) (N := 9) hx hb htb inK hown hK hP 3 rfl rfl 4 (by decide) (va_Nw.use rfl (hE.nw n112)) (fun _ h9 => h9) rfl dA_findWay_1 ?_
    refine lv_istore_n (lv' := [(2, .int (nI ks)), (0, .ref qa), (1, .ref qk)]) hx hb dA_findWay_4 rfl hl (by decide) rfl (fun ls hl => ?_)
    refine lv_iconst (v := nI 0) hx hb dA_findWay_5 (by decide) ?_
    refine lv_istore_n (lv' := [(3, .int (nI 0)), (2, .int (nI ks)), (0, .ref qa), (1, .ref qk)]) hx hb dA_findWay_6 rfl hl (by decide) rfl (fun ls hl => ?_)
    have loop7 : ∀ (n : Nat) (sx : Nat) (k : Nat) (w9 : Nat → Nat) (H : Heap) (locs : List Loc) (ls : Array Slot), d - k < n → (k ≤ d) → (sx = wst (nxC kn la) Nf ii d ks k ∧ sx < 64) → (∀ j, j < k → w9 j = win (nxC kn la) Nf ii d ks j) → va_P (gD G) vC [(qa, .inr (0, [.ref r1, .int (nI ns), .long re, .int (nI d), .ref r2, .int (nI lr), .int (nI rt), .long vi])), (r1, aJ G 64 na), (r2, aI G 64 w9), (qk, .inr (2, [.ref k1, .int (nI la), .int (nI ss), .int (nI ii), .int (nI ks), .ref k2, .ref k3, .ref k4, .long kb])), (k2, aJ G 48 kn), (k3, aJ G 8 ko)] H → va_D A [(qa, .inr (0, [.ref r1, .int (nI ns), .long re, .int (nI d), .ref r2, .int (nI lr), .int (nI rt), .long vi])), (r1, aJ G 64 na), (r2, aI G 64 w9), (qk, .inr (2, [.ref k1, .int (nI la), .int (nI ss), .int (nI ii), .int (nI ks), .ref k2, .ref k3, .ref k4, .long kb])), (k2, aJ G 48 kn), (k3, aJ G 8 ko)] → va_S A s.heap H locs → lv_has ls 4 [(0, .ref qa), (1, .ref qk), (2, .int (nI sx)), (3, .int (nI k))] → W p l e R s m args below meth c H locs 0 0 Q (F0 m 7 ls []) := by
      intro n
      induction n with
      | zero => intro sx k w9 H locs ls hmu; omega
      | succ n ih =>
        intro sx k w9 H locs ls hmu hk hsx ha hP hD hS hl
        have ih7 := ih
        clear ih
        refine lv_iload_n hx hb dA_findWay_7 rfl (lv_at hl 3 rfl) ?_
        refine lv_aload_n hx hb dA_findWay_8 rfl (lv_at hl 0 rfl) ?_
        refine va_get (D := gD G) (ci := 0) (v := .int (nI d)) (C := "CircuitProver$Answer") (T := TA) (N := 8) hx hb htb inA hown hK hP 0 rfl rfl 3 (by decide) (htb _ b150) (fun _ h9 => h9) rfl dA_findWay_9 ?_
        refine lv_icmp_ge (tgt := 63) hx hb dA_findWay_12 rfl (fun h12 => ?_) (fun h12 => ?_)
        · have h12 : d ≤ k := (nI_leI (a := d) (b := k) (by omega) (by omega)).mp h12
          refine lv_aload_n hx hb dA_findWay_63 rfl (lv_at hl 0 rfl) ?_
          refine va_get (D := gD G) (ci := 0) (v := .int (nI d)) (C := "CircuitProver$Answer") (T := TA) (N := 8) hx hb htb inA hown hK hP 0 rfl rfl 3 (by decide) (htb _ b150) (fun _ h9 => h9) rfl dA_findWay_64 ?_
          refine lv_if_lt (tgt := 96) hx hb dA_findWay_67 rfl (fun h67 => ?_) (fun h67 => ?_)
          · have h67 : d < 0 := (nI_ltI (a := d) (b := 0) (by omega) (by omega)).mp h67
            exfalso; omega
          · have h67 : 0 ≤ d := Nat.le_of_not_lt (fun z => h67 ((nI_ltI (a := d) (b := 0) (by omega) (by omega)).mpr z))
            refine lv_aload_n hx hb dA_findWay_70 rfl (lv_at hl 0 rfl) ?_
            refine va_get (D := gD G) (ci := 0) (v := .int (nI d)) (C := "CircuitProver$Answer") (T := TA) (N := 8) hx hb htb inA hown hK hP 0 rfl rfl 3 (by decide) (htb _ b150) (fun _ h9 => h9) rfl dA_findWay_71 ?_
            refine lv_aload_n hx hb dA_findWay_74 rfl (lv_at hl 0 rfl) ?_
            refine va_get (D := gD G) (ci := 0) (v := .ref r2) (C := "CircuitProver$Answer") (T := TA) (N := 8) hx hb htb inA hown hK hP 0 rfl rfl 4 (by decide) (htb _ b152) (fun _ h9 => h9) rfl dA_findWay_75 ?_
            refine va_alen (v := nI 64) hx hb hK hP 2 0 rfl rfl rfl dA_findWay_78 ?_
            refine lv_icmp_ge (tgt := 96) hx hb dA_findWay_79 rfl (fun h79 => ?_) (fun h79 => ?_)
            · have h79 : 64 ≤ d := (nI_leI (a := 64) (b := d) (by omega) (by omega)).mp h79
              exfalso; omega
            · have h79 : d < 64 := Nat.lt_of_not_le (fun z => h79 ((nI_leI (a := 64) (b := d) (by omega) (by omega)).mpr z))
              refine lv_aload_n hx hb dA_findWay_82 rfl (lv_at hl 0 rfl) ?_
              refine va_get (D := gD G) (ci := 0) (v := .ref r2) (C := "CircuitProver$Answer") (T := TA) (N := 8) hx hb htb inA hown hK hP 0 rfl rfl 4 (by decide) (htb _ b152) (fun _ h9 => h9) rfl dA_findWay_83 ?_
              refine lv_aload_n hx hb dA_findWay_86 rfl (lv_at hl 0 rfl) ?_
              refine va_get (D := gD G) (ci := 0) (v := .int (nI d)) (C := "CircuitProver$Answer") (T := TA) (N := 8) hx hb htb inA hown hK hP 0 rfl rfl 3 (by decide) (htb _ b150) (fun _ h9 => h9) rfl dA_findWay_87 ?_
              refine lv_aload_n hx hb dA_findWay_90 rfl (lv_at hl 1 rfl) ?_
              refine lv_iload_n hx hb dA_findWay_91 rfl (lv_at hl 2 rfl) ?_
              refine k_i (ws2 := fun u => [(qa, .inr (0, [.ref r1, .int (nI ns), .long re, .int (nI d), .ref r2, .int (nI lr), .int (nI rt), .long vi])), (r1, aJ G 64 na), (r2, aI G 64 w9), (qk, .inr (2, [.ref k1, .int (nI la), .int (nI ss), .int (nI ii), .int (nI ks), .ref k2, .ref k3, .ref k4, .long kb])), (k2, aJ G 48 kn), (k3, aJ G 8 ko)]) (wr := [(qa, .inr (0, [.ref r1, .int (nI ns), .long re, .int (nI d), .ref r2, .int (nI lr), .int (nI rt), .long vi])), (r1, aJ G 64 na), (r2, aI G 64 w9), (k2, aJ G 48 kn)]) (k_runS (n := 2) (As := [.ref qk, .int (nI sx)]) (rest := [.int (nI d), .ref r2]) (wc := [(qk, .inr (2, [.ref k1, .int (nI la), .int (nI ss), .int (nI ii), .int (nI ks), .ref k2, .ref k3, .ref k4, .long kb])), (k3, aJ G 8 ko)]) hx hb hml hown htb hP hD hK hS hA hE (k_A_leastInputWithOutput l G H.size qk k1 k2 k3 k4 la ss ii ks kb ko sx (show 1 ≤ ii ∧ ii ≤ 8 from by omega) (show sx < 64 from by omega)) b492 b493 b5 b494 (by decide +kernel) rfl rfl ⟨by rw [hRf]; exact Nat.le_of_ble_eq_true rfl, by rw [hRl]; exact Nat.le_of_ble_eq_true rfl⟩ [3, 5] rfl (by decide) rfl hl.1 rfl (Nat.le_of_ble_eq_true rfl) dA_findWay_92 ⟨Nat.zero_le _, Nat.zero_le _⟩) hP hD hS hA [3, 5] [0, 1, 2, 4] [0, 1, 2, 4, 3, 5] rfl rfl (by decide) (by decide) (fun u => rfl) (by decide) (fun r u H locs hw hP hD hS => ?_)
              obtain ⟨rfl, rfl⟩ := hw
              have hP : va_P (gD G) vC [(qa, .inr (0, [.ref r1, .int (nI ns), .long re, .int (nI d), .ref r2, .int (nI lr), .int (nI rt), .long vi])), (r1, aJ G 64 na), (r2, aI G 64 w9), (qk, .inr (2, [.ref k1, .int (nI la), .int (nI ss), .int (nI ii), .int (nI ks), .ref k2, .ref k3, .ref k4, .long kb])), (k2, aJ G 48 kn), (k3, aJ G 8 ko)] H := hP
              have hD : va_D A [(qa, .inr (0, [.ref r1, .int (nI ns), .long re, .int (nI d), .ref r2, .int (nI lr), .int (nI rt), .long vi])), (r1, aJ G 64 na), (r2, aI G 64 w9), (qk, .inr (2, [.ref k1, .int (nI la), .int (nI ss), .int (nI ii), .int (nI ks), .ref k2, .ref k3, .ref k4, .long kb])), (k2, aJ G 48 kn), (k3, aJ G 8 ko)] := hD
              have hls := (lst_spec (fun i => lb (ko i) sx) (ii - 1)).1
              refine k_iast hx hb hK hP hD hS 2 rfl (k := d) (v := lst (fun i => lb (ko i) sx) (ii - 1)) (by omega) (by decide) dA_findWay_95 (fun H locs hP hD hS => ?_)
              have hP : va_P (gD G) vC [(qa, .inr (0, [.ref r1, .int (nI ns), .long re, .int (nI d), .ref r2, .int (nI lr), .int (nI rt), .long vi])), (r1, aJ G 64 na), (r2, aI G 64 (va_up w9 d (lst (fun i => lb (ko i) sx) (ii - 1)))), (qk, .inr (2, [.ref k1, .int (nI la), .int (nI ss), .int (nI ii), .int (nI ks), .ref k2, .ref k3, .ref k4, .long kb])), (k2, aJ G 48 kn), (k3, aJ G 8 ko)] H := hP
              have hD : va_D A [(qa, .inr (0, [.ref r1, .int (nI ns), .long re, .int (nI d), .ref r2, .int (nI lr), .int (nI rt), .long vi])), (r1, aJ G 64 na), (r2, aI G 64 (va_up w9 d (lst (fun i => lb (ko i) sx) (ii - 1)))), (qk, .inr (2, [.ref k1, .int (nI la), .int (nI ss), .int (nI ii), .int (nI ks), .ref k2, .ref k3, .ref k4, .long kb])), (k2, aJ G 48 kn), (k3, aJ G 8 ko)] := hD
              -- end 0
              rw [← hQ]
              exact k_vret hx hb hr hlocks (u := (va_up w9 d (lst (fun i => lb (ko i) sx) (ii - 1)))) (⟨va_up w9 d (lst (fun i => lb (ko i) sx) (ii - 1)), fun j hj => by rw [va_up_ne _ _ (by omega)]; exact ha j (by omega), by rw [va_up_self, hsx.1, show k = d by omega], rfl⟩) hP hD hK hS dA_findWay_96
        · have h12 : k < d := Nat.lt_of_not_le (fun z => h12 ((nI_leI (a := d) (b := k) (by omega) (by omega)).mpr z))
          refine lv_iload_n hx hb dA_findWay_15 rfl (lv_at hl 3 rfl) ?_
          refine lv_aload_n hx hb dA_findWay_16 rfl (lv_at hl 0 rfl) ?_
          refine va_get (D := gD G) (ci := 0) (v := .ref r2) (C := "CircuitProver$Answer") (T := TA) (N := 8) hx hb htb inA hown hK hP 0 rfl rfl 4 (by decide) (htb _ b152) (fun _ h9 => h9) rfl dA_findWay_17 ?_
          refine va_alen (v := nI 64) hx hb hK hP 2 0 rfl rfl rfl dA_findWay_20 ?_
          refine lv_icmp_ge (tgt := 63) hx hb dA_findWay_21 rfl (fun h21 => ?_) (fun h21 => ?_)
          · have h21 : 64 ≤ k := (nI_leI (a := 64) (b := k) (by omega) (by omega)).mp h21
            exfalso; omega
          · have h21 : k < 64 := Nat.lt_of_not_le (fun z => h21 ((nI_leI (a := 64) (b := k) (by omega) (by omega)).mpr z))
            refine lv_aload_n hx hb dA_findWay_24 rfl (lv_at hl 0 rfl) ?_
            refine va_get (D := gD G) (ci := 0) (v := .ref r2) (C := "CircuitProver$Answer") (T := TA) (N := 8) hx hb htb inA hown hK hP 0 rfl rfl 4 (by decide) (htb _ b152) (fun _ h9 => h9) rfl dA_findWay_25 ?_
            refine lv_iload_n hx hb dA_findWay_28 rfl (lv_at hl 3 rfl) ?_
            refine lv_aload_n hx hb dA_findWay_29 rfl (lv_at hl 1 rfl) ?_
            refine lv_iload_n hx hb dA_findWay_30 rfl (lv_at hl 2 rfl) ?_
            refine lv_aload_n hx hb dA_findWay_31 rfl (lv_at hl 0 rfl) ?_
            refine lv_aload_n hx hb dA_findWay_32 rfl (lv_at hl 0 rfl) ?_
            refine va_get (D := gD G) (ci := 0) (v := .int (nI d)) (C := "CircuitProver$Answer") (T := TA) (N := 8) hx hb htb inA hown hK hP 0 rfl rfl 3 (by decide) (htb _ b150) (fun _ h9 => h9) rfl dA_findWay_33 ?_
            refine lv_iload_n hx hb dA_findWay_36 rfl (lv_at hl 3 rfl) ?_
            refine lv_isub hx hb dA_findWay_37 ?_
            refine k_toi (y := nI (d - k)) (pk_sub (by omega)) ?_
            refine k_l (ws2 := fun u => [(qa, .inr (0, [.ref r1, .int (nI ns), .long re, .int (nI d), .ref r2, .int (nI lr), .int (nI rt), .long vi])), (r1, aJ G 64 na), (r2, aI G 64 w9), (qk, .inr (2, [.ref k1, .int (nI la), .int (nI ss), .int (nI ii), .int (nI ks), .ref k2, .ref k3, .ref k4, .long kb])), (k2, aJ G 48 kn), (k3, aJ G 8 ko)]) (wr := [(r2, aI G 64 w9), (qk, .inr (2, [.ref k1, .int (nI la), .int (nI ss), .int (nI ii), .int (nI ks), .ref k2, .ref k3, .ref k4, .long kb])), (k2, aJ G 48 kn), (k3, aJ G 8 ko)]) (k_runV (n := 1) (As := [.int (nI (d - k))]) (rest := [.int (nI sx), .ref qk, .int (nI k), .ref r2]) hx hb hml hown htb hP hD hK hS hA hE (k_A_nearSet l G H.size qa r1 r2 ns re (nI d) lr rt vi na (d - k) Nf (show 1 ≤ (d - k) ∧ (d - k) < 10000 from by omega) (show 1 ≤ ns ∧ ns ≤ 64 from by omega) (show ∀ j, j < ns → na j = Nf j from hna) (show ∀ j, ns - 1 ≤ j → Nf j = Nf (ns - 1) from hst)) b470 b472 s20 b5 b473 (by decide +kernel) rfl rfl ⟨by rw [hRf]; exact Nat.le_of_ble_eq_true rfl, by rw [hRl]; exact Nat.le_of_ble_eq_true rfl⟩ [0, 1] rfl (by decide) 0 rfl rfl rfl rfl hl.1 rfl (Nat.le_of_ble_eq_true rfl) dA_findWay_38 ⟨Nat.zero_le _, Nat.zero_le _⟩) hP hD hS hA [0, 1] [2, 3, 4, 5] [4, 5, 0, 1, 2, 3] rfl rfl (by decide) (by decide) (fun u => rfl) (by decide) (fun r u H locs hw hP hD hS => ?_)
            obtain ⟨rfl, rfl⟩ := hw
            have hP : va_P (gD G) vC [(qa, .inr (0, [.ref r1, .int (nI ns), .long re, .int (nI d), .ref r2, .int (nI lr), .int (nI rt), .long vi])), (r1, aJ G 64 na), (r2, aI G 64 w9), (qk, .inr (2, [.ref k1, .int (nI la), .int (nI ss), .int (nI ii), .int (nI ks), .ref k2, .ref k3, .ref k4, .long kb])), (k2, aJ G 48 kn), (k3, aJ G 8 ko)] H := hP
            have hD : va_D A [(qa, .inr (0, [.ref r1, .int (nI ns), .long re, .int (nI d), .ref r2, .int (nI lr), .int (nI rt), .long vi])), (r1, aJ G 64 na), (r2, aI G 64 w9), (qk, .inr (2, [.ref k1, .int (nI la), .int (nI ss), .int (nI ii), .int (nI ks), .ref k2, .ref k3, .ref k4, .long kb])), (k2, aJ G 48 kn), (k3, aJ G 8 ko)] := hD
            refine k_i (ws2 := fun u => [(qa, .inr (0, [.ref r1, .int (nI ns), .long re, .int (nI d), .ref r2, .int (nI lr), .int (nI rt), .long vi])), (r1, aJ G 64 na), (r2, aI G 64 w9), (qk, .inr (2, [.ref k1, .int (nI la), .int (nI ss), .int (nI ii), .int (nI ks), .ref k2, .ref k3, .ref k4, .long kb])), (k2, aJ G 48 kn), (k3, aJ G 8 ko)]) (wr := [(qa, .inr (0, [.ref r1, .int (nI ns), .long re, .int (nI d), .ref r2, .int (nI lr), .int (nI rt), .long vi])), (r1, aJ G 64 na), (r2, aI G 64 w9), (k3, aJ G 8 ko)]) (k_runS (n := 3) (As := [.ref qk, .int (nI sx), .long (Nf ((d - k) - 1))]) (rest := [.int (nI k), .ref r2]) (wc := [(qk, .inr (2, [.ref k1, .int (nI la), .int (nI ss), .int (nI ii), .int (nI ks), .ref k2, .ref k3, .ref k4, .long kb])), (k2, aJ G 48 kn)]) hx hb hml hown htb hP hD hK hS hA hE (k_A_leastInputInto l G H.size qk k1 k2 k3 k4 la ss ii ks kb kn sx (Nf ((d - k) - 1)) (show la ≤ 6 from by omega) (show 1 ≤ ii ∧ ii ≤ 8 from by omega) (show sx < 64 from by omega)) b488 b489 b5 b490 (by decide +kernel) rfl rfl ⟨by rw [hRf]; exact Nat.le_of_ble_eq_true rfl, by rw [hRl]; exact Nat.le_of_ble_eq_true rfl⟩ [3, 4] rfl (by decide) rfl hl.1 rfl (Nat.le_of_ble_eq_true rfl) dA_findWay_41 ⟨Nat.zero_le _, Nat.zero_le _⟩) hP hD hS hA [3, 4] [0, 1, 2, 5] [0, 1, 2, 4, 5, 3] rfl rfl (by decide) (by decide) (fun u => rfl) (by decide) (fun r u H locs hw hP hD hS => ?_)
            obtain ⟨rfl, rfl⟩ := hw
            have hP : va_P (gD G) vC [(qa, .inr (0, [.ref r1, .int (nI ns), .long re, .int (nI d), .ref r2, .int (nI lr), .int (nI rt), .long vi])), (r1, aJ G 64 na), (r2, aI G 64 w9), (qk, .inr (2, [.ref k1, .int (nI la), .int (nI ss), .int (nI ii), .int (nI ks), .ref k2, .ref k3, .ref k4, .long kb])), (k2, aJ G 48 kn), (k3, aJ G 8 ko)] H := hP
            have hD : va_D A [(qa, .inr (0, [.ref r1, .int (nI ns), .long re, .int (nI d), .ref r2, .int (nI lr), .int (nI rt), .long vi])), (r1, aJ G 64 na), (r2, aI G 64 w9), (qk, .inr (2, [.ref k1, .int (nI la), .int (nI ss), .int (nI ii), .int (nI ks), .ref k2, .ref k3, .ref k4, .long kb])), (k2, aJ G 48 kn), (k3, aJ G 8 ko)] := hD
            have hls := (lst_spec (fun i => lb (Nf ((d - k) - 1)) (nxC kn la sx i)) (ii - 1)).1
            refine k_iast hx hb hK hP hD hS 2 rfl (k := k) (v := lst (fun i => lb (Nf ((d - k) - 1)) (nxC kn la sx i)) (ii - 1)) (by omega) (by decide) dA_findWay_44 (fun H locs hP hD hS => ?_)
            have hP : va_P (gD G) vC [(qa, .inr (0, [.ref r1, .int (nI ns), .long re, .int (nI d), .ref r2, .int (nI lr), .int (nI rt), .long vi])), (r1, aJ G 64 na), (r2, aI G 64 (va_up w9 k (lst (fun i => lb (Nf ((d - k) - 1)) (nxC kn la sx i)) (ii - 1)))), (qk, .inr (2, [.ref k1, .int (nI la), .int (nI ss), .int (nI ii), .int (nI ks), .ref k2, .ref k3, .ref k4, .long kb])), (k2, aJ G 48 kn), (k3, aJ G 8 ko)] H := hP
            have hD : va_D A [(qa, .inr (0, [.ref r1, .int (nI ns), .long re, .int (nI d), .ref r2, .int (nI lr), .int (nI rt), .long vi])), (r1, aJ G 64 na), (r2, aI G 64 (va_up w9 k (lst (fun i => lb (Nf ((d - k) - 1)) (nxC kn la sx i)) (ii - 1)))), (qk, .inr (2, [.ref k1, .int (nI la), .int (nI ss), .int (nI ii), .int (nI ks), .ref k2, .ref k3, .ref k4, .long kb])), (k2, aJ G 48 kn), (k3, aJ G 8 ko)] := hD
            refine lv_aload_n hx hb dA_findWay_45 rfl (lv_at hl 1 rfl) ?_
            refine lv_iload_n hx hb dA_findWay_46 rfl (lv_at hl 2 rfl) ?_
            refine lv_aload_n hx hb dA_findWay_47 rfl (lv_at hl 0 rfl) ?_
            refine va_get (D := gD G) (ci := 0) (v := .ref r2) (C := "CircuitProver$Answer") (T := TA) (N := 8) hx hb htb inA hown hK hP 0 rfl rfl 4 (by decide) (htb _ b152) (fun _ h9 => h9) rfl dA_findWay_48 ?_
            refine lv_iload_n hx hb dA_findWay_51 rfl (lv_at hl 3 rfl) ?_
            refine k_iald hx hb hK hP 2 rfl (k := k) (by omega) (by decide) dA_findWay_52 ?_
            refine k_toi (y := nI (lst (fun i => lb (Nf ((d - k) - 1)) (nxC kn la sx i)) (ii - 1))) (by rw [va_up_self]) ?_
            refine k_i (ws2 := fun u => [(qa, .inr (0, [.ref r1, .int (nI ns), .long re, .int (nI d), .ref r2, .int (nI lr), .int (nI rt), .long vi])), (r1, aJ G 64 na), (r2, aI G 64 (va_up w9 k (lst (fun i => lb (Nf ((d - k) - 1)) (nxC kn la sx i)) (ii - 1)))), (qk, .inr (2, [.ref k1, .int (nI la), .int (nI ss), .int (nI ii), .int (nI ks), .ref k2, .ref k3, .ref k4, .long kb])), (k2, aJ G 48 kn), (k3, aJ G 8 ko)]) (wr := [(qa, .inr (0, [.ref r1, .int (nI ns), .long re, .int (nI d), .ref r2, .int (nI lr), .int (nI rt), .long vi])), (r1, aJ G 64 na), (r2, aI G 64 (va_up w9 k (lst (fun i => lb (Nf ((d - k) - 1)) (nxC kn la sx i)) (ii - 1)))), (k3, aJ G 8 ko)]) (k_runV (n := 2) (As := [.int (nI sx), .int (nI (lst (fun i => lb (Nf ((d - k) - 1)) (nxC kn la sx i)) (ii - 1)))]) (rest := []) hx hb hml hown htb hP hD hK hS hA hE (k_K_next l G H.size qk k1 k2 k3 k4 la ss ii ks kb kn sx (lst (fun i => lb (Nf ((d - k) - 1)) (nxC kn la sx i)) (ii - 1)) (show la ≤ 6 from by omega) (show (lst (fun i => lb (Nf ((d - k) - 1)) (nxC kn la sx i)) (ii - 1)) < 8 from by omega) (show sx < 64 from by omega)) b491 b431 b432 b4 b433 (by decide +kernel) rfl rfl ⟨by rw [hRf]; exact Nat.le_of_ble_eq_true rfl, by rw [hRl]; exact Nat.le_of_ble_eq_true rfl⟩ [3, 4] rfl (by decide) 3 rfl rfl rfl rfl hl.1 rfl (Nat.le_of_ble_eq_true rfl) dA_findWay_53 ⟨Nat.zero_le _, Nat.zero_le _⟩) hP hD hS hA [3, 4] [0, 1, 2, 5] [0, 1, 2, 4, 5, 3] rfl rfl (by decide) (by decide) (fun u => rfl) (by decide) (fun r u H locs hw hP hD hS => ?_)
            obtain ⟨rfl, rfl⟩ := hw
            have hP : va_P (gD G) vC [(qa, .inr (0, [.ref r1, .int (nI ns), .long re, .int (nI d), .ref r2, .int (nI lr), .int (nI rt), .long vi])), (r1, aJ G 64 na), (r2, aI G 64 (va_up w9 k (lst (fun i => lb (Nf ((d - k) - 1)) (nxC kn la sx i)) (ii - 1)))), (qk, .inr (2, [.ref k1, .int (nI la), .int (nI ss), .int (nI ii), .int (nI ks), .ref k2, .ref k3, .ref k4, .long kb])), (k2, aJ G 48 kn), (k3, aJ G 8 ko)] H := hP
            have hD : va_D A [(qa, .inr (0, [.ref r1, .int (nI ns), .long re, .int (nI d), .ref r2, .int (nI lr), .int (nI rt), .long vi])), (r1, aJ G 64 na), (r2, aI G 64 (va_up w9 k (lst (fun i => lb (Nf ((d - k) - 1)) (nxC kn la sx i)) (ii - 1)))), (qk, .inr (2, [.ref k1, .int (nI la), .int (nI ss), .int (nI ii), .int (nI ks), .ref k2, .ref k3, .ref k4, .long kb])), (k2, aJ G 48 kn), (k3, aJ G 8 ko)] := hD
            have hnx := nxC_lt kn la sx (lst (fun i => lb (Nf ((d - k) - 1)) (nxC kn la sx i)) (ii - 1))
            have hp2 := p2_le hla
            refine lv_istore_n (lv' := [(2, .int (nI (nxC kn la sx (lst (fun i => lb (Nf ((d - k) - 1)) (nxC kn la sx i)) (ii - 1))))), (0, .ref qa), (1, .ref qk), (3, .int (nI k))]) hx hb dA_findWay_56 rfl hl (by decide) rfl (fun ls hl => ?_)
            refine lv_iinc (v := nI (k + 1)) (lv' := [(3, .int (nI (k + 1))), (2, .int (nI (nxC kn la sx (lst (fun i => lb (Nf ((d - k) - 1)) (nxC kn la sx i)) (ii - 1))))), (0, .ref qa), (1, .ref qk)]) hx hb dA_findWay_57 hl (k := 3) rfl (nI_add _ 1) (by decide) rfl (fun ls hl => ?_)
            refine lv_goto (tgt := 7) hx hb dA_findWay_60 rfl ?_
            have hl : lv_has ls 4 [(0, .ref qa), (1, .ref qk), (2, .int (nI (nxC kn la sx (lst (fun i => lb (Nf ((d - k) - 1)) (nxC kn la sx i)) (ii - 1))))), (3, .int (nI (k + 1)))] := lv_sub hl [2, 3, 1, 0] rfl
            exact ih7 (nxC kn la sx (lst (fun i => lb (Nf ((d - k) - 1)) (nxC kn la sx i)) (ii - 1))) (k + 1) (va_up w9 k (lst (fun i => lb (Nf ((d - k) - 1)) (nxC kn la sx i)) (ii - 1))) _ _ _ (by omega) (by omega) (⟨by rw [hsx.1]; rfl, by omega⟩) (fun j hj => by by_cases e9 : j = k; (subst e9; rw [va_up_self]; unfold win; rw [← hsx.1]); (rw [va_up_ne _ _ e9]; exact ha j (by omega))) hP hD hS hl
    have hl : lv_has ls 4 [(0, .ref qa), (1, .ref qk), (2, .int (nI ks)), (3, .int (nI 0))] := lv_sub hl [2, 3, 1, 0] rfl
    exact loop7 (d - 0 + 1) ks 0 wy _ _ _ (by omega) (by omega) (⟨rfl, hks⟩) (fun j hj => absurd hj (Nat.not_lt_zero j)) hP hD hS hl
  rw [hH, hlc] at hgo
  exact hgo
set_option maxRecDepth 100000 in
set_option maxHeartbeats 4000000 in
theorem k_A_prove (l : Launch) (G : GG) (sz : Nat) (qa : Nat) (r1 : Nat) (r2 : Nat) (ns : Nat) (re : Int64) (sp : Int32) (lr : Nat) (rt : Nat) (vi : Int64) (na : Nat → Int64) (qk : Nat) (k1 : Nat) (k2 : Nat) (k3 : Nat) (k4 : Nat) (la : Nat) (ss : Nat) (ii : Nat) (ks : Nat) (kb : Int64) (ka : Nat → Int64) (nx : Nat → Nat → Nat) (Nf : Nat → Int64) (hz : ss ≤ 64) (hka : ∀ sx, sx < ss → ka sx = aftOf ii nx sx) (hn6 : ∀ sx i, sx < ss → i < ii → nx sx i < 64) (hns : 1 ≤ ns ∧ ns ≤ 64) (hna : ∀ j, j < ns → na j = Nf j) (hst : ∀ j, ns - 1 ≤ j → Nf j = Nf (ns - 1)) (hla : la ≤ 6) (hks : ks < 64) (hcl : ∀ r, (r &&& Nf 63) = 0 → (postOf ss ii nx r &&& Nf 63) = 0) (hs0 : ∀ k, (sg ks &&& Nf k) = 0) : Kv l yA_prove cA_prove 6 3 63 0 0 G [.ref qa, .ref qk] [(qa, .inr (0, [.ref r1, .int (nI ns), .long re, .int sp, .ref r2, .int (nI lr), .int (nI rt), .long vi])), (r1, aJ G 64 na), (qk, .inr (2, [.ref k1, .int (nI la), .int (nI ss), .int (nI ii), .int (nI ks), .ref k2, .ref k3, .ref k4, .long kb])), (k4, aJ G 64 ka)] sz (fun (u : Nat × Nat × Int64) => (((prf (postOf ss ii nx) (nrF Nf) wid la (sg ks) 4159 1 (sg ks) 0).1, (prf (postOf ss ii nx) (nrF Nf) wid la (sg ks) 4159 1 (sg ks) 0).2.2, (prf (postOf ss ii nx) (nrF Nf) wid la (sg ks) 4159 1 (sg ks) 0).2.1) = u)) (fun (u : Nat × Nat × Int64) => [(qa, .inr (0, [.ref r1, .int (nI ns), .long re, .int sp, .ref r2, .int (nI u.1), .int (nI u.2.1), .long u.2.2])), (r1, aJ G 64 na), (qk, .inr (2, [.ref k1, .int (nI la), .int (nI ss), .int (nI ii), .int (nI ks), .ref k2, .ref k3, .ref k4, .long kb])), (k4, aJ G 64 ka)]) := by
  refine Met.ofW (cc := cA_prove) (maxL := 6) (ret := none) (by decide) rfl ?_
  intro p e s m args below meth c s₁ B hml hv
  obtain ⟨hav, hsz, hP, hK, hD0, hE⟩ := hv
  have hx := B.exec
  have hb := B.bytes
  have hr := B.returns
  have htb : ∀ w ∈ TB, w.before args s = true := fun w h => atoms_spec (ws := Cond.code yA_prove cA_prove 6 none :: TB) B.pre w (List.mem_cons_of_mem _ h)
  have hown : s.vm.findClass "CircuitProver$Answer" = some m.cls := findClass_of_methodNamed B.named
  have hlocks := B.notSynchronized
  subst hsz
  have hD := hD0.self (sz := s.heap.size)
  clear hD0
  generalize hRm : (headSpec (Cond.code yA_prove cA_prove 6 none :: TB) { frames := 3, cells := 0, slots := 0, locals := 63 }).room = R
  have hRf : R.frames = 3 := by rw [← hRm]; rfl
  have hRl : R.locals = 63 := by rw [← hRm]; rfl
  have hRc : R.cells = 0 := by rw [← hRm]; rfl
  have hRs : R.slots = 0 := by rw [← hRm]; rfl
  clear hRm
  generalize hAe : va_A [(qa, .inr (0, [.ref r1, .int (nI ns), .long re, .int sp, .ref r2, .int (nI lr), .int (nI rt), .long vi])), (r1, aJ G 64 na), (qk, .inr (2, [.ref k1, .int (nI la), .int (nI ss), .int (nI ii), .int (nI ks), .ref k2, .ref k3, .ref k4, .long kb])), (k4, aJ G 64 ka)] s.heap.size = A at hD hE ⊢
  have hA : ∀ q : Nat, s.heap.size ≤ q → A q := fun q h => by rw [← hAe]; exact Or.inr h
  clear hAe
  have hS : va_S A s.heap s.heap [] := va_S.rf
  have hl := lv_entry ([.ref qa, .ref qk]) (n := 6) (Nat.le_of_ble_eq_true rfl)
  have hent := lg_entry_eq m ([.ref qa, .ref qk]) 6
  rw [← hav] at hent
  rw [hent]
  clear hent hav
  generalize (lg_sl ([.ref qa, .ref qk]) ++ List.replicate (6 - (lg_sl ([.ref qa, .ref qk])).length) Slot.unset).toArray = ls at hl ⊢
  have hl : lv_has ls 6 [(0, .ref qa), (1, .ref qk)] := hl
  generalize hQ : MQ below _ args s 0 0 _ = Q
  have hP : va_P (gD G) vC [(qa, .inr (0, [.ref r1, .int (nI ns), .long re, .int sp, .ref r2, .int (nI lr), .int (nI rt), .long vi])), (r1, aJ G 64 na), (qk, .inr (2, [.ref k1, .int (nI la), .int (nI ss), .int (nI ii), .int (nI ks), .ref k2, .ref k3, .ref k4, .long kb])), (k4, aJ G 64 ka)] s.heap := hP
  obtain ⟨H, hH⟩ : ∃ H : Heap, H = s.heap := ⟨_, rfl⟩
  obtain ⟨locs, hlc⟩ : ∃ L : List Loc, L = [] := ⟨_, rfl⟩
  have hS : va_S A s.heap H locs := by rw [hH, hlc]; exact hS
  have hP : va_P (gD G) vC [(qa, .inr (0, [.ref r1, .int (nI ns), .long re, .int sp, .ref r2, .int (nI lr), .int (nI rt), .long vi])), (r1, aJ G 64 na), (qk, .inr (2, [.ref k1, .int (nI la), .int (nI ss), .int (nI ii), .int (nI ks), .ref k2, .ref k3, .ref k4, .long kb])), (k4, aJ G 64 ka)] H := by rw [hH]; exact hP
  have hgo : W p l e R s m args below meth c H locs 0 0 Q (F0 m 0 ls []) := by
    clear hH hlc
    refine lv_lconst (v := 1) hx hb dA_prove_0 (by decide) ?_
    refine lv_aload_n hx hb dA_prove_1 rfl (lv_at hl 1 rfl) ?_
    refine va_getN (D := gD G) (ci := 2) (v := .int (nI ks)) (C := "CircuitProver$Machine") (T := TK) (N := 9) hx hb htb inK hown hK hP 2 rfl rfl 4 (by decide) (va_Nw.use rfl (hE.nw n112)) (fun _ h9 => h9) rfl dA_prove_2 ?_
    refine lv_lshl (v := sg ks) hx hb dA_prove_5 rfl ?_
    refine lv_lstore_n (lv' := [(2, .long (sg ks)), (0, .ref qa), (1, .ref qk)]) hx hb dA_prove_6 rfl hl (by decide) rfl (fun ls hl => ?_)
    refine lv_aload_n hx hb dA_prove_7 rfl (lv_at hl 1 rfl) ?_
    refine lv_lload_n hx hb dA_prove_8 rfl (lv_at hl 0 rfl) ?_
    refine va_put (D := gD G) (ci := 0) (v := .long (sg ks)) (ty := tyA 7) (C := "CircuitProver$Answer") (T := TA) (N := 8) hx hb htb inA tyA tyA_ok nmA hown hK hP hD hS 0 rfl rfl 7 (by decide) (htb _ b158) (fun _ h9 => h9) rfl (tyA_ok 7 (by decide)) rfl rfl (Nat.le_of_ble_eq_true rfl) dA_prove_9 (fun H locs hP hD hS => ?_)
    have hP : va_P (gD G) vC [(qa, .inr (0, [.ref r1, .int (nI ns), .long re, .int sp, .ref r2, .int (nI lr), .int (nI rt), .long (sg ks)])), (r1, aJ G 64 na), (qk, .inr (2, [.ref k1, .int (nI la), .int (nI ss), .int (nI ii), .int (nI ks), .ref k2, .ref k3, .ref k4, .long kb])), (k4, aJ G 64 ka)] H := hP
    have hD : va_D A [(qa, .inr (0, [.ref r1, .int (nI ns), .long re, .int sp, .ref r2, .int (nI lr), .int (nI rt), .long (sg ks)])), (r1, aJ G 64 na), (qk, .inr (2, [.ref k1, .int (nI la), .int (nI ss), .int (nI ii), .int (nI ks), .ref k2, .ref k3, .ref k4, .long kb])), (k4, aJ G 64 ka)] := hD
    refine lv_aload_n hx hb dA_prove_12 rfl (lv_at hl 1 rfl) ?_
    refine lv_iconst (v := nI 1) hx hb dA_prove_13 (by decide) ?_
    refine va_put (D := gD G) (ci := 0) (v := .int (nI 1)) (ty := tyA 5) (C := "CircuitProver$Answer") (T := TA) (N := 8) hx hb htb inA tyA tyA_ok nmA hown hK hP hD hS 0 rfl rfl 5 (by decide) (htb _ b154) (fun _ h9 => h9) rfl (tyA_ok 5 (by decide)) rfl rfl (Nat.le_of_ble_eq_true rfl) dA_prove_14 (fun H locs hP hD hS => ?_)
    have hP : va_P (gD G) vC [(qa, .inr (0, [.ref r1, .int (nI ns), .long re, .int sp, .ref r2, .int (nI 1), .int (nI rt), .long (sg ks)])), (r1, aJ G 64 na), (qk, .inr (2, [.ref k1, .int (nI la), .int (nI ss), .int (nI ii), .int (nI ks), .ref k2, .ref k3, .ref k4, .long kb])), (k4, aJ G 64 ka)] H := hP
    have hD : va_D A [(qa, .inr (0, [.ref r1, .int (nI ns), .long re, .int sp, .ref r2, .int (nI 1), .int (nI rt), .long (sg ks)])), (r1, aJ G 64 na), (qk, .inr (2, [.ref k1, .int (nI la), .int (nI ss), .int (nI ii), .int (nI ks), .ref k2, .ref k3, .ref k4, .long kb])), (k4, aJ G 64 ka)] := hD
    refine lv_aload_n hx hb dA_prove_17 rfl (lv_at hl 1 rfl) ?_
    refine lv_iconst (v := nI 1) hx hb dA_prove_18 (by decide) ?_
    refine va_put (D := gD G) (ci := 0) (v := .int (nI 1)) (ty := tyA 6) (C := "CircuitProver$Answer") (T := TA) (N := 8) hx hb htb inA tyA tyA_ok nmA hown hK hP hD hS 0 rfl rfl 6 (by decide) (htb _ b156) (fun _ h9 => h9) rfl (tyA_ok 6 (by decide)) rfl rfl (Nat.le_of_ble_eq_true rfl) dA_prove_19 (fun H locs hP hD hS => ?_)
    have hP : va_P (gD G) vC [(qa, .inr (0, [.ref r1, .int (nI ns), .long re, .int sp, .ref r2, .int (nI 1), .int (nI 1), .long (sg ks)])), (r1, aJ G 64 na), (qk, .inr (2, [.ref k1, .int (nI la), .int (nI ss), .int (nI ii), .int (nI ks), .ref k2, .ref k3, .ref k4, .long kb])), (k4, aJ G 64 ka)] H := hP
    have hD : va_D A [(qa, .inr (0, [.ref r1, .int (nI ns), .long re, .int sp, .ref r2, .int (nI 1), .int (nI 1), .long (sg ks)])), (r1, aJ G 64 na), (qk, .inr (2, [.ref k1, .int (nI la), .int (nI ss), .int (nI ii), .int (nI ks), .ref k2, .ref k3, .ref k4, .long kb])), (k4, aJ G 64 ka)] := hD
    have loop22 : ∀ (n : Nat) (lv9 : Nat) (rv : Nat) (vv : Int64) (f : Nat) (n9 : Nat) (H : Heap) (locs : List Loc) (ls : Array Slot), f < n → (f + n9 = 4159 ∧ rv = n9 + 1) → (1 ≤ lv9 ∧ lv9 ≤ 64) → ((vv &&& nrF Nf lv9) = 0) → (rmu lv9 vv < f) → (prf (postOf ss ii nx) (nrF Nf) wid la (sg ks) f lv9 vv n9 = prf (postOf ss ii nx) (nrF Nf) wid la (sg ks) 4159 1 (sg ks) 0) → va_P (gD G) vC [(qa, .inr (0, [.ref r1, .int (nI ns), .long re, .int sp, .ref r2, .int (nI lv9), .int (nI rv), .long vv])), (r1, aJ G 64 na), (qk, .inr (2, [.ref k1, .int (nI la), .int (nI ss), .int (nI ii), .int (nI ks), .ref k2, .ref k3, .ref k4, .long kb])), (k4, aJ G 64 ka)] H → va_D A [(qa, .inr (0, [.ref r1, .int (nI ns), .long re, .int sp, .ref r2, .int (nI lv9), .int (nI rv), .long vv])), (r1, aJ G 64 na), (qk, .inr (2, [.ref k1, .int (nI la), .int (nI ss), .int (nI ii), .int (nI ks), .ref k2, .ref k3, .ref k4, .long kb])), (k4, aJ G 64 ka)] → va_S A s.heap H locs → lv_has ls 6 [(0, .ref qa), (1, .ref qk), (2, .long (sg ks))] → W p l e R s m args below meth c H locs 0 0 Q (F0 m 22 ls []) := by
      intro n
      induction n with
      | zero => intro lv9 rv vv f n9 H locs ls hmu; omega
      | succ n ih =>
        intro lv9 rv vv f n9 H locs ls hmu hf hK9 hd9 hm9 he9 hP hD hS hl
        have ih22 := ih
        clear ih
        obtain ⟨f, rfl⟩ : ∃ g, f = g + 1 := ⟨f - 1, by omega⟩
        refine lv_aload_n hx hb dA_prove_22 rfl (lv_at hl 0 rfl) ?_
        refine va_get (D := gD G) (ci := 0) (v := .int (nI rv)) (C := "CircuitProver$Answer") (T := TA) (N := 8) hx hb htb inA hown hK hP 0 rfl rfl 6 (by decide) (htb _ b156) (fun _ h9 => h9) rfl dA_prove_23 ?_
        refine lv_sipush (v := nI 4160) hx hb dA_prove_26 (by decide) ?_
        refine lv_icmp_ge (tgt := 129) hx hb dA_prove_29 rfl (fun h29 => ?_) (fun h29 => ?_)
        · have h29 : 4160 ≤ rv := (nI_leI (a := 4160) (b := rv) (by omega) (by omega)).mp h29
          exfalso; omega
        · have h29 : rv < 4160 := Nat.lt_of_not_le (fun z => h29 ((nI_leI (a := 4160) (b := rv) (by omega) (by omega)).mpr z))
          refine lv_aload_n hx hb dA_prove_32 rfl (lv_at hl 1 rfl) ?_
          refine lv_aload_n hx hb dA_prove_33 rfl (lv_at hl 0 rfl) ?_
          refine va_get (D := gD G) (ci := 0) (v := .long vv) (C := "CircuitProver$Answer") (T := TA) (N := 8) hx hb htb inA hown hK hP 0 rfl rfl 7 (by decide) (htb _ b158) (fun _ h9 => h9) rfl dA_prove_34 ?_
          refine k_l (ws2 := fun u => [(qa, .inr (0, [.ref r1, .int (nI ns), .long re, .int sp, .ref r2, .int (nI lv9), .int (nI rv), .long vv])), (r1, aJ G 64 na), (qk, .inr (2, [.ref k1, .int (nI la), .int (nI ss), .int (nI ii), .int (nI ks), .ref k2, .ref k3, .ref k4, .long kb])), (k4, aJ G 64 ka)]) (wr := [(qa, .inr (0, [.ref r1, .int (nI ns), .long re, .int sp, .ref r2, .int (nI lv9), .int (nI rv), .long vv])), (r1, aJ G 64 na)]) (k_runV (n := 1) (As := [.long vv]) (rest := []) hx hb hml hown htb hP hD hK hS hA hE (k_K_post l G H.size qk k1 k2 k3 k4 la ss ii ks kb ka vv (show ss ≤ 64 from by omega)) b453 b454 b455 b4 b456 (by decide +kernel) rfl rfl ⟨by rw [hRf]; exact Nat.le_of_ble_eq_true rfl, by rw [hRl]; exact Nat.le_of_ble_eq_true rfl⟩ [2, 3] rfl (by decide) 2 rfl rfl rfl rfl hl.1 rfl (Nat.le_of_ble_eq_true rfl) dA_prove_37 ⟨Nat.zero_le _, Nat.zero_le _⟩) hP hD hS hA [2, 3] [0, 1] [0, 1, 2, 3] rfl rfl (by decide) (by decide) (fun u => rfl) (by decide) (fun r u H locs hw hP hD hS => ?_)
          obtain ⟨rfl, rfl⟩ := hw
          have hP : va_P (gD G) vC [(qa, .inr (0, [.ref r1, .int (nI ns), .long re, .int sp, .ref r2, .int (nI lv9), .int (nI rv), .long vv])), (r1, aJ G 64 na), (qk, .inr (2, [.ref k1, .int (nI la), .int (nI ss), .int (nI ii), .int (nI ks), .ref k2, .ref k3, .ref k4, .long kb])), (k4, aJ G 64 ka)] H := hP
          have hD : va_D A [(qa, .inr (0, [.ref r1, .int (nI ns), .long re, .int sp, .ref r2, .int (nI lv9), .int (nI rv), .long vv])), (r1, aJ G 64 na), (qk, .inr (2, [.ref k1, .int (nI la), .int (nI ss), .int (nI ii), .int (nI ks), .ref k2, .ref k3, .ref k4, .long kb])), (k4, aJ G 64 ka)] := hD
          refine k_tol (y := postOf ss ii nx vv) (post_by hn6 hka _) ?_
          refine lv_lstore (lv' := [(4, .long (postOf ss ii nx vv)), (0, .ref qa), (1, .ref qk), (2, .long (sg ks))]) hx hb dA_prove_40 hl (by decide) rfl (fun ls hl => ?_)
          refine lv_lload hx hb dA_prove_42 (lv_at hl 0 rfl) ?_
          refine lv_aload_n hx hb dA_prove_44 rfl (lv_at hl 1 rfl) ?_
          refine lv_aload_n hx hb dA_prove_45 rfl (lv_at hl 1 rfl) ?_
          refine va_get (D := gD G) (ci := 0) (v := .int (nI lv9)) (C := "CircuitProver$Answer") (T := TA) (N := 8) hx hb htb inA hown hK hP 0 rfl rfl 5 (by decide) (htb _ b154) (fun _ h9 => h9) rfl dA_prove_46 ?_
          refine k_l (ws2 := fun u => [(qa, .inr (0, [.ref r1, .int (nI ns), .long re, .int sp, .ref r2, .int (nI lv9), .int (nI rv), .long vv])), (r1, aJ G 64 na), (qk, .inr (2, [.ref k1, .int (nI la), .int (nI ss), .int (nI ii), .int (nI ks), .ref k2, .ref k3, .ref k4, .long kb])), (k4, aJ G 64 ka)]) (wr := [(qk, .inr (2, [.ref k1, .int (nI la), .int (nI ss), .int (nI ii), .int (nI ks), .ref k2, .ref k3, .ref k4, .long kb])), (k4, aJ G 64 ka)]) (k_runV (n := 1) (As := [.int (nI lv9)]) (rest := [.long (postOf ss ii nx vv)]) hx hb hml hown htb hP hD hK hS hA hE (k_A_nearSet l G H.size qa r1 r2 ns re sp lv9 rv vv na lv9 Nf (show 1 ≤ lv9 ∧ lv9 < 10000 from by omega) (show 1 ≤ ns ∧ ns ≤ 64 from by omega) (show ∀ j, j < ns → na j = Nf j from hna) (show ∀ j, ns - 1 ≤ j → Nf j = Nf (ns - 1) from hst)) b470 b472 s20 b5 b473 (by decide +kernel) rfl rfl ⟨by rw [hRf]; exact Nat.le_of_ble_eq_true rfl, by rw [hRl]; exact Nat.le_of_ble_eq_true rfl⟩ [0, 1] rfl (by decide) 0 rfl rfl rfl rfl hl.1 rfl (Nat.le_of_ble_eq_true rfl) dA_prove_49 ⟨Nat.zero_le _, Nat.zero_le _⟩) hP hD hS hA [0, 1] [2, 3] [2, 3, 0, 1] rfl rfl (by decide) (by decide) (fun u => rfl) (by decide) (fun r u H locs hw hP hD hS => ?_)
          obtain ⟨rfl, rfl⟩ := hw
          have hP : va_P (gD G) vC [(qa, .inr (0, [.ref r1, .int (nI ns), .long re, .int sp, .ref r2, .int (nI lv9), .int (nI rv), .long vv])), (r1, aJ G 64 na), (qk, .inr (2, [.ref k1, .int (nI la), .int (nI ss), .int (nI ii), .int (nI ks), .ref k2, .ref k3, .ref k4, .long kb])), (k4, aJ G 64 ka)] H := hP
          have hD : va_D A [(qa, .inr (0, [.ref r1, .int (nI ns), .long re, .int sp, .ref r2, .int (nI lv9), .int (nI rv), .long vv])), (r1, aJ G 64 na), (qk, .inr (2, [.ref k1, .int (nI la), .int (nI ss), .int (nI ii), .int (nI ks), .ref k2, .ref k3, .ref k4, .long kb])), (k4, aJ G 64 ka)] := hD
          refine lv_land hx hb dA_prove_52 ?_
          refine lv_lconst (v := 0) hx hb dA_prove_53 (by decide) ?_
          refine W.lcmp hx hb dA_prove_54 ?_
          refine lv_if_eq (tgt := 76) hx hb dA_prove_55 rfl (fun h55 => ?_) (fun h55 => ?_)
          · have h55 : ((postOf ss ii nx vv) &&& (Nf (lv9 - 1))) = 0 := (lg_cmp_eq _ _).mp h55
            refine lv_aload_n hx hb dA_prove_76 rfl (lv_at hl 1 rfl) ?_
            refine lv_lload hx hb dA_prove_77 (lv_at hl 0 rfl) ?_
            refine lv_aload_n hx hb dA_prove_79 rfl (lv_at hl 2 rfl) ?_
            refine va_getN (D := gD G) (ci := 2) (v := .int (nI la)) (C := "CircuitProver$Machine") (T := TK) (N := 9) hx hb htb inK hown hK hP 2 rfl rfl 1 (by decide) (va_Nw.use rfl (hE.nw n108)) (fun _ h9 => h9) rfl dA_prove_80 ?_
            refine k_l (ws2 := fun u => [(qa, .inr (0, [.ref r1, .int (nI ns), .long re, .int sp, .ref r2, .int (nI lv9), .int (nI rv), .long vv])), (r1, aJ G 64 na), (qk, .inr (2, [.ref k1, .int (nI la), .int (nI ss), .int (nI ii), .int (nI ks), .ref k2, .ref k3, .ref k4, .long kb])), (k4, aJ G 64 ka)]) (wr := [(qk, .inr (2, [.ref k1, .int (nI la), .int (nI ss), .int (nI ii), .int (nI ks), .ref k2, .ref k3, .ref k4, .long kb])), (k4, aJ G 64 ka)]) (k_runV (n := 2) (As := [.long (postOf ss ii nx vv), .int (nI la)]) (rest := []) hx hb hml hown htb hP hD hK hS hA hE (k_A_widened l G H.size qa r1 r2 ns re sp lv9 rv vv na (postOf ss ii nx vv) la Nf (show la ≤ 6 from by omega) (show 1 ≤ lv9 ∧ lv9 ≤ 64 from by omega) (show 1 ≤ ns ∧ ns ≤ 64 from by omega) (show ∀ j, j < ns → na j = Nf j from hna) (show ∀ j, ns - 1 ≤ j → Nf j = Nf (ns - 1) from hst)) b475 b477 s21 b5 b478 (by decide +kernel) rfl rfl ⟨by rw [hRf]; exact Nat.le_of_ble_eq_true rfl, by rw [hRl]; exact Nat.le_of_ble_eq_true rfl⟩ [0, 1] rfl (by decide) 0 rfl rfl rfl rfl hl.1 rfl (Nat.le_of_ble_eq_true rfl) dA_prove_83 ⟨Nat.zero_le _, Nat.zero_le _⟩) hP hD hS hA [0, 1] [2, 3] [2, 3, 0, 1] rfl rfl (by decide) (by decide) (fun u => rfl) (by decide) (fun r u H locs hw hP hD hS => ?_)
            obtain ⟨rfl, rfl⟩ := hw
            have hP : va_P (gD G) vC [(qa, .inr (0, [.ref r1, .int (nI ns), .long re, .int sp, .ref r2, .int (nI lv9), .int (nI rv), .long vv])), (r1, aJ G 64 na), (qk, .inr (2, [.ref k1, .int (nI la), .int (nI ss), .int (nI ii), .int (nI ks), .ref k2, .ref k3, .ref k4, .long kb])), (k4, aJ G 64 ka)] H := hP
            have hD : va_D A [(qa, .inr (0, [.ref r1, .int (nI ns), .long re, .int sp, .ref r2, .int (nI lv9), .int (nI rv), .long vv])), (r1, aJ G 64 na), (qk, .inr (2, [.ref k1, .int (nI la), .int (nI ss), .int (nI ii), .int (nI ks), .ref k2, .ref k3, .ref k4, .long kb])), (k4, aJ G 64 ka)] := hD
            refine lv_lstore (lv' := [(4, .long (widAll wid la (Nf (lv9 - 1)) (postOf ss ii nx vv))), (0, .ref qa), (1, .ref qk), (2, .long (sg ks))]) hx hb dA_prove_86 hl (by decide) rfl (fun ls hl => ?_)
            refine lv_lload hx hb dA_prove_88 (lv_at hl 0 rfl) ?_
            refine lv_aload_n hx hb dA_prove_90 rfl (lv_at hl 1 rfl) ?_
            refine va_get (D := gD G) (ci := 0) (v := .long vv) (C := "CircuitProver$Answer") (T := TA) (N := 8) hx hb htb inA hown hK hP 0 rfl rfl 7 (by decide) (htb _ b158) (fun _ h9 => h9) rfl dA_prove_91 ?_
            refine lv_ldc2 (v := (-1)) hx hb hown (htb _ b483) dA_prove_94 ?_
            refine lv_lxor hx hb dA_prove_97 ?_
            refine lv_land hx hb dA_prove_98 ?_
            refine lv_lconst (v := 0) hx hb dA_prove_99 (by decide) ?_
            refine W.lcmp hx hb dA_prove_100 ?_
            refine lv_if_ne (tgt := 105) hx hb dA_prove_101 rfl (fun h101 => ?_) (fun h101 => ?_)
            · have h101 : ¬ ((widAll wid la (Nf (lv9 - 1)) (postOf ss ii nx vv)) &&& (vv ^^^ (-1))) = 0 := fun z => h101 ((lg_cmp_eq _ _).mpr z)
              refine lv_aload_n hx hb dA_prove_105 rfl (lv_at hl 1 rfl) ?_
              refine lv_dup hx hb dA_prove_106 rfl ?_
              refine va_get (D := gD G) (ci := 0) (v := .long vv) (C := "CircuitProver$Answer") (T := TA) (N := 8) hx hb htb inA hown hK hP 0 rfl rfl 7 (by decide) (htb _ b158) (fun _ h9 => h9) rfl dA_prove_107 ?_
              refine lv_lload hx hb dA_prove_110 (lv_at hl 0 rfl) ?_
              refine lv_lor hx hb dA_prove_112 ?_
              refine va_put (D := gD G) (ci := 0) (v := .long (vv ||| (widAll wid la (Nf (lv9 - 1)) (postOf ss ii nx vv)))) (ty := tyA 7) (C := "CircuitProver$Answer") (T := TA) (N := 8) hx hb htb inA tyA tyA_ok nmA hown hK hP hD hS 0 rfl rfl 7 (by decide) (htb _ b158) (fun _ h9 => h9) rfl (tyA_ok 7 (by decide)) rfl rfl (Nat.le_of_ble_eq_true rfl) dA_prove_113 (fun H locs hP hD hS => ?_)
              have hP : va_P (gD G) vC [(qa, .inr (0, [.ref r1, .int (nI ns), .long re, .int sp, .ref r2, .int (nI lv9), .int (nI rv), .long (vv ||| (widAll wid la (Nf (lv9 - 1)) (postOf ss ii nx vv)))])), (r1, aJ G 64 na), (qk, .inr (2, [.ref k1, .int (nI la), .int (nI ss), .int (nI ii), .int (nI ks), .ref k2, .ref k3, .ref k4, .long kb])), (k4, aJ G 64 ka)] H := hP
              have hD : va_D A [(qa, .inr (0, [.ref r1, .int (nI ns), .long re, .int sp, .ref r2, .int (nI lv9), .int (nI rv), .long (vv ||| (widAll wid la (Nf (lv9 - 1)) (postOf ss ii nx vv)))])), (r1, aJ G 64 na), (qk, .inr (2, [.ref k1, .int (nI la), .int (nI ss), .int (nI ii), .int (nI ks), .ref k2, .ref k3, .ref k4, .long kb])), (k4, aJ G 64 ka)] := hD
              refine lv_aload_n hx hb dA_prove_116 rfl (lv_at hl 1 rfl) ?_
              refine lv_dup hx hb dA_prove_117 rfl ?_
              refine va_get (D := gD G) (ci := 0) (v := .int (nI rv)) (C := "CircuitProver$Answer") (T := TA) (N := 8) hx hb htb inA hown hK hP 0 rfl rfl 6 (by decide) (htb _ b156) (fun _ h9 => h9) rfl dA_prove_118 ?_
              refine lv_iconst (v := nI 1) hx hb dA_prove_121 (by decide) ?_
              refine lv_iadd hx hb dA_prove_122 ?_
              refine k_toi (y := nI (rv + 1)) (nI_add _ _) ?_
              refine va_put (D := gD G) (ci := 0) (v := .int (nI (rv + 1))) (ty := tyA 6) (C := "CircuitProver$Answer") (T := TA) (N := 8) hx hb htb inA tyA tyA_ok nmA hown hK hP hD hS 0 rfl rfl 6 (by decide) (htb _ b156) (fun _ h9 => h9) rfl (tyA_ok 6 (by decide)) rfl rfl (Nat.le_of_ble_eq_true rfl) dA_prove_123 (fun H locs hP hD hS => ?_)
              have hP : va_P (gD G) vC [(qa, .inr (0, [.ref r1, .int (nI ns), .long re, .int sp, .ref r2, .int (nI lv9), .int (nI (rv + 1)), .long (vv ||| (widAll wid la (Nf (lv9 - 1)) (postOf ss ii nx vv)))])), (r1, aJ G 64 na), (qk, .inr (2, [.ref k1, .int (nI la), .int (nI ss), .int (nI ii), .int (nI ks), .ref k2, .ref k3, .ref k4, .long kb])), (k4, aJ G 64 ka)] H := hP
              have hD : va_D A [(qa, .inr (0, [.ref r1, .int (nI ns), .long re, .int sp, .ref r2, .int (nI lv9), .int (nI (rv + 1)), .long (vv ||| (widAll wid la (Nf (lv9 - 1)) (postOf ss ii nx vv)))])), (r1, aJ G 64 na), (qk, .inr (2, [.ref k1, .int (nI la), .int (nI ss), .int (nI ii), .int (nI ks), .ref k2, .ref k3, .ref k4, .long kb])), (k4, aJ G 64 ka)] := hD
              refine lv_goto (tgt := 22) hx hb dA_prove_126 rfl ?_
              have hl : lv_has ls 6 [(0, .ref qa), (1, .ref qk), (2, .long (sg ks))] := lv_sub hl [1, 2, 3] rfl
              have hrn : rnd (postOf ss ii nx) (nrF Nf) wid la (sg ks) lv9 vv = some (lv9, (vv ||| (widAll wid la (Nf (lv9 - 1)) (postOf ss ii nx vv)))) := by unfold rnd; first | rw [if_pos (show (postOf ss ii nx vv &&& nrF Nf lv9) ≠ 0 from h55)] | (rw [if_neg (fun z => z (show (postOf ss ii nx vv &&& nrF Nf lv9) = 0 from h55)), if_neg (show ¬ (widAll wid la (nrF Nf lv9) (postOf ss ii nx vv) &&& (vv ^^^ (-1))) = 0 from h101)]; rfl)
              obtain ⟨w1, w2, w3, w4⟩ := rnd_falls (nr := nrF Nf) hcl (fun K _ _ => hs0 _) (sg_pos hks) hK9.1 hK9.2 hd9 hrn
              have w5 : prf (postOf ss ii nx) (nrF Nf) wid la (sg ks) f lv9 (vv ||| (widAll wid la (Nf (lv9 - 1)) (postOf ss ii nx vv))) (n9 + 1) = prf (postOf ss ii nx) (nrF Nf) wid la (sg ks) 4159 1 (sg ks) 0 := by rw [← he9, prf, hrn]
              exact ih22 lv9 (rv + 1) (vv ||| (widAll wid la (Nf (lv9 - 1)) (postOf ss ii nx vv))) f (n9 + 1) _ _ _ (by omega) (by omega) (⟨w1, w2⟩) w3 (by omega) w5 hP hD hS hl
            · have h101 : ((widAll wid la (Nf (lv9 - 1)) (postOf ss ii nx vv)) &&& (vv ^^^ (-1))) = 0 := (lg_cmp_eq _ _).mp h101
              have hrn : rnd (postOf ss ii nx) (nrF Nf) wid la (sg ks) lv9 vv = none := by unfold rnd; rw [if_neg (fun z => z (show (postOf ss ii nx vv &&& nrF Nf lv9) = 0 from h55)), if_pos (show (widAll wid la (nrF Nf lv9) (postOf ss ii nx vv) &&& (vv ^^^ (-1))) = 0 from h101)]
              have hpe : prf (postOf ss ii nx) (nrF Nf) wid la (sg ks) 4159 1 (sg ks) 0 = (lv9, vv, n9 + 1) := by rw [← he9, prf, hrn]
              -- end 0
              rw [← hQ]
              exact k_vret hx hb hr hlocks (u := (lv9, rv, vv)) (by rw [hpe, hf.2]) hP hD hK hS dA_prove_104
          · have h55 : ¬ ((postOf ss ii nx vv) &&& (Nf (lv9 - 1))) = 0 := fun z => h55 ((lg_cmp_eq _ _).mpr z)
            refine lv_aload_n hx hb dA_prove_58 rfl (lv_at hl 1 rfl) ?_
            refine lv_dup hx hb dA_prove_59 rfl ?_
            refine va_get (D := gD G) (ci := 0) (v := .int (nI lv9)) (C := "CircuitProver$Answer") (T := TA) (N := 8) hx hb htb inA hown hK hP 0 rfl rfl 5 (by decide) (htb _ b154) (fun _ h9 => h9) rfl dA_prove_60 ?_
            refine lv_iconst (v := nI 1) hx hb dA_prove_63 (by decide) ?_
            refine lv_iadd hx hb dA_prove_64 ?_
            refine k_toi (y := nI (lv9 + 1)) (nI_add _ _) ?_
            refine va_put (D := gD G) (ci := 0) (v := .int (nI (lv9 + 1))) (ty := tyA 5) (C := "CircuitProver$Answer") (T := TA) (N := 8) hx hb htb inA tyA tyA_ok nmA hown hK hP hD hS 0 rfl rfl 5 (by decide) (htb _ b154) (fun _ h9 => h9) rfl (tyA_ok 5 (by decide)) rfl rfl (Nat.le_of_ble_eq_true rfl) dA_prove_65 (fun H locs hP hD hS => ?_)
            have hP : va_P (gD G) vC [(qa, .inr (0, [.ref r1, .int (nI ns), .long re, .int sp, .ref r2, .int (nI (lv9 + 1)), .int (nI rv), .long vv])), (r1, aJ G 64 na), (qk, .inr (2, [.ref k1, .int (nI la), .int (nI ss), .int (nI ii), .int (nI ks), .ref k2, .ref k3, .ref k4, .long kb])), (k4, aJ G 64 ka)] H := hP
            have hD : va_D A [(qa, .inr (0, [.ref r1, .int (nI ns), .long re, .int sp, .ref r2, .int (nI (lv9 + 1)), .int (nI rv), .long vv])), (r1, aJ G 64 na), (qk, .inr (2, [.ref k1, .int (nI la), .int (nI ss), .int (nI ii), .int (nI ks), .ref k2, .ref k3, .ref k4, .long kb])), (k4, aJ G 64 ka)] := hD
            refine lv_aload_n hx hb dA_prove_68 rfl (lv_at hl 1 rfl) ?_
            refine lv_lload_n hx hb dA_prove_69 rfl (lv_at hl 3 rfl) ?_
            refine va_put (D := gD G) (ci := 0) (v := .long (sg ks)) (ty := tyA 7) (C := "CircuitProver$Answer") (T := TA) (N := 8) hx hb htb inA tyA tyA_ok nmA hown hK hP hD hS 0 rfl rfl 7 (by decide) (htb _ b158) (fun _ h9 => h9) rfl (tyA_ok 7 (by decide)) rfl rfl (Nat.le_of_ble_eq_true rfl) dA_prove_70 (fun H locs hP hD hS => ?_)
            have hP : va_P (gD G) vC [(qa, .inr (0, [.ref r1, .int (nI ns), .long re, .int sp, .ref r2, .int (nI (lv9 + 1)), .int (nI rv), .long (sg ks)])), (r1, aJ G 64 na), (qk, .inr (2, [.ref k1, .int (nI la), .int (nI ss), .int (nI ii), .int (nI ks), .ref k2, .ref k3, .ref k4, .long kb])), (k4, aJ G 64 ka)] H := hP
            have hD : va_D A [(qa, .inr (0, [.ref r1, .int (nI ns), .long re, .int sp, .ref r2, .int (nI (lv9 + 1)), .int (nI rv), .long (sg ks)])), (r1, aJ G 64 na), (qk, .inr (2, [.ref k1, .int (nI la), .int (nI ss), .int (nI ii), .int (nI ks), .ref k2, .ref k3, .ref k4, .long kb])), (k4, aJ G 64 ka)] := hD
            refine lv_goto (tgt := 116) hx hb dA_prove_73 rfl ?_
            refine lv_aload_n hx hb dA_prove_116 rfl (lv_at hl 1 rfl) ?_
            refine lv_dup hx hb dA_prove_117 rfl ?_
            refine va_get (D := gD G) (ci := 0) (v := .int (nI rv)) (C := "CircuitProver$Answer") (T := TA) (N := 8) hx hb htb inA hown hK hP 0 rfl rfl 6 (by decide) (htb _ b156) (fun _ h9 => h9) rfl dA_prove_118 ?_
            refine lv_iconst (v := nI 1) hx hb dA_prove_121 (by decide) ?_
            refine lv_iadd hx hb dA_prove_122 ?_
            refine k_toi (y := nI (rv + 1)) (nI_add _ _) ?_
            refine va_put (D := gD G) (ci := 0) (v := .int (nI (rv + 1))) (ty := tyA 6) (C := "CircuitProver$Answer") (T := TA) (N := 8) hx hb htb inA tyA tyA_ok nmA hown hK hP hD hS 0 rfl rfl 6 (by decide) (htb _ b156) (fun _ h9 => h9) rfl (tyA_ok 6 (by decide)) rfl rfl (Nat.le_of_ble_eq_true rfl) dA_prove_123 (fun H locs hP hD hS => ?_)
            have hP : va_P (gD G) vC [(qa, .inr (0, [.ref r1, .int (nI ns), .long re, .int sp, .ref r2, .int (nI (lv9 + 1)), .int (nI (rv + 1)), .long (sg ks)])), (r1, aJ G 64 na), (qk, .inr (2, [.ref k1, .int (nI la), .int (nI ss), .int (nI ii), .int (nI ks), .ref k2, .ref k3, .ref k4, .long kb])), (k4, aJ G 64 ka)] H := hP
            have hD : va_D A [(qa, .inr (0, [.ref r1, .int (nI ns), .long re, .int sp, .ref r2, .int (nI (lv9 + 1)), .int (nI (rv + 1)), .long (sg ks)])), (r1, aJ G 64 na), (qk, .inr (2, [.ref k1, .int (nI la), .int (nI ss), .int (nI ii), .int (nI ks), .ref k2, .ref k3, .ref k4, .long kb])), (k4, aJ G 64 ka)] := hD
            refine lv_goto (tgt := 22) hx hb dA_prove_126 rfl ?_
            have hl : lv_has ls 6 [(0, .ref qa), (1, .ref qk), (2, .long (sg ks))] := lv_sub hl [1, 2, 3] rfl
            have hrn : rnd (postOf ss ii nx) (nrF Nf) wid la (sg ks) lv9 vv = some ((lv9 + 1), (sg ks)) := by unfold rnd; first | rw [if_pos (show (postOf ss ii nx vv &&& nrF Nf lv9) ≠ 0 from h55)] | (rw [if_neg (fun z => z (show (postOf ss ii nx vv &&& nrF Nf lv9) = 0 from h55)), if_neg (show ¬ (widAll wid la (nrF Nf lv9) (postOf ss ii nx vv) &&& (vv ^^^ (-1))) = 0 from h101)]; rfl)
            obtain ⟨w1, w2, w3, w4⟩ := rnd_falls (nr := nrF Nf) hcl (fun K _ _ => hs0 _) (sg_pos hks) hK9.1 hK9.2 hd9 hrn
            have w5 : prf (postOf ss ii nx) (nrF Nf) wid la (sg ks) f (lv9 + 1) (sg ks) (n9 + 1) = prf (postOf ss ii nx) (nrF Nf) wid la (sg ks) 4159 1 (sg ks) 0 := by rw [← he9, prf, hrn]
            exact ih22 (lv9 + 1) (rv + 1) (sg ks) f (n9 + 1) _ _ _ (by omega) (by omega) (⟨w1, w2⟩) w3 (by omega) w5 hP hD hS hl
    have hl : lv_has ls 6 [(0, .ref qa), (1, .ref qk), (2, .long (sg ks))] := lv_sub hl [1, 2, 0] rfl
    exact loop22 (4159 + 1) 1 1 (sg ks) 4159 0 _ _ _ (by omega) (by omega) (by omega) (hs0 _) (rmu_0 (sg_pos hks)) rfl hP hD hS hl
  rw [hH, hlc] at hgo
  exact hgo
