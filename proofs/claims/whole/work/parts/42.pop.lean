def tN6 (x : Int64) : Nat := x.toBitVec.toNat
theorem tN6_lt (x : Int64) : tN6 x < 2 ^ 64 := x.toBitVec.isLt
theorem tN6_su (x : Int64) {k : Nat} (hk : k < 64) : tN6 (su x k) = tN6 x / 2 ^ k := by
  show (x.toUInt64 >>> ((nI k).toInt64.toUInt64 &&& Int64.toUInt64 63)).toBitVec.toNat = x.toUInt64.toBitVec.toNat / 2 ^ k
  rw [UInt64.toBitVec_shiftRight]
  show (x.toUInt64.toBitVec >>> (((nI k).toInt64.toUInt64 &&& Int64.toUInt64 63).toBitVec % 64).toNat).toNat = _
  rw [u64 k hk, BitVec.toNat_ushiftRight, Nat.shiftRight_eq_div_pow]
theorem tN6_and (x y : Int64) : tN6 (x &&& y) = tN6 x &&& tN6 y := by unfold tN6; rw [Int64.toBitVec_and, BitVec.toNat_and]
theorem tN6_add {x y : Int64} (h : tN6 x + tN6 y < 2 ^ 64) : tN6 (x + y) = tN6 x + tN6 y := by
  unfold tN6 at h ⊢
  rw [Int64.toBitVec_add, BitVec.toNat_add, Nat.mod_eq_of_lt h]
theorem tN6_sub {x y : Int64} (h : tN6 y ≤ tN6 x) : tN6 (x - y) = tN6 x - tN6 y := by
  unfold tN6 at h ⊢
  rw [Int64.toBitVec_sub, BitVec.toNat_sub_of_le (BitVec.le_def.mpr h)]
def q1 (x : Int64) : Int64 := x - (su x 1 &&& 6148914691236517205)
def q2 (x : Int64) : Int64 := (x &&& 3689348814741910323) + (su x 2 &&& 3689348814741910323)
def q3 (x : Int64) : Int64 := (x + su x 4) &&& 1085102592571150095
def q4 (x : Int64) : Int64 := x + su x 8
def q5 (x : Int64) : Int64 := x + su x 16
def q6 (x : Int64) : Int64 := x + su x 32
theorem cn_sm (x : Int64) (n : Nat) : cn x n = smN (bD (tN6 x)) n := by
  induction n with
  | zero => rfl
  | succ n ih =>
    rw [cn, smN, ih]
    congr 1
    have e : lb x n = (tN6 x).testBit n := rfl
    rw [e, Nat.testBit_eq_decide_div_mod_eq]
    unfold bD
    by_cases h : tN6 x / 2 ^ n % 2 = 1
    · rw [if_pos (by simp [h]), h]
    · rw [if_neg (by simp [h])]; omega
theorem pop_eq (x : Int64) : (Int64.toInt32 (q6 (q5 (q4 (q3 (q2 (q1 x))))))).toBitVec.toNat % 128 = cn x 64 := by
  obtain ⟨h0, h1, h2, h3, h4, h5, h6, h7⟩ := pc_all (tN6_lt x)
  have e1 : tN6 (q1 x) = pc1 (tN6 x) := by
    unfold q1 pc1
    have : tN6 (su x 1 &&& 6148914691236517205) = (tN6 x / 2 ^ 1) &&& 0x5555555555555555 := by rw [tN6_and, tN6_su x (by decide)]; rfl
    rw [tN6_sub (by rw [this]; exact h7), this]
  have e2 : tN6 (q2 (q1 x)) = pc2 (pc1 (tN6 x)) := by
    unfold q2 pc2
    have a1 : tN6 (q1 x &&& 3689348814741910323) = pc1 (tN6 x) &&& 0x3333333333333333 := by rw [tN6_and, e1]; rfl
    have a2 : tN6 (su (q1 x) 2 &&& 3689348814741910323) = (pc1 (tN6 x) / 2 ^ 2) &&& 0x3333333333333333 := by rw [tN6_and, tN6_su _ (by decide), e1]; rfl
    rw [tN6_add (by rw [a1, a2]; unfold pc2 at h3; omega), a1, a2]
  have e3 : tN6 (q3 (q2 (q1 x))) = pc3 (pc2 (pc1 (tN6 x))) := by
    unfold q3 pc3
    rw [tN6_and, tN6_add (by rw [tN6_su _ (by decide), e2]; omega), tN6_su _ (by decide), e2]; rfl
  have e4 : tN6 (q4 (q3 (q2 (q1 x)))) = pc4 (pc3 (pc2 (pc1 (tN6 x)))) := by
    unfold q4 pc4
    rw [tN6_add (by rw [tN6_su _ (by decide), e3]; omega), tN6_su _ (by decide), e3]
  have e5 : tN6 (q5 (q4 (q3 (q2 (q1 x))))) = pc5 (pc4 (pc3 (pc2 (pc1 (tN6 x))))) := by
    unfold q5 pc5
    rw [tN6_add (by rw [tN6_su _ (by decide), e4]; omega), tN6_su _ (by decide), e4]
  have e6 : tN6 (q6 (q5 (q4 (q3 (q2 (q1 x)))))) = pc6 (pc5 (pc4 (pc3 (pc2 (pc1 (tN6 x)))))) := by
    unfold q6 pc6
    rw [tN6_add (by rw [tN6_su _ (by decide), e5]; omega), tN6_su _ (by decide), e5]
  rw [cn_sm, ← h0, ← e6]
  rw [Int64.toBitVec_toInt32, BitVec.signExtend_eq_setWidth_of_le _ (by decide), BitVec.toNat_setWidth]
  show tN6 (q6 (q5 (q4 (q3 (q2 (q1 x)))))) % 2 ^ 32 % 128 = _
  rw [Nat.mod_mod_of_dvd _ (by decide)]
set_option maxRecDepth 100000 in
set_option maxHeartbeats 4000000 in
theorem k_J_bitCount (l : Launch) (G : GG) (sz : Nat) (x : Int64) : Ki l yJ_bitCount cJ_bitCount 2 .int 0 0 G [.long x] [] sz (fun (r : Int32) (u : Unit) => (nI (cn x 64) = r ∧ () = u)) (fun (u : Unit) => []) := by
  refine Met.ofW (cc := cJ_bitCount) (maxL := 2) (ret := (some .int)) (by decide) rfl ?_
  intro p e s m args below meth c s₁ B hml hv
  obtain ⟨hav, hsz, hP, hK, hD0, hE⟩ := hv
  have hx := B.exec
  have hb := B.bytes
  have hr := B.returns
  have htb : ∀ w ∈ TB, w.before args s = true := fun w h => atoms_spec (ws := Cond.code yJ_bitCount cJ_bitCount 2 (some .int) :: TB) B.pre w (List.mem_cons_of_mem _ h)
  have hown : s.vm.findClass "java/lang/Long" = some m.cls := findClass_of_methodNamed B.named
  have hlocks := B.notSynchronized
  subst hsz
  have hD := hD0.self (sz := s.heap.size)
  clear hD0
  generalize hRm : (headSpec (Cond.code yJ_bitCount cJ_bitCount 2 (some .int) :: TB) { frames := 0, cells := 0, slots := 0, locals := 0 }).room = R
  have hRf : R.frames = 0 := by rw [← hRm]; rfl
  have hRl : R.locals = 0 := by rw [← hRm]; rfl
  have hRc : R.cells = 0 := by rw [← hRm]; rfl
  have hRs : R.slots = 0 := by rw [← hRm]; rfl
  clear hRm
  generalize hAe : va_A [] s.heap.size = A at hD hE ⊢
  have hA : ∀ q : Nat, s.heap.size ≤ q → A q := fun q h => by rw [← hAe]; exact Or.inr h
  clear hAe
  have hS : va_S A s.heap s.heap [] := va_S.rf
  have hl := lv_entry ([.long x]) (n := 2) (Nat.le_of_ble_eq_true rfl)
  have hent := lg_entry_eq m ([.long x]) 2
  rw [← hav] at hent
  rw [hent]
  clear hent hav
  generalize (lg_sl ([.long x]) ++ List.replicate (2 - (lg_sl ([.long x])).length) Slot.unset).toArray = ls at hl ⊢
  have hl : lv_has ls 2 [(0, .long x)] := hl
  generalize hQ : MQ below _ args s 0 0 _ = Q
  have hP : va_P (gD G) vC [] s.heap := hP
  obtain ⟨H, hH⟩ : ∃ H : Heap, H = s.heap := ⟨_, rfl⟩
  obtain ⟨locs, hlc⟩ : ∃ L : List Loc, L = [] := ⟨_, rfl⟩
  have hS : va_S A s.heap H locs := by rw [hH, hlc]; exact hS
  have hP : va_P (gD G) vC [] H := by rw [hH]; exact hP
  have hgo : W p l e R s m args below meth c H locs 0 0 Q (F0 m 0 ls []) := by
    clear hH hlc
    refine lv_lload_n hx hb dJ_bitCount_0 rfl (lv_at hl 0 rfl) ?_
    refine lv_lload_n hx hb dJ_bitCount_1 rfl (lv_at hl 0 rfl) ?_
    refine lv_iconst (v := nI 1) hx hb dJ_bitCount_2 (by decide) ?_
    refine lv_lushr (v := su x 1) hx hb dJ_bitCount_3 rfl ?_
    refine lv_ldc2 (v := 6148914691236517205) hx hb hown (htb _ b638) dJ_bitCount_4 ?_
    refine lv_land hx hb dJ_bitCount_7 ?_
    refine lv_lsub hx hb dJ_bitCount_8 ?_
    refine k_tol (y := q1 x) (rfl) ?_
    refine lv_lstore_n (lv' := [(0, .long (q1 x))]) hx hb dJ_bitCount_9 rfl hl (by decide) rfl (fun ls hl => ?_)
    refine lv_lload_n hx hb dJ_bitCount_10 rfl (lv_at hl 0 rfl) ?_
    refine lv_ldc2 (v := 3689348814741910323) hx hb hown (htb _ b639) dJ_bitCount_11 ?_
    refine lv_land hx hb dJ_bitCount_14 ?_
    refine lv_lload_n hx hb dJ_bitCount_15 rfl (lv_at hl 0 rfl) ?_
    refine lv_iconst (v := nI 2) hx hb dJ_bitCount_16 (by decide) ?_
    refine lv_lushr (v := su (q1 x) 2) hx hb dJ_bitCount_17 rfl ?_
    refine lv_ldc2 (v := 3689348814741910323) hx hb hown (htb _ b639) dJ_bitCount_18 ?_
    refine lv_land hx hb dJ_bitCount_21 ?_
    refine lv_ladd hx hb dJ_bitCount_22 ?_
    refine k_tol (y := q2 (q1 x)) (rfl) ?_
    refine lv_lstore_n (lv' := [(0, .long (q2 (q1 x)))]) hx hb dJ_bitCount_23 rfl hl (by decide) rfl (fun ls hl => ?_)
    refine lv_lload_n hx hb dJ_bitCount_24 rfl (lv_at hl 0 rfl) ?_
    refine lv_lload_n hx hb dJ_bitCount_25 rfl (lv_at hl 0 rfl) ?_
    refine lv_iconst (v := nI 4) hx hb dJ_bitCount_26 (by decide) ?_
    refine lv_lushr (v := su (q2 (q1 x)) 4) hx hb dJ_bitCount_27 rfl ?_
    refine lv_ladd hx hb dJ_bitCount_28 ?_
    refine lv_ldc2 (v := 1085102592571150095) hx hb hown (htb _ b640) dJ_bitCount_29 ?_
    refine lv_land hx hb dJ_bitCount_32 ?_
    refine k_tol (y := q3 (q2 (q1 x))) (rfl) ?_
    refine lv_lstore_n (lv' := [(0, .long (q3 (q2 (q1 x))))]) hx hb dJ_bitCount_33 rfl hl (by decide) rfl (fun ls hl => ?_)
    refine lv_lload_n hx hb dJ_bitCount_34 rfl (lv_at hl 0 rfl) ?_
    refine lv_lload_n hx hb dJ_bitCount_35 rfl (lv_at hl 0 rfl) ?_
    refine lv_bipush (v := nI 8) hx hb dJ_bitCount_36 (by decide) ?_
    refine lv_lushr (v := su (q3 (q2 (q1 x))) 8) hx hb dJ_bitCount_38 rfl ?_
    refine lv_ladd hx hb dJ_bitCount_39 ?_
    refine k_tol (y := q4 (q3 (q2 (q1 x)))) (rfl) ?_
    refine lv_lstore_n (lv' := [(0, .long (q4 (q3 (q2 (q1 x)))))]) hx hb dJ_bitCount_40 rfl hl (by decide) rfl (fun ls hl => ?_)
    refine lv_lload_n hx hb dJ_bitCount_41 rfl (lv_at hl 0 rfl) ?_
    refine lv_lload_n hx hb dJ_bitCount_42 rfl (lv_at hl 0 rfl) ?_
    refine lv_bipush (v := nI 16) hx hb dJ_bitCount_43 (by decide) ?_
    refine lv_lushr (v := su (q4 (q3 (q2 (q1 x)))) 16) hx hb dJ_bitCount_45 rfl ?_
    refine lv_ladd hx hb dJ_bitCount_46 ?_
    refine k_tol (y := q5 (q4 (q3 (q2 (q1 x))))) (rfl) ?_
    refine lv_lstore_n (lv' := [(0, .long (q5 (q4 (q3 (q2 (q1 x))))))]) hx hb dJ_bitCount_47 rfl hl (by decide) rfl (fun ls hl => ?_)
    refine lv_lload_n hx hb dJ_bitCount_48 rfl (lv_at hl 0 rfl) ?_
    refine lv_lload_n hx hb dJ_bitCount_49 rfl (lv_at hl 0 rfl) ?_
    refine lv_bipush (v := nI 32) hx hb dJ_bitCount_50 (by decide) ?_
    refine lv_lushr (v := su (q5 (q4 (q3 (q2 (q1 x))))) 32) hx hb dJ_bitCount_52 rfl ?_
    refine lv_ladd hx hb dJ_bitCount_53 ?_
    refine k_tol (y := q6 (q5 (q4 (q3 (q2 (q1 x)))))) (rfl) ?_
    refine lv_lstore_n (lv' := [(0, .long (q6 (q5 (q4 (q3 (q2 (q1 x)))))))]) hx hb dJ_bitCount_54 rfl hl (by decide) rfl (fun ls hl => ?_)
    refine lv_lload_n hx hb dJ_bitCount_55 rfl (lv_at hl 0 rfl) ?_
    refine lv_l2i (v := Int64.toInt32 (q6 (q5 (q4 (q3 (q2 (q1 x))))))) hx hb dJ_bitCount_56 rfl ?_
    refine lv_bipush (v := nI 127) hx hb dJ_bitCount_57 (by decide) ?_
    refine lv_iand hx hb dJ_bitCount_59 ?_
    refine k_toi (y := nI ((Int64.toInt32 (q6 (q5 (q4 (q3 (q2 (q1 x))))))).toBitVec.toNat % 128)) (pk_and _ 7 (by decide)) ?_
    refine k_toi (y := nI (cn x 64)) (by rw [pop_eq]) ?_
    -- end 0
    rw [← hQ]
    exact k_iret hx hb hr hlocks rfl (u := ()) (⟨rfl, rfl⟩) hP hD hK hS dJ_bitCount_60
  rw [hH, hlc] at hgo
  exact hgo
