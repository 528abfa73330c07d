theorem st_arr {args : Array Value} {s : State} {ty : FieldType} (h : (Cond.arrayClass ty).before args s = true) : ∃ cA : ClassId, ArrOfT s cA ty ∧ s.vm.findClass ("[" ++ ty.toString) = some cA := by
  obtain ⟨cA, kA, comp, h1, h2, h3⟩ := Cond.arrayClass_spec h
  exact ⟨cA, fun n z => ⟨fun k h => (by cases h), kA, h2, comp, h3⟩, h1⟩
theorem st_K {args : Array Value} {s : State} (htb : ∀ w ∈ TB, w.before args s = true) : ∃ G : GG, va_K (gD G) vC (tyG G) s := by
  obtain ⟨c0, i0, g0⟩ := u_known htb inA (htb _ b141)
  obtain ⟨c1, i1, g1⟩ := u_known htb inD (htb _ b178)
  obtain ⟨c2, i2, g2⟩ := u_known htb inK (htb _ b99)
  obtain ⟨c3, i3, g3⟩ := u_known htb inN (htb _ b50)
  obtain ⟨c4, i4, g4⟩ := u_known htb inT (htb _ b27)
  obtain ⟨c5, i5, g5⟩ := u_known htb inC (htb _ b19)
  obtain ⟨c6, i6, g6⟩ := u_known htb inM (htb _ b666)
  obtain ⟨rI, aI, fI⟩ := st_arr (htb _ b48)
  obtain ⟨rZ, aZ, fZ⟩ := st_arr (htb _ b96)
  obtain ⟨rB, aB, fB⟩ := st_arr (htb _ b47)
  obtain ⟨rJ, aJ, fJ⟩ := st_arr (htb _ b97)
  refine ⟨(fun c => match c with | 0 => c0 | 1 => c1 | 2 => c2 | 3 => c3 | 4 => c4 | 5 => c5 | _ => c6, fun c => match c with | 0 => i0 | 1 => i1 | 2 => i2 | 3 => i3 | 4 => i4 | 5 => i5 | _ => i6, rI, rZ, rB, rJ), fun c q hq => ?_, fun k q hq => ?_⟩
  · match c, hq with
    | 0, hq => cases hq; exact g0
    | 1, hq => cases hq; exact g1
    | 2, hq => cases hq; exact g2
    | 3, hq => cases hq; exact g3
    | 4, hq => cases hq; exact g4
    | 5, hq => cases hq; exact g5
    | 6, hq => cases hq; exact g6
    | c + 7, hq => cases hq
  · match k, hq with
    | 0, hq => cases hq; exact ⟨aI, fI⟩
    | 1, hq => cases hq; exact ⟨aZ, fZ⟩
    | 2, hq => cases hq; exact ⟨aB, fB⟩
    | 3, hq => cases hq; exact ⟨aJ, fJ⟩
    | k + 4, hq => cases hq
theorem st_nW : ∀ w ∈ nW, w ∈ lw_tbl := by decide +kernel
theorem st_nO : ∀ w ∈ nW, w.onTables = true := by decide +kernel
theorem st_dW : ∀ w ∈ dW, w ∈ lw_tbl := by decide +kernel
theorem st_dO : ∀ w ∈ dW, w.onTables = true := by decide +kernel
theorem st_x1 : ∀ w ∈ x1, w ∈ lw_tbl := by decide +kernel
theorem st_x2 : ∀ w ∈ x2, w ∈ lw_tbl := by decide +kernel
theorem st_x3 : ∀ w ∈ x3, w ∈ lw_tbl := by decide +kernel
theorem st_x4 : ∀ w ∈ x4, w ∈ lw_tbl := by decide +kernel
theorem st_lc : ∀ w ∈ lcW, w ∈ lw_tbl := by decide +kernel
theorem st_TBL : ∀ w ∈ TBL, w ∈ lw_tbl := by
  intro w h
  unfold TBL TBX at h
  rcases List.mem_append.mp h with h | h
  · rcases List.mem_append.mp h with h | h
    · exact tb_in h
    · rcases List.mem_append.mp h with h | h
      · exact st_x1 w h
      · rcases List.mem_append.mp h with h | h
        · exact st_x2 w h
        · rcases List.mem_append.mp h with h | h
          · exact st_x3 w h
          · exact st_x4 w h
  · exact st_lc w h
theorem st_str {args : Array Value} {s : State} {C tx : String} {k : Nat} {cC : ClassId} (hc : s.vm.findClass C = some cC) (h : (Cond.stringRef C k tx).before args s = true) : ∃ a : Nat, vk_R C k tx a s := by
  obtain ⟨-, -, -, a, -, -, -, -, -, hev⟩ := Cond.stringRef_spec hc h
  exact ⟨a, vk_R.of h hev⟩
set_option maxRecDepth 100000 in
theorem st_EV {s : State} {b : Nat} {G : GG} (hts : ∀ w ∈ lw_tbl, w.before #[Value.ref b] s = true) (hgv : (Jvm.Cond.and given_1 narrow_1).before #[Value.ref b] s = true) (hK : va_K (gD G) vC (tyG G) s) : EV (fun q => s.heap.size ≤ q) s s.heap := by
  have hs := flat_of_before _ hgv
  have hA : ∀ a : Nat, a < s.heap.size → ¬ (s.heap.size ≤ a) := fun a h => Nat.not_le.mpr h
  have hc : s.vm.findClass "CircuitProver" = some (G.1 5) := (hK.1 5 _ rfl).2.1
  obtain ⟨tq, htq, hT⟩ := va_Tof (args := #[Value.ref b]) (s := s) (tm := (.static "CircuitProver$Netlist" "LATCH_IS_ONE" "[J")) (ty := .long) (N := 6) (f := fun i => .long (L1 i)) (A := fun q => s.heap.size ≤ q) (by decide) (hs _ (by decide +kernel)) (va_eqt (hs _ (by decide +kernel))) (fun j hj => by
    rcases (show j = 0 ∨ j = 1 ∨ j = 2 ∨ j = 3 ∨ j = 4 ∨ j = 5 by omega) with rfl | rfl | rfl | rfl | rfl | rfl
    · exact va_eqtl (hs _ (by decide +kernel))
    · exact va_eqtl (hs _ (by decide +kernel))
    · exact va_eqtl (hs _ (by decide +kernel))
    · exact va_eqtl (hs _ (by decide +kernel))
    · exact va_eqtl (hs _ (by decide +kernel))
    · exact va_eqtl (hs _ (by decide +kernel))) hA
  refine ⟨fun w hw => va_Nw.of (st_nO w hw) (hts w (st_nW w hw)), ⟨tq, va_Zof (hts _ (by decide +kernel)) (hts _ (tb_in b3)) htq hA, hT⟩, vx_Zqof (hts _ (by decide +kernel)) (hts _ (tb_in b9)) (hs _ (by decide +kernel)) hA, vx_Zqof (hts _ (by decide +kernel)) (hts _ (tb_in b9)) (hs _ (by decide +kernel)) hA, st_str hc (hts _ (by decide +kernel)), st_str hc (hts _ (by decide +kernel)), st_str hc (hts _ (by decide +kernel)), st_str hc (hts _ (by decide +kernel))⟩
