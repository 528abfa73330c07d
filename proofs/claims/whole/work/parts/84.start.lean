theorem st_arr {args : Array Value} {s : State} {ty : FieldType} (h : (Cond.arrayClass ty).before args s = true) : ∃ cA : ClassId, ArrOfT s cA ty ∧ s.vm.findClass ("[" ++ ty.toString) = some cA := by
  obtain ⟨cA, kA, comp, h1, h2, h3⟩ := Cond.arrayClass_spec h
  exact ⟨cA, fun n z => ⟨fun k h => (by cases h), kA, h2, comp, h3⟩, h1⟩
theorem st_K {args : Array Value} {s : State} (htb : ∀ w ∈ TB, w.before args s = true) : ∃ G : GG, va_K (gD G) vC (tyG G) s := by
  obtain ⟨c0, i0, g0⟩ := u_known htb inA (htb _ b141)
  obtain ⟨c1, i1, g1⟩ := u_known htb inD (htb _ b178)
  obtain ⟨c2, i2, g2⟩ := u_known htb inK (htb _ b99)
  obtain ⟨c3, i3, g3⟩ := u_known htb inN (htb _ b50)
  obtain ⟨c4, i4, g4⟩ := u_known htb inT (htb _ b27)
  obtain ⟨c5, i5, g5⟩ := u_known htb inC (htb _ b19)
  obtain ⟨c6, i6, g6⟩ := u_known htb inM (htb _ b666)
  obtain ⟨rI, aI, fI⟩ := st_arr (htb _ b48)
  obtain ⟨rZ, aZ, fZ⟩ := st_arr (htb _ b96)
  obtain ⟨rB, aB, fB⟩ := st_arr (htb _ b47)
  obtain ⟨rJ, aJ, fJ⟩ := st_arr (htb _ b97)
  refine ⟨(fun c => match c with | 0 => c0 | 1 => c1 | 2 => c2 | 3 => c3 | 4 => c4 | 5 => c5 | _ => c6, fun c => match c with | 0 => i0 | 1 => i1 | 2 => i2 | 3 => i3 | 4 => i4 | 5 => i5 | _ => i6, rI, rZ, rB, rJ), fun c q hq => ?_, fun k q hq => ?_⟩
  · match c, hq with
    | 0, hq => cases hq; exact g0
    | 1, hq => cases hq; exact g1
    | 2, hq => cases hq; exact g2
    | 3, hq => cases hq; exact g3
    | 4, hq => cases hq; exact g4
    | 5, hq => cases hq; exact g5
    | 6, hq => cases hq; exact g6
    | c + 7, hq => cases hq
  · match k, hq with
    | 0, hq => cases hq; exact ⟨aI, fI⟩
    | 1, hq => cases hq; exact ⟨aZ, fZ⟩
    | 2, hq => cases hq; exact ⟨aB, fB⟩
    | 3, hq => cases hq; exact ⟨aJ, fJ⟩
    | k + 4, hq => cases hq
