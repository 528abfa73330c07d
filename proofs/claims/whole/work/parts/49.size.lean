theorem fr_s1 {P : Nat → Bool} {g : Bool} {b : Nat} (hp : P b = true) : (g && !anyN P (b + 1)) = false := by
  rw [anyN, hp, Bool.or_true]
  cases g <;> rfl
theorem fr_s2 {P : Nat → Bool} {g : Bool} {b : Nat} (h : (g && !anyN P b) = true) (hp : P b = false) : (g && !anyN P (b + 1)) = true := by
  rw [anyN, hp, Bool.or_false]
  exact h
theorem cnt_t {P : Nat → Bool} {n c : Nat} (h : P n = true) : c + cntP P n + 1 = c + cntP P (n + 1) := by rw [cntP, if_pos h]; omega
theorem cnt_f {P : Nat → Bool} {n c : Nat} (h : P n = false) : c + cntP P n + 0 = c + cntP P (n + 1) := by rw [cntP, if_neg (by rw [h]; decide)]; rfl
section Wit
variable {S D : Nat} {nx : Nat → Nat → Nat} {kb : Int64}
theorem wit_far (hS : S ≤ 64) {s e i : Nat} (hs : s < S) (hi : i < D) (ha : ∀ j, j < e → lb (nF S D nx kb j) s = false) : ∀ j, j < e - 1 → lb (nF S D nx kb j) (nx s i) = false := by
  intro j hj
  cases h : lb (nF S D nx kb j) (nx s i)
  · rfl
  · have h1 : lb (preOf S D nx (nF S D nx kb j)) s = true := (pre_iff hS (by omega)).mpr ⟨hs, i, hi, h⟩
    have h2 : lb (nF S D nx kb (j + 1)) s = true := by
      unfold nF
      rw [gr_s, lb_or]
      unfold nF at h1
      rw [h1, Bool.or_true]
    rw [ha (j + 1) (by omega)] at h2
    cases h2
theorem wit_iff (hS : S ≤ 64) {s e i : Nat} (hs : s < S) (hi : i < D) (he6 : e ≤ 63) (ha : ∀ j, j < e → lb (nF S D nx kb j) s = false) :
    lst (fun j => lb (nF S D nx kb j) (nx s i)) 64 = e - 1 ↔ lb (nF S D nx kb (e - 1)) (nx s i) = true := by
  constructor
  · intro h
    have h1 := (lst_spec (fun j => lb (nF S D nx kb j) (nx s i)) 64).2.2
    rw [h] at h1
    exact h1 (by omega)
  · intro h
    exact lst_eq (by omega) (wit_far hS hs hi ha) (fun _ => h)
theorem wit_ex (hS : S ≤ 64) {s e : Nat} (hs : s < S) (he : 1 ≤ e) (h : lb (nF S D nx kb e) s = true) (ha : ∀ j, j < e → lb (nF S D nx kb j) s = false) : ∃ i, i < D ∧ lb (nF S D nx kb (e - 1)) (nx s i) = true := by
  have h1 := ha (e - 1) (by omega)
  have h2 : lb (preOf S D nx (nF S D nx kb (e - 1))) s = true := by
    have e1 : e = (e - 1) + 1 := by omega
    rw [e1] at h
    unfold nF at h h1 ⊢
    rw [gr_s, lb_or, h1, Bool.false_or] at h
    exact h
  obtain ⟨-, i, hi, e9⟩ := (pre_iff hS (by omega)).mp h2
  exact ⟨i, hi, e9⟩
def pW (Nf : Nat → Int64) (nx : Nat → Nat → Nat) (bd : Nat → Nat → Bool) (d k s i : Nat) : Bool := if k = d then bd s i else lb (Nf (d - k - 1)) (nx s i)
/-- the input of the way at place k -/
def wrs (Nf : Nat → Int64) (nx : Nat → Nat → Nat) (bd : Nat → Nat → Bool) (D d st k : Nat) : Nat := if k < d then win nx Nf D d st k else lst (fun i => bd (wst nx Nf D d st d) i) (D - 1)
theorem pW_ex {bd : Nat → Nat → Bool} (hS : S ≤ 64) {s d k : Nat} (hs : s < S) (hk : k ≤ d) (h : lb (nF S D nx (badOf S D bd) (d - k)) s = true) (ha : ∀ j, j < d - k → lb (nF S D nx (badOf S D bd) j) s = false) : ∃ i, i < D ∧ pW (nF S D nx (badOf S D bd)) nx bd d k s i = true := by
  unfold pW
  by_cases e : k = d
  · rw [show d - k = 0 by omega] at h
    obtain ⟨-, i, hi, e9⟩ := (bad_iff (bd := bd) hS (by omega)).mp (show lb (badOf S D bd) s = true from h)
    exact ⟨i, hi, by rw [if_pos e]; exact e9⟩
  · obtain ⟨i, hi, e9⟩ := wit_ex hS hs (by omega) h ha
    exact ⟨i, hi, by rw [if_neg e]; exact e9⟩
theorem wit_step {bd : Nat → Nat → Bool} {Nf : Nat → Int64} (hNf : Nf = nF S D nx kb) (hS : S ≤ 64) {s d k i st : Nat} (hs : s < S) (hi : i < D) (hk : k ≤ d) (hw : s = wst nx Nf D d st k) (ha : ∀ j, j < d - k → lb (Nf j) s = false)
    (hb : ∀ j, j < i → pW Nf nx bd d k s j = false) (hp : pW Nf nx bd d k s i = true) : (k + 1 ≤ d → nx s i = wst nx Nf D d st (k + 1) ∧ lb (Nf (d - (k + 1))) (nx s i) = true ∧ ∀ j, j < d - (k + 1) → lb (Nf j) (nx s i) = false) ∧ i = wrs Nf nx bd D d st k := by
  have hl : lst (pW Nf nx bd d k s) (D - 1) = i := lst_eq (by omega) hb (fun _ => hp)
  constructor
  · intro h
    have e : (fun i => lb (Nf (d - k - 1)) (nx s i)) = pW Nf nx bd d k s := by
      funext j
      unfold pW
      rw [if_neg (by omega)]
    refine ⟨?_, ?_, ?_⟩
    · rw [wst, ← hw, e, hl]
    · unfold pW at hp
      rw [if_neg (by omega)] at hp
      rw [show d - (k + 1) = d - k - 1 by omega]
      exact hp
    · rw [show d - (k + 1) = d - k - 1 by omega]
      subst hNf
      exact wit_far hS hs hi ha
  · unfold wrs
    by_cases h : k < d
    · rw [if_pos h]
      unfold win
      rw [← hw, ← hl]
      congr 1
      funext j
      unfold pW
      rw [if_neg (by omega)]
    · rw [if_neg h, ← hl]
      have e : k = d := by omega
      subst e
      rw [← hw]
      congr 1
      funext j
      unfold pW
      rw [if_pos rfl]
end Wit
theorem ix_le {x : Int32} {d : Nat} (hd : d < 1000) (h0 : ¬ x < 0) (h1 : ¬ nI d < x) : ∃ n, n ≤ d ∧ x = nI n := by
  rcases pk_ix x (n := d + 1) (by omega) with h | h | ⟨j, hj, e⟩
  · exact absurd h h0
  · exfalso
    apply h1
    rw [Int32.lt_iff_toInt_lt]
    rw [Int32.le_iff_toInt_le] at h
    rw [nI_toInt (by omega)] at h ⊢
    omega
  · exact ⟨j, by omega, e⟩
set_option maxRecDepth 100000 in
set_option maxHeartbeats 4000000 in
theorem k_M_size (l : Launch) (G : GG) (sz : Nat) (qm : Nat) (xt : Nat) (xh : Nat) (xi : Nat) (xl : Nat) (xo : Nat) (xg : Nat) (xd : Nat) (xs : Nat) (xn : Nat) (xb : Nat) (xv : Nat) (th : Nat) (ul : Nat) (pt : Nat) (ld : Bool) (stt : Nat) (sts : Nat) (drw : Nat) (bd : Nat) (rd : Nat) (fs : Nat → Nat) (fx : Nat → Nat) (fb : Nat → Bool) (x : Int32) (hz : sts ≤ 64) (hdw : 1 ≤ drw ∧ drw ≤ 8) (hn6 : ∀ a b, a < sts → b < drw → fx (8 * a + b) < 64) (hst : stt < 64) (hla : fs 2 ≤ 6) (hs2 : sts = 2 ^ fs 2) : Ki l yM_size cM_size 11 .int 4 101 G [.ref qm, .int x] [(qm, .inr (6, [.int (nI th), .int (nI ul), .ref xt, .int (nI pt), .ref xh, .ref xi, .ref xl, .ref xo, .ref xg, .ref xd, .int (zB ld), .ref xs, .int (nI stt), .int (nI sts), .int (nI drw), .ref xn, .ref xb, .ref xv, .int (nI bd), .int (nI rd)])), (xs, aI G 5 fs), (xn, aI G 512 fx), (xb, aZ G 512 fb)] sz (fun (r : Int32) (u : Nat × Nat × Nat) => (ld = false ∧ nI 0 = r ∧ (1, bd, rd) = u) ∨ (ld = true ∧ (∀ j, j < 4 → x = nI j → (j = 0 ∧ ¬ (gr (postOf sts drw (nxF fx)) 64 (sg stt) &&& (badOf sts drw (bdF fb))) = 0)) ∧ (-1) = r ∧ (0, bd, rd) = u) ∨ (∃ (j : Nat), ld = true ∧ (j < 4 ∧ x = nI j) ∧ (j = 0 → (gr (postOf sts drw (nxF fx)) 64 (sg stt) &&& (badOf sts drw (bdF fb))) = 0) ∧ nI (it (fun jx ax => ax + cntP (frM sts (sel4 j (prf (postOf sts drw (nxF fx)) (nrF (nF sts drw (nxF fx) (badOf sts drw (bdF fb)))) (widM sts) (fs 2) (sg stt) 10000 1 (sg stt) 0).2.1 (gr (postOf sts drw (nxF fx)) 64 (sg stt)) (badOf sts drw (bdF fb)) ((nF sts drw (nxF fx) (badOf sts drw (bdF fb))) 63)) jx (2 ^ (fs 2 - jx - 1))) (2 ^ jx)) (fs 2) 0) = r ∧ (0, if j = 0 then (prf (postOf sts drw (nxF fx)) (nrF (nF sts drw (nxF fx) (badOf sts drw (bdF fb)))) (widM sts) (fs 2) (sg stt) 10000 1 (sg stt) 0).1 else bd, if j = 0 then (prf (postOf sts drw (nxF fx)) (nrF (nF sts drw (nxF fx) (badOf sts drw (bdF fb)))) (widM sts) (fs 2) (sg stt) 10000 1 (sg stt) 0).2.2 else rd) = u)) (fun (u : Nat × Nat × Nat) => [(qm, .inr (6, [.int (nI u.1), .int (nI ul), .ref xt, .int (nI pt), .ref xh, .ref xi, .ref xl, .ref xo, .ref xg, .ref xd, .int (zB ld), .ref xs, .int (nI stt), .int (nI sts), .int (nI drw), .ref xn, .ref xb, .ref xv, .int (nI u.2.1), .int (nI u.2.2)])), (xs, aI G 5 fs), (xn, aI G 512 fx), (xb, aZ G 512 fb)]) := by
  refine Met.ofW (cc := cM_size) (maxL := 11) (ret := (some .int)) (by decide) rfl ?_
  intro p e s m args below meth c s₁ B hml hv
  obtain ⟨hav, hsz, hP, hK, hD0, hE⟩ := hv
  have hx := B.exec
  have hb := B.bytes
  have hr := B.returns
  have htb : ∀ w ∈ TB, w.before args s = true := fun w h => atoms_spec (ws := Cond.code yM_size cM_size 11 (some .int) :: TB) B.pre w (List.mem_cons_of_mem _ h)
  have hown : s.vm.findClass "CircuitProverModel" = some m.cls := findClass_of_methodNamed B.named
  have hlocks := B.notSynchronized
  subst hsz
  have hD := hD0.self (sz := s.heap.size)
  clear hD0
  generalize hRm : (headSpec (Cond.code yM_size cM_size 11 (some .int) :: TB) { frames := 4, cells := 0, slots := 0, locals := 101 }).room = R
  have hRf : R.frames = 4 := by rw [← hRm]; rfl
  have hRl : R.locals = 101 := by rw [← hRm]; rfl
  have hRc : R.cells = 0 := by rw [← hRm]; rfl
  have hRs : R.slots = 0 := by rw [← hRm]; rfl
  clear hRm
  generalize hAe : va_A [(qm, .inr (6, [.int (nI th), .int (nI ul), .ref xt, .int (nI pt), .ref xh, .ref xi, .ref xl, .ref xo, .ref xg, .ref xd, .int (zB ld), .ref xs, .int (nI stt), .int (nI sts), .int (nI drw), .ref xn, .ref xb, .ref xv, .int (nI bd), .int (nI rd)])), (xs, aI G 5 fs), (xn, aI G 512 fx), (xb, aZ G 512 fb)] s.heap.size = A at hD hE ⊢
  have hA : ∀ q : Nat, s.heap.size ≤ q → A q := fun q h => by rw [← hAe]; exact Or.inr h
  clear hAe
  have hS : va_S A s.heap s.heap [] := va_S.rf
  have hl := lv_entry ([.ref qm, .int x]) (n := 11) (Nat.le_of_ble_eq_true rfl)
  have hent := lg_entry_eq m ([.ref qm, .int x]) 11
  rw [← hav] at hent
  rw [hent]
  clear hent hav
  generalize (lg_sl ([.ref qm, .int x]) ++ List.replicate (11 - (lg_sl ([.ref qm, .int x])).length) Slot.unset).toArray = ls at hl ⊢
  have hl : lv_has ls 11 [(0, .ref qm), (1, .int x)] := hl
  generalize hQ : MQ below _ args s 0 0 _ = Q
  have hP : va_P (gD G) vC [(qm, .inr (6, [.int (nI th), .int (nI ul), .ref xt, .int (nI pt), .ref xh, .ref xi, .ref xl, .ref xo, .ref xg, .ref xd, .int (zB ld), .ref xs, .int (nI stt), .int (nI sts), .int (nI drw), .ref xn, .ref xb, .ref xv, .int (nI bd), .int (nI rd)])), (xs, aI G 5 fs), (xn, aI G 512 fx), (xb, aZ G 512 fb)] s.heap := hP
  obtain ⟨H, hH⟩ : ∃ H : Heap, H = s.heap := ⟨_, rfl⟩
  obtain ⟨locs, hlc⟩ : ∃ L : List Loc, L = [] := ⟨_, rfl⟩
  have hS : va_S A s.heap H locs := by rw [hH, hlc]; exact hS
  have hP : va_P (gD G) vC [(qm, .inr (6, [.int (nI th), .int (nI ul), .ref xt, .int (nI pt), .ref xh, .ref xi, .ref xl, .ref xo, .ref xg, .ref xd, .int (zB ld), .ref xs, .int (nI stt), .int (nI sts), .int (nI drw), .ref xn, .ref xb, .ref xv, .int (nI bd), .int (nI rd)])), (xs, aI G 5 fs), (xn, aI G 512 fx), (xb, aZ G 512 fb)] H := by rw [hH]; exact hP
  have hgo : W p l e R s m args below meth c H locs 0 0 Q (F0 m 0 ls []) := by
    clear hH hlc
    refine lv_aload_n hx hb dM_size_0 rfl (lv_at hl 0 rfl) ?_
    refine lv_aload_n hx hb dM_size_1 rfl (lv_at hl 0 rfl) ?_
    refine va_get (D := gD G) (ci := 6) (v := .int (zB ld)) (C := "CircuitProverModel") (T := TM) (N := 20) hx hb htb inM hown hK hP 0 rfl rfl 10 (by decide) (htb _ b681) (fun _ h9 => h9) rfl dM_size_2 ?_
    refine lv_if_eq (tgt := 12) hx hb dM_size_5 rfl (fun h5 => ?_) (fun h5 => ?_)
    · have h5 : ld = false := zB_f h5
      refine lv_iconst (v := nI 1) hx hb dM_size_12 (by decide) ?_
      refine va_put (D := gD G) (ci := 6) (v := .int (nI 1)) (ty := tyM 0) (C := "CircuitProverModel") (T := TM) (N := 20) hx hb htb inM tyM tyM_ok nmM hown hK hP hD hS 0 rfl rfl 0 (by decide) (htb _ b671) (fun _ h9 => h9) rfl (tyM_ok 0 (by decide)) rfl rfl (Nat.le_of_ble_eq_true rfl) dM_size_13 (fun H locs hP hD hS => ?_)
      have hP : va_P (gD G) vC [(qm, .inr (6, [.int (nI 1), .int (nI ul), .ref xt, .int (nI pt), .ref xh, .ref xi, .ref xl, .ref xo, .ref xg, .ref xd, .int (zB ld), .ref xs, .int (nI stt), .int (nI sts), .int (nI drw), .ref xn, .ref xb, .ref xv, .int (nI bd), .int (nI rd)])), (xs, aI G 5 fs), (xn, aI G 512 fx), (xb, aZ G 512 fb)] H := hP
      have hD : va_D A [(qm, .inr (6, [.int (nI 1), .int (nI ul), .ref xt, .int (nI pt), .ref xh, .ref xi, .ref xl, .ref xo, .ref xg, .ref xd, .int (zB ld), .ref xs, .int (nI stt), .int (nI sts), .int (nI drw), .ref xn, .ref xb, .ref xv, .int (nI bd), .int (nI rd)])), (xs, aI G 5 fs), (xn, aI G 512 fx), (xb, aZ G 512 fb)] := hD
      refine lv_aload_n hx hb dM_size_16 rfl (lv_at hl 0 rfl) ?_
      refine va_get (D := gD G) (ci := 6) (v := .int (zB ld)) (C := "CircuitProverModel") (T := TM) (N := 20) hx hb htb inM hown hK hP 0 rfl rfl 10 (by decide) (htb _ b681) (fun _ h9 => h9) rfl dM_size_17 ?_
      refine lv_if_eq (tgt := 31) hx hb dM_size_20 rfl (fun _ => ?_) (fun h20 => absurd (zB_t h20) (by rw [h5]; decide))
      refine lv_aload_n hx hb dM_size_31 rfl (lv_at hl 0 rfl) ?_
      refine va_get (D := gD G) (ci := 6) (v := .int (zB ld)) (C := "CircuitProverModel") (T := TM) (N := 20) hx hb htb inM hown hK hP 0 rfl rfl 10 (by decide) (htb _ b681) (fun _ h9 => h9) rfl dM_size_32 ?_
      refine lv_if_eq (tgt := 42) hx hb dM_size_35 rfl (fun _ => ?_) (fun h35 => absurd (zB_t h35) (by rw [h5]; decide))
      refine lv_iconst (v := nI 0) hx hb dM_size_42 (by decide) ?_
      -- end 0
      rw [← hQ]
      exact k_iret hx hb hr hlocks rfl (u := (1, bd, rd)) (Or.inl ⟨h5, rfl, rfl⟩) hP hD hK hS dM_size_43
    · have h5 : ld = true := zB_t h5
      refine lv_iconst (v := nI 0) hx hb dM_size_8 (by decide) ?_
      refine lv_goto (tgt := 13) hx hb dM_size_9 rfl ?_
      refine va_put (D := gD G) (ci := 6) (v := .int (nI 0)) (ty := tyM 0) (C := "CircuitProverModel") (T := TM) (N := 20) hx hb htb inM tyM tyM_ok nmM hown hK hP hD hS 0 rfl rfl 0 (by decide) (htb _ b671) (fun _ h9 => h9) rfl (tyM_ok 0 (by decide)) rfl rfl (Nat.le_of_ble_eq_true rfl) dM_size_13 (fun H locs hP hD hS => ?_)
      have hP : va_P (gD G) vC [(qm, .inr (6, [.int (nI 0), .int (nI ul), .ref xt, .int (nI pt), .ref xh, .ref xi, .ref xl, .ref xo, .ref xg, .ref xd, .int (zB ld), .ref xs, .int (nI stt), .int (nI sts), .int (nI drw), .ref xn, .ref xb, .ref xv, .int (nI bd), .int (nI rd)])), (xs, aI G 5 fs), (xn, aI G 512 fx), (xb, aZ G 512 fb)] H := hP
      have hD : va_D A [(qm, .inr (6, [.int (nI 0), .int (nI ul), .ref xt, .int (nI pt), .ref xh, .ref xi, .ref xl, .ref xo, .ref xg, .ref xd, .int (zB ld), .ref xs, .int (nI stt), .int (nI sts), .int (nI drw), .ref xn, .ref xb, .ref xv, .int (nI bd), .int (nI rd)])), (xs, aI G 5 fs), (xn, aI G 512 fx), (xb, aZ G 512 fb)] := hD
      refine lv_aload_n hx hb dM_size_16 rfl (lv_at hl 0 rfl) ?_
      refine va_get (D := gD G) (ci := 6) (v := .int (zB ld)) (C := "CircuitProverModel") (T := TM) (N := 20) hx hb htb inM hown hK hP 0 rfl rfl 10 (by decide) (htb _ b681) (fun _ h9 => h9) rfl dM_size_17 ?_
      refine lv_if_eq (tgt := 31) hx hb dM_size_20 rfl (fun h20 => absurd (zB_f h20) (by rw [h5]; decide)) (fun _ => ?_)
      refine lv_aload_n hx hb dM_size_23 rfl (lv_at hl 0 rfl) ?_
      refine lv_iload_n hx hb dM_size_24 rfl (lv_at hl 1 rfl) ?_
      refine k_i (ws2 := fun u => [(qm, .inr (6, [.int (nI 0), .int (nI ul), .ref xt, .int (nI pt), .ref xh, .ref xi, .ref xl, .ref xo, .ref xg, .ref xd, .int (zB ld), .ref xs, .int (nI stt), .int (nI sts), .int (nI drw), .ref xn, .ref xb, .ref xv, .int (nI bd), .int (nI rd)])), (xs, aI G 5 fs), (xn, aI G 512 fx), (xb, aZ G 512 fb)]) (wr := [(xs, aI G 5 fs)]) (k_runV (n := 1) (As := [.int x]) (rest := []) hx hb hml hown htb hP hD hK hS hA hE (k_M_isSet l G H.size qm xt xh xi xl xo xg xd xs xn xb xv 0 ul pt ld stt sts drw bd rd fx fb x (show sts ≤ 64 from by omega) (show 1 ≤ drw ∧ drw ≤ 8 from by omega) (show stt < 64 from by omega)) b873 b875 s49 b7 b876 (by decide +kernel) rfl rfl ⟨by rw [hRf]; exact Nat.le_of_ble_eq_true rfl, by rw [hRl]; exact Nat.le_of_ble_eq_true rfl⟩ [0, 2, 3] rfl (by decide) 0 rfl rfl rfl rfl hl.1 rfl (Nat.le_of_ble_eq_true rfl) dM_size_25 ⟨Nat.zero_le _, Nat.zero_le _⟩) hP hD hS hA [0, 2, 3] [1] [1, 0, 2, 3] rfl rfl (by decide) (by decide) (fun u => rfl) (by decide) (fun r u H locs hw hP hD hS => ?_)
      rcases hw with ⟨j25, hc25_e, hc25_s, rfl, rfl⟩ | ⟨hc25_e, rfl, rfl⟩
      · skip
        have hP : va_P (gD G) vC [(qm, .inr (6, [.int (nI 0), .int (nI ul), .ref xt, .int (nI pt), .ref xh, .ref xi, .ref xl, .ref xo, .ref xg, .ref xd, .int (zB ld), .ref xs, .int (nI stt), .int (nI sts), .int (nI drw), .ref xn, .ref xb, .ref xv, .int (nI bd), .int (nI rd)])), (xs, aI G 5 fs), (xn, aI G 512 fx), (xb, aZ G 512 fb)] H := hP
        have hD : va_D A [(qm, .inr (6, [.int (nI 0), .int (nI ul), .ref xt, .int (nI pt), .ref xh, .ref xi, .ref xl, .ref xo, .ref xg, .ref xd, .int (zB ld), .ref xs, .int (nI stt), .int (nI sts), .int (nI drw), .ref xn, .ref xb, .ref xv, .int (nI bd), .int (nI rd)])), (xs, aI G 5 fs), (xn, aI G 512 fx), (xb, aZ G 512 fb)] := hD
        obtain ⟨hj4, rfl⟩ := hc25_e
        refine lv_if_ne (tgt := 44) hx hb dM_size_28 rfl (fun _ => ?_) (fun h28 => (by revert h28; first | decide | exact fun z => absurd z (by decide) | exact fun z => z.elim (by decide)))
        refine lv_aload_n hx hb dM_size_44 rfl (lv_at hl 0 rfl) ?_
        refine lv_iload_n hx hb dM_size_45 rfl (lv_at hl 1 rfl) ?_
        refine k_l (ws2 := fun u => [(qm, .inr (6, [.int (nI 0), .int (nI ul), .ref xt, .int (nI pt), .ref xh, .ref xi, .ref xl, .ref xo, .ref xg, .ref xd, .int (zB ld), .ref xs, .int (nI stt), .int (nI sts), .int (nI drw), .ref xn, .ref xb, .ref xv, .int (nI (u.1)), .int (nI (u.2))])), (xs, aI G 5 fs), (xn, aI G 512 fx), (xb, aZ G 512 fb)]) (wr := []) (k_runV (n := 1) (As := [.int (nI j25)]) (rest := []) hx hb hml hown htb hP hD hK hS hA hE (k_M_set l G H.size qm xt xh xi xl xo xg xd xs xn xb xv 0 ul pt ld stt sts drw bd rd fs fx fb j25 (show sts ≤ 64 from by omega) (show 1 ≤ drw ∧ drw ≤ 8 from by omega) (show ∀ a b, a < sts → b < drw → fx (8 * a + b) < 64 from hn6) (show stt < 64 from by omega) (show fs 2 ≤ 6 from by omega) (show j25 < 4 from by omega)) b877 b879 s50 b7 b880 (by decide +kernel) rfl rfl ⟨by rw [hRf]; exact Nat.le_of_ble_eq_true rfl, by rw [hRl]; exact Nat.le_of_ble_eq_true rfl⟩ [0, 1, 2, 3] rfl (by decide) 0 rfl rfl rfl rfl hl.1 rfl (Nat.le_of_ble_eq_true rfl) dM_size_46 ⟨Nat.zero_le _, Nat.zero_le _⟩) hP hD hS hA [0, 1, 2, 3] [] [0, 1, 2, 3] rfl rfl (by decide) (by decide) (fun u => rfl) (by decide) (fun r u H locs hw hP hD hS => ?_)
        obtain ⟨rfl, rfl⟩ := hw
        have hP : va_P (gD G) vC [(qm, .inr (6, [.int (nI 0), .int (nI ul), .ref xt, .int (nI pt), .ref xh, .ref xi, .ref xl, .ref xo, .ref xg, .ref xd, .int (zB ld), .ref xs, .int (nI stt), .int (nI sts), .int (nI drw), .ref xn, .ref xb, .ref xv, .int (nI (if j25 = 0 then (prf (postOf sts drw (nxF fx)) (nrF (nF sts drw (nxF fx) (badOf sts drw (bdF fb)))) (widM sts) (fs 2) (sg stt) 10000 1 (sg stt) 0).1 else bd)), .int (nI (if j25 = 0 then (prf (postOf sts drw (nxF fx)) (nrF (nF sts drw (nxF fx) (badOf sts drw (bdF fb)))) (widM sts) (fs 2) (sg stt) 10000 1 (sg stt) 0).2.2 else rd))])), (xs, aI G 5 fs), (xn, aI G 512 fx), (xb, aZ G 512 fb)] H := hP
        have hD : va_D A [(qm, .inr (6, [.int (nI 0), .int (nI ul), .ref xt, .int (nI pt), .ref xh, .ref xi, .ref xl, .ref xo, .ref xg, .ref xd, .int (zB ld), .ref xs, .int (nI stt), .int (nI sts), .int (nI drw), .ref xn, .ref xb, .ref xv, .int (nI (if j25 = 0 then (prf (postOf sts drw (nxF fx)) (nrF (nF sts drw (nxF fx) (badOf sts drw (bdF fb)))) (widM sts) (fs 2) (sg stt) 10000 1 (sg stt) 0).1 else bd)), .int (nI (if j25 = 0 then (prf (postOf sts drw (nxF fx)) (nrF (nF sts drw (nxF fx) (badOf sts drw (bdF fb)))) (widM sts) (fs 2) (sg stt) 10000 1 (sg stt) 0).2.2 else rd))])), (xs, aI G 5 fs), (xn, aI G 512 fx), (xb, aZ G 512 fb)] := hD
        refine lv_lstore_n (lv' := [(2, .long (sel4 j25 (prf (postOf sts drw (nxF fx)) (nrF (nF sts drw (nxF fx) (badOf sts drw (bdF fb)))) (widM sts) (fs 2) (sg stt) 10000 1 (sg stt) 0).2.1 (gr (postOf sts drw (nxF fx)) 64 (sg stt)) (badOf sts drw (bdF fb)) ((nF sts drw (nxF fx) (badOf sts drw (bdF fb))) 63))), (0, .ref qm), (1, .int (nI j25))]) hx hb dM_size_49 rfl hl (by decide) rfl (fun ls hl => ?_)
        refine lv_iconst (v := nI 0) hx hb dM_size_50 (by decide) ?_
        refine lv_istore (lv' := [(4, .int (nI 0)), (2, .long (sel4 j25 (prf (postOf sts drw (nxF fx)) (nrF (nF sts drw (nxF fx) (badOf sts drw (bdF fb)))) (widM sts) (fs 2) (sg stt) 10000 1 (sg stt) 0).2.1 (gr (postOf sts drw (nxF fx)) 64 (sg stt)) (badOf sts drw (bdF fb)) ((nF sts drw (nxF fx) (badOf sts drw (bdF fb))) 63))), (0, .ref qm), (1, .int (nI j25))]) hx hb dM_size_51 hl (by decide) rfl (fun ls hl => ?_)
        refine lv_iconst (v := nI 0) hx hb dM_size_53 (by decide) ?_
        refine lv_istore (lv' := [(5, .int (nI 0)), (4, .int (nI 0)), (2, .long (sel4 j25 (prf (postOf sts drw (nxF fx)) (nrF (nF sts drw (nxF fx) (badOf sts drw (bdF fb)))) (widM sts) (fs 2) (sg stt) 10000 1 (sg stt) 0).2.1 (gr (postOf sts drw (nxF fx)) 64 (sg stt)) (badOf sts drw (bdF fb)) ((nF sts drw (nxF fx) (badOf sts drw (bdF fb))) 63))), (0, .ref qm), (1, .int (nI j25))]) hx hb dM_size_54 hl (by decide) rfl (fun ls hl => ?_)
        have loop56 : ∀ (n : Nat) (c9 : Nat) (jj : Nat) (H : Heap) (locs : List Loc) (ls : Array Slot), fs 2 - jj < n → (jj ≤ fs 2) → (c9 = it (fun jx ax => ax + cntP (frM sts (sel4 j25 (prf (postOf sts drw (nxF fx)) (nrF (nF sts drw (nxF fx) (badOf sts drw (bdF fb)))) (widM sts) (fs 2) (sg stt) 10000 1 (sg stt) 0).2.1 (gr (postOf sts drw (nxF fx)) 64 (sg stt)) (badOf sts drw (bdF fb)) ((nF sts drw (nxF fx) (badOf sts drw (bdF fb))) 63)) jx (2 ^ (fs 2 - jx - 1))) (2 ^ jx)) jj 0) → va_P (gD G) vC [(qm, .inr (6, [.int (nI 0), .int (nI ul), .ref xt, .int (nI pt), .ref xh, .ref xi, .ref xl, .ref xo, .ref xg, .ref xd, .int (zB ld), .ref xs, .int (nI stt), .int (nI sts), .int (nI drw), .ref xn, .ref xb, .ref xv, .int (nI (if j25 = 0 then (prf (postOf sts drw (nxF fx)) (nrF (nF sts drw (nxF fx) (badOf sts drw (bdF fb)))) (widM sts) (fs 2) (sg stt) 10000 1 (sg stt) 0).1 else bd)), .int (nI (if j25 = 0 then (prf (postOf sts drw (nxF fx)) (nrF (nF sts drw (nxF fx) (badOf sts drw (bdF fb)))) (widM sts) (fs 2) (sg stt) 10000 1 (sg stt) 0).2.2 else rd))])), (xs, aI G 5 fs), (xn, aI G 512 fx), (xb, aZ G 512 fb)] H → va_D A [(qm, .inr (6, [.int (nI 0), .int (nI ul), .ref xt, .int (nI pt), .ref xh, .ref xi, .ref xl, .ref xo, .ref xg, .ref xd, .int (zB ld), .ref xs, .int (nI stt), .int (nI sts), .int (nI drw), .ref xn, .ref xb, .ref xv, .int (nI (if j25 = 0 then (prf (postOf sts drw (nxF fx)) (nrF (nF sts drw (nxF fx) (badOf sts drw (bdF fb)))) (widM sts) (fs 2) (sg stt) 10000 1 (sg stt) 0).1 else bd)), .int (nI (if j25 = 0 then (prf (postOf sts drw (nxF fx)) (nrF (nF sts drw (nxF fx) (badOf sts drw (bdF fb)))) (widM sts) (fs 2) (sg stt) 10000 1 (sg stt) 0).2.2 else rd))])), (xs, aI G 5 fs), (xn, aI G 512 fx), (xb, aZ G 512 fb)] → va_S A s.heap H locs → lv_has ls 11 [(0, .ref qm), (1, .int (nI j25)), (2, .long (sel4 j25 (prf (postOf sts drw (nxF fx)) (nrF (nF sts drw (nxF fx) (badOf sts drw (bdF fb)))) (widM sts) (fs 2) (sg stt) 10000 1 (sg stt) 0).2.1 (gr (postOf sts drw (nxF fx)) 64 (sg stt)) (badOf sts drw (bdF fb)) ((nF sts drw (nxF fx) (badOf sts drw (bdF fb))) 63))), (4, .int (nI c9)), (5, .int (nI jj))] → W p l e R s m args below meth c H locs 0 0 Q (F0 m 56 ls []) := by
          intro n
          induction n with
          | zero => intro c9 jj H locs ls hmu; omega
          | succ n ih =>
            intro c9 jj H locs ls hmu hj hc hP hD hS hl
            have ih56 := ih
            clear ih
            refine lv_iload hx hb dM_size_56 (lv_at hl 4 rfl) ?_
            refine lv_aload_n hx hb dM_size_58 rfl (lv_at hl 0 rfl) ?_
            refine va_get (D := gD G) (ci := 6) (v := .ref xs) (C := "CircuitProverModel") (T := TM) (N := 20) hx hb htb inM hown hK hP 0 rfl rfl 11 (by decide) (htb _ b682) (fun _ h9 => h9) rfl dM_size_59 ?_
            refine lv_iconst (v := nI 2) hx hb dM_size_62 (by decide) ?_
            refine k_iald hx hb hK hP 1 rfl (k := 2) (by omega) (by decide) dM_size_63 ?_
            refine lv_icmp_ge (tgt := 174) hx hb dM_size_64 rfl (fun h64 => ?_) (fun h64 => ?_)
            · have h64 : fs 2 ≤ jj := (nI_leI (a := fs 2) (b := jj) (by omega) (by omega)).mp h64
              refine lv_iload hx hb dM_size_174 (lv_at hl 3 rfl) ?_
              -- end 1
              rw [← hQ]
              exact k_iret hx hb hr hlocks rfl (u := (0, (if j25 = 0 then (prf (postOf sts drw (nxF fx)) (nrF (nF sts drw (nxF fx) (badOf sts drw (bdF fb)))) (widM sts) (fs 2) (sg stt) 10000 1 (sg stt) 0).1 else bd), (if j25 = 0 then (prf (postOf sts drw (nxF fx)) (nrF (nF sts drw (nxF fx) (badOf sts drw (bdF fb)))) (widM sts) (fs 2) (sg stt) 10000 1 (sg stt) 0).2.2 else rd))) (Or.inr (Or.inr ⟨j25, h5, ⟨hj4, rfl⟩, hc25_s, by rw [hc, show jj = fs 2 by omega], rfl⟩)) hP hD hK hS dM_size_176
            · have h64 : jj < fs 2 := Nat.lt_of_not_le (fun z => h64 ((nI_leI (a := fs 2) (b := jj) (by omega) (by omega)).mpr z))
              have hpj := p32_le (j := jj) (by omega)
              refine lv_iconst (v := nI 0) hx hb dM_size_67 (by decide) ?_
              refine lv_istore (lv' := [(6, .int (nI 0)), (0, .ref qm), (1, .int (nI j25)), (2, .long (sel4 j25 (prf (postOf sts drw (nxF fx)) (nrF (nF sts drw (nxF fx) (badOf sts drw (bdF fb)))) (widM sts) (fs 2) (sg stt) 10000 1 (sg stt) 0).2.1 (gr (postOf sts drw (nxF fx)) 64 (sg stt)) (badOf sts drw (bdF fb)) ((nF sts drw (nxF fx) (badOf sts drw (bdF fb))) 63))), (4, .int (nI c9)), (5, .int (nI jj))]) hx hb dM_size_68 hl (by decide) rfl (fun ls hl => ?_)
              have loop70 : ∀ (n : Nat) (c2 : Nat) (a : Nat) (H : Heap) (locs : List Loc) (ls : Array Slot), 2 ^ jj - a < n → (a ≤ 2 ^ jj) → (c2 = c9 + cntP (frM sts (sel4 j25 (prf (postOf sts drw (nxF fx)) (nrF (nF sts drw (nxF fx) (badOf sts drw (bdF fb)))) (widM sts) (fs 2) (sg stt) 10000 1 (sg stt) 0).2.1 (gr (postOf sts drw (nxF fx)) 64 (sg stt)) (badOf sts drw (bdF fb)) ((nF sts drw (nxF fx) (badOf sts drw (bdF fb))) 63)) jj (2 ^ (fs 2 - jj - 1))) a) → va_P (gD G) vC [(qm, .inr (6, [.int (nI 0), .int (nI ul), .ref xt, .int (nI pt), .ref xh, .ref xi, .ref xl, .ref xo, .ref xg, .ref xd, .int (zB ld), .ref xs, .int (nI stt), .int (nI sts), .int (nI drw), .ref xn, .ref xb, .ref xv, .int (nI (if j25 = 0 then (prf (postOf sts drw (nxF fx)) (nrF (nF sts drw (nxF fx) (badOf sts drw (bdF fb)))) (widM sts) (fs 2) (sg stt) 10000 1 (sg stt) 0).1 else bd)), .int (nI (if j25 = 0 then (prf (postOf sts drw (nxF fx)) (nrF (nF sts drw (nxF fx) (badOf sts drw (bdF fb)))) (widM sts) (fs 2) (sg stt) 10000 1 (sg stt) 0).2.2 else rd))])), (xs, aI G 5 fs), (xn, aI G 512 fx), (xb, aZ G 512 fb)] H → va_D A [(qm, .inr (6, [.int (nI 0), .int (nI ul), .ref xt, .int (nI pt), .ref xh, .ref xi, .ref xl, .ref xo, .ref xg, .ref xd, .int (zB ld), .ref xs, .int (nI stt), .int (nI sts), .int (nI drw), .ref xn, .ref xb, .ref xv, .int (nI (if j25 = 0 then (prf (postOf sts drw (nxF fx)) (nrF (nF sts drw (nxF fx) (badOf sts drw (bdF fb)))) (widM sts) (fs 2) (sg stt) 10000 1 (sg stt) 0).1 else bd)), .int (nI (if j25 = 0 then (prf (postOf sts drw (nxF fx)) (nrF (nF sts drw (nxF fx) (badOf sts drw (bdF fb)))) (widM sts) (fs 2) (sg stt) 10000 1 (sg stt) 0).2.2 else rd))])), (xs, aI G 5 fs), (xn, aI G 512 fx), (xb, aZ G 512 fb)] → va_S A s.heap H locs → lv_has ls 11 [(0, .ref qm), (1, .int (nI j25)), (2, .long (sel4 j25 (prf (postOf sts drw (nxF fx)) (nrF (nF sts drw (nxF fx) (badOf sts drw (bdF fb)))) (widM sts) (fs 2) (sg stt) 10000 1 (sg stt) 0).2.1 (gr (postOf sts drw (nxF fx)) 64 (sg stt)) (badOf sts drw (bdF fb)) ((nF sts drw (nxF fx) (badOf sts drw (bdF fb))) 63))), (4, .int (nI c2)), (5, .int (nI jj)), (6, .int (nI a))] → W p l e R s m args below meth c H locs 0 0 Q (F0 m 70 ls []) := by
                intro n
                induction n with
                | zero => intro c2 a H locs ls hmu; omega
                | succ n ih =>
                  intro c2 a H locs ls hmu ha hc2 hP hD hS hl
                  have ih70 := ih
                  clear ih
                  have hpj := p32_le (j := jj) (by omega)
                  refine lv_iload hx hb dM_size_70 (lv_at hl 5 rfl) ?_
                  refine lv_iconst (v := nI 1) hx hb dM_size_72 (by decide) ?_
                  refine lv_iload hx hb dM_size_73 (lv_at hl 4 rfl) ?_
                  refine lv_ishl hx hb dM_size_75 ?_
                  refine k_toi (y := nI (2 ^ jj)) (sh1 (by omega)) ?_
                  refine lv_icmp_ge (tgt := 168) hx hb dM_size_76 rfl (fun h76 => ?_) (fun h76 => ?_)
                  · have h76 : 2 ^ jj ≤ a := (nI_leI (a := 2 ^ jj) (b := a) (by omega) (by omega)).mp h76
                    refine lv_iinc (v := nI (jj + 1)) (lv' := [(5, .int (nI (jj + 1))), (0, .ref qm), (1, .int (nI j25)), (2, .long (sel4 j25 (prf (postOf sts drw (nxF fx)) (nrF (nF sts drw (nxF fx) (badOf sts drw (bdF fb)))) (widM sts) (fs 2) (sg stt) 10000 1 (sg stt) 0).2.1 (gr (postOf sts drw (nxF fx)) 64 (sg stt)) (badOf sts drw (bdF fb)) ((nF sts drw (nxF fx) (badOf sts drw (bdF fb))) 63))), (4, .int (nI c2)), (6, .int (nI a))]) hx hb dM_size_168 hl (k := 4) rfl (nI_add _ 1) (by decide) rfl (fun ls hl => ?_)
                    refine lv_goto (tgt := 56) hx hb dM_size_171 rfl ?_
                    have hl : lv_has ls 11 [(0, .ref qm), (1, .int (nI j25)), (2, .long (sel4 j25 (prf (postOf sts drw (nxF fx)) (nrF (nF sts drw (nxF fx) (badOf sts drw (bdF fb)))) (widM sts) (fs 2) (sg stt) 10000 1 (sg stt) 0).2.1 (gr (postOf sts drw (nxF fx)) 64 (sg stt)) (badOf sts drw (bdF fb)) ((nF sts drw (nxF fx) (badOf sts drw (bdF fb))) 63))), (4, .int (nI c2)), (5, .int (nI (jj + 1)))] := lv_sub hl [1, 2, 3, 4, 0] rfl
                    exact ih56 c2 (jj + 1) _ _ _ (by omega) (by omega) (by rw [it_s, ← hc, hc2, show a = 2 ^ jj by omega]) hP hD hS hl
                  · have h76 : a < 2 ^ jj := Nat.lt_of_not_le (fun z => h76 ((nI_leI (a := 2 ^ jj) (b := a) (by omega) (by omega)).mpr z))
                    refine lv_aload_n hx hb dM_size_79 rfl (lv_at hl 0 rfl) ?_
                    refine lv_lload_n hx hb dM_size_80 rfl (lv_at hl 2 rfl) ?_
                    refine lv_iload hx hb dM_size_81 (lv_at hl 4 rfl) ?_
                    refine lv_iload hx hb dM_size_83 (lv_at hl 5 rfl) ?_
                    refine k_l (ws2 := fun u => [(qm, .inr (6, [.int (nI 0), .int (nI ul), .ref xt, .int (nI pt), .ref xh, .ref xi, .ref xl, .ref xo, .ref xg, .ref xd, .int (zB ld), .ref xs, .int (nI stt), .int (nI sts), .int (nI drw), .ref xn, .ref xb, .ref xv, .int (nI (if j25 = 0 then (prf (postOf sts drw (nxF fx)) (nrF (nF sts drw (nxF fx) (badOf sts drw (bdF fb)))) (widM sts) (fs 2) (sg stt) 10000 1 (sg stt) 0).1 else bd)), .int (nI (if j25 = 0 then (prf (postOf sts drw (nxF fx)) (nrF (nF sts drw (nxF fx) (badOf sts drw (bdF fb)))) (widM sts) (fs 2) (sg stt) 10000 1 (sg stt) 0).2.2 else rd))])), (xs, aI G 5 fs), (xn, aI G 512 fx), (xb, aZ G 512 fb)]) (wr := [(xs, aI G 5 fs), (xn, aI G 512 fx), (xb, aZ G 512 fb)]) (k_runV (n := 3) (As := [.long (sel4 j25 (prf (postOf sts drw (nxF fx)) (nrF (nF sts drw (nxF fx) (badOf sts drw (bdF fb)))) (widM sts) (fs 2) (sg stt) 10000 1 (sg stt) 0).2.1 (gr (postOf sts drw (nxF fx)) 64 (sg stt)) (badOf sts drw (bdF fb)) ((nF sts drw (nxF fx) (badOf sts drw (bdF fb))) 63)), .int (nI jj), .int (nI a)]) (rest := []) hx hb hml hown htb hP hD hK hS hA hE (k_M_rest l G H.size qm xt xh xi xl xo xg xd xs xn xb xv 0 ul pt ld stt sts drw (if j25 = 0 then (prf (postOf sts drw (nxF fx)) (nrF (nF sts drw (nxF fx) (badOf sts drw (bdF fb)))) (widM sts) (fs 2) (sg stt) 10000 1 (sg stt) 0).1 else bd) (if j25 = 0 then (prf (postOf sts drw (nxF fx)) (nrF (nF sts drw (nxF fx) (badOf sts drw (bdF fb)))) (widM sts) (fs 2) (sg stt) 10000 1 (sg stt) 0).2.2 else rd) (sel4 j25 (prf (postOf sts drw (nxF fx)) (nrF (nF sts drw (nxF fx) (badOf sts drw (bdF fb)))) (widM sts) (fs 2) (sg stt) 10000 1 (sg stt) 0).2.1 (gr (postOf sts drw (nxF fx)) 64 (sg stt)) (badOf sts drw (bdF fb)) ((nF sts drw (nxF fx) (badOf sts drw (bdF fb))) 63)) jj a (show sts ≤ 64 from by omega) (show jj < 6 from by omega) (show a < 64 from by omega) (show ∀ t, t < sts / 2 ^ jj → a + t * 2 ^ jj < 64 from fun t ht => fn_in hla (by omega) (by omega) t (by rw [← hs2]; exact ht))) b885 b887 s51 b7 b888 (by decide +kernel) rfl rfl ⟨by rw [hRf]; exact Nat.le_of_ble_eq_true rfl, by rw [hRl]; exact Nat.le_of_ble_eq_true rfl⟩ [0] rfl (by decide) 0 rfl rfl rfl rfl hl.1 rfl (Nat.le_of_ble_eq_true rfl) dM_size_85 ⟨Nat.zero_le _, Nat.zero_le _⟩) hP hD hS hA [0] [1, 2, 3] [3, 0, 1, 2] rfl rfl (by decide) (by decide) (fun u => rfl) (by decide) (fun r u H locs hw hP hD hS => ?_)
                    obtain ⟨rfl, rfl⟩ := hw
                    have hP : va_P (gD G) vC [(qm, .inr (6, [.int (nI 0), .int (nI ul), .ref xt, .int (nI pt), .ref xh, .ref xi, .ref xl, .ref xo, .ref xg, .ref xd, .int (zB ld), .ref xs, .int (nI stt), .int (nI sts), .int (nI drw), .ref xn, .ref xb, .ref xv, .int (nI (if j25 = 0 then (prf (postOf sts drw (nxF fx)) (nrF (nF sts drw (nxF fx) (badOf sts drw (bdF fb)))) (widM sts) (fs 2) (sg stt) 10000 1 (sg stt) 0).1 else bd)), .int (nI (if j25 = 0 then (prf (postOf sts drw (nxF fx)) (nrF (nF sts drw (nxF fx) (badOf sts drw (bdF fb)))) (widM sts) (fs 2) (sg stt) 10000 1 (sg stt) 0).2.2 else rd))])), (xs, aI G 5 fs), (xn, aI G 512 fx), (xb, aZ G 512 fb)] H := hP
                    have hD : va_D A [(qm, .inr (6, [.int (nI 0), .int (nI ul), .ref xt, .int (nI pt), .ref xh, .ref xi, .ref xl, .ref xo, .ref xg, .ref xd, .int (zB ld), .ref xs, .int (nI stt), .int (nI sts), .int (nI drw), .ref xn, .ref xb, .ref xv, .int (nI (if j25 = 0 then (prf (postOf sts drw (nxF fx)) (nrF (nF sts drw (nxF fx) (badOf sts drw (bdF fb)))) (widM sts) (fs 2) (sg stt) 10000 1 (sg stt) 0).1 else bd)), .int (nI (if j25 = 0 then (prf (postOf sts drw (nxF fx)) (nrF (nF sts drw (nxF fx) (badOf sts drw (bdF fb)))) (widM sts) (fs 2) (sg stt) 10000 1 (sg stt) 0).2.2 else rd))])), (xs, aI G 5 fs), (xn, aI G 512 fx), (xb, aZ G 512 fb)] := hD
                    refine lv_lstore (lv' := [(7, .long (fnM sts (sel4 j25 (prf (postOf sts drw (nxF fx)) (nrF (nF sts drw (nxF fx) (badOf sts drw (bdF fb)))) (widM sts) (fs 2) (sg stt) 10000 1 (sg stt) 0).2.1 (gr (postOf sts drw (nxF fx)) 64 (sg stt)) (badOf sts drw (bdF fb)) ((nF sts drw (nxF fx) (badOf sts drw (bdF fb))) 63)) jj a)), (0, .ref qm), (1, .int (nI j25)), (2, .long (sel4 j25 (prf (postOf sts drw (nxF fx)) (nrF (nF sts drw (nxF fx) (badOf sts drw (bdF fb)))) (widM sts) (fs 2) (sg stt) 10000 1 (sg stt) 0).2.1 (gr (postOf sts drw (nxF fx)) 64 (sg stt)) (badOf sts drw (bdF fb)) ((nF sts drw (nxF fx) (badOf sts drw (bdF fb))) 63))), (4, .int (nI c2)), (5, .int (nI jj)), (6, .int (nI a))]) hx hb dM_size_88 hl (by decide) rfl (fun ls hl => ?_)
                    refine lv_lload hx hb dM_size_90 (lv_at hl 0 rfl) ?_
                    refine lv_aload_n hx hb dM_size_92 rfl (lv_at hl 1 rfl) ?_
                    refine va_get (D := gD G) (ci := 6) (v := .int (nI sts)) (C := "CircuitProverModel") (T := TM) (N := 20) hx hb htb inM hown hK hP 0 rfl rfl 13 (by decide) (htb _ b684) (fun _ h9 => h9) rfl dM_size_93 ?_
                    refine lv_iload hx hb dM_size_96 (lv_at hl 5 rfl) ?_
                    have hqd := Nat.div_le_self sts (2 ^ jj)
                    refine lv_ishr hx hb dM_size_98 ?_
                    refine k_toi (y := nI (sts / 2 ^ jj)) (shrn (by omega) (by omega)) ?_
                    refine k_toi (y := nI (2 * 2 ^ (fs 2 - jj - 1))) (by rw [hs2, (p2_split (L := fs 2) (j := jj) (by omega)).1]) ?_
                    refine k_i (ws2 := fun u => [(qm, .inr (6, [.int (nI 0), .int (nI ul), .ref xt, .int (nI pt), .ref xh, .ref xi, .ref xl, .ref xo, .ref xg, .ref xd, .int (zB ld), .ref xs, .int (nI stt), .int (nI sts), .int (nI drw), .ref xn, .ref xb, .ref xv, .int (nI (if j25 = 0 then (prf (postOf sts drw (nxF fx)) (nrF (nF sts drw (nxF fx) (badOf sts drw (bdF fb)))) (widM sts) (fs 2) (sg stt) 10000 1 (sg stt) 0).1 else bd)), .int (nI (if j25 = 0 then (prf (postOf sts drw (nxF fx)) (nrF (nF sts drw (nxF fx) (badOf sts drw (bdF fb)))) (widM sts) (fs 2) (sg stt) 10000 1 (sg stt) 0).2.2 else rd))])), (xs, aI G 5 fs), (xn, aI G 512 fx), (xb, aZ G 512 fb)]) (wr := [(qm, .inr (6, [.int (nI 0), .int (nI ul), .ref xt, .int (nI pt), .ref xh, .ref xi, .ref xl, .ref xo, .ref xg, .ref xd, .int (zB ld), .ref xs, .int (nI stt), .int (nI sts), .int (nI drw), .ref xn, .ref xb, .ref xv, .int (nI (if j25 = 0 then (prf (postOf sts drw (nxF fx)) (nrF (nF sts drw (nxF fx) (badOf sts drw (bdF fb)))) (widM sts) (fs 2) (sg stt) 10000 1 (sg stt) 0).1 else bd)), .int (nI (if j25 = 0 then (prf (postOf sts drw (nxF fx)) (nrF (nF sts drw (nxF fx) (badOf sts drw (bdF fb)))) (widM sts) (fs 2) (sg stt) 10000 1 (sg stt) 0).2.2 else rd))])), (xs, aI G 5 fs), (xn, aI G 512 fx), (xb, aZ G 512 fb)]) (k_runS (n := 2) (As := [.long (fnM sts (sel4 j25 (prf (postOf sts drw (nxF fx)) (nrF (nF sts drw (nxF fx) (badOf sts drw (bdF fb)))) (widM sts) (fs 2) (sg stt) 10000 1 (sg stt) 0).2.1 (gr (postOf sts drw (nxF fx)) 64 (sg stt)) (badOf sts drw (bdF fb)) ((nF sts drw (nxF fx) (badOf sts drw (bdF fb))) 63)) jj a), .int (nI (2 * 2 ^ (fs 2 - jj - 1)))]) (rest := []) (wc := []) hx hb hml hown htb hP hD hK hS hA hE (k_M_hangs l G H.size (fnM sts (sel4 j25 (prf (postOf sts drw (nxF fx)) (nrF (nF sts drw (nxF fx) (badOf sts drw (bdF fb)))) (widM sts) (fs 2) (sg stt) 10000 1 (sg stt) 0).2.1 (gr (postOf sts drw (nxF fx)) 64 (sg stt)) (badOf sts drw (bdF fb)) ((nF sts drw (nxF fx) (badOf sts drw (bdF fb))) 63)) jj a) (2 ^ (fs 2 - jj - 1)) (show (2 ^ (fs 2 - jj - 1)) ≤ 32 from p32_le (by omega))) b889 b890 b7 b891 (by decide +kernel) rfl rfl ⟨by rw [hRf]; exact Nat.le_of_ble_eq_true rfl, by rw [hRl]; exact Nat.le_of_ble_eq_true rfl⟩ [] rfl (by decide) rfl hl.1 rfl (Nat.le_of_ble_eq_true rfl) dM_size_99 ⟨Nat.zero_le _, Nat.zero_le _⟩) hP hD hS hA [] [0, 1, 2, 3] [0, 1, 2, 3] rfl rfl (by decide) (by decide) (fun u => rfl) (by decide) (fun r u H locs hw hP hD hS => ?_)
                    obtain ⟨rfl, rfl⟩ := hw
                    have hP : va_P (gD G) vC [(qm, .inr (6, [.int (nI 0), .int (nI ul), .ref xt, .int (nI pt), .ref xh, .ref xi, .ref xl, .ref xo, .ref xg, .ref xd, .int (zB ld), .ref xs, .int (nI stt), .int (nI sts), .int (nI drw), .ref xn, .ref xb, .ref xv, .int (nI (if j25 = 0 then (prf (postOf sts drw (nxF fx)) (nrF (nF sts drw (nxF fx) (badOf sts drw (bdF fb)))) (widM sts) (fs 2) (sg stt) 10000 1 (sg stt) 0).1 else bd)), .int (nI (if j25 = 0 then (prf (postOf sts drw (nxF fx)) (nrF (nF sts drw (nxF fx) (badOf sts drw (bdF fb)))) (widM sts) (fs 2) (sg stt) 10000 1 (sg stt) 0).2.2 else rd))])), (xs, aI G 5 fs), (xn, aI G 512 fx), (xb, aZ G 512 fb)] H := hP
                    have hD : va_D A [(qm, .inr (6, [.int (nI 0), .int (nI ul), .ref xt, .int (nI pt), .ref xh, .ref xi, .ref xl, .ref xo, .ref xg, .ref xd, .int (zB ld), .ref xs, .int (nI stt), .int (nI sts), .int (nI drw), .ref xn, .ref xb, .ref xv, .int (nI (if j25 = 0 then (prf (postOf sts drw (nxF fx)) (nrF (nF sts drw (nxF fx) (badOf sts drw (bdF fb)))) (widM sts) (fs 2) (sg stt) 10000 1 (sg stt) 0).1 else bd)), .int (nI (if j25 = 0 then (prf (postOf sts drw (nxF fx)) (nrF (nF sts drw (nxF fx) (badOf sts drw (bdF fb)))) (widM sts) (fs 2) (sg stt) 10000 1 (sg stt) 0).2.2 else rd))])), (xs, aI G 5 fs), (xn, aI G 512 fx), (xb, aZ G 512 fb)] := hD
                    refine lv_istore (lv' := [(9, .int (zB (hangM (fnM sts (sel4 j25 (prf (postOf sts drw (nxF fx)) (nrF (nF sts drw (nxF fx) (badOf sts drw (bdF fb)))) (widM sts) (fs 2) (sg stt) 10000 1 (sg stt) 0).2.1 (gr (postOf sts drw (nxF fx)) 64 (sg stt)) (badOf sts drw (bdF fb)) ((nF sts drw (nxF fx) (badOf sts drw (bdF fb))) 63)) jj a) (2 ^ (fs 2 - jj - 1))))), (7, .long (fnM sts (sel4 j25 (prf (postOf sts drw (nxF fx)) (nrF (nF sts drw (nxF fx) (badOf sts drw (bdF fb)))) (widM sts) (fs 2) (sg stt) 10000 1 (sg stt) 0).2.1 (gr (postOf sts drw (nxF fx)) 64 (sg stt)) (badOf sts drw (bdF fb)) ((nF sts drw (nxF fx) (badOf sts drw (bdF fb))) 63)) jj a)), (0, .ref qm), (1, .int (nI j25)), (2, .long (sel4 j25 (prf (postOf sts drw (nxF fx)) (nrF (nF sts drw (nxF fx) (badOf sts drw (bdF fb)))) (widM sts) (fs 2) (sg stt) 10000 1 (sg stt) 0).2.1 (gr (postOf sts drw (nxF fx)) 64 (sg stt)) (badOf sts drw (bdF fb)) ((nF sts drw (nxF fx) (badOf sts drw (bdF fb))) 63))), (4, .int (nI c2)), (5, .int (nI jj)), (6, .int (nI a))]) hx hb dM_size_102 hl (by decide) rfl (fun ls hl => ?_)
                    refine lv_iconst (v := nI 0) hx hb dM_size_104 (by decide) ?_
                    refine lv_istore (lv' := [(10, .int (nI 0)), (9, .int (zB (hangM (fnM sts (sel4 j25 (prf (postOf sts drw (nxF fx)) (nrF (nF sts drw (nxF fx) (badOf sts drw (bdF fb)))) (widM sts) (fs 2) (sg stt) 10000 1 (sg stt) 0).2.1 (gr (postOf sts drw (nxF fx)) 64 (sg stt)) (badOf sts drw (bdF fb)) ((nF sts drw (nxF fx) (badOf sts drw (bdF fb))) 63)) jj a) (2 ^ (fs 2 - jj - 1))))), (7, .long (fnM sts (sel4 j25 (prf (postOf sts drw (nxF fx)) (nrF (nF sts drw (nxF fx) (badOf sts drw (bdF fb)))) (widM sts) (fs 2) (sg stt) 10000 1 (sg stt) 0).2.1 (gr (postOf sts drw (nxF fx)) 64 (sg stt)) (badOf sts drw (bdF fb)) ((nF sts drw (nxF fx) (badOf sts drw (bdF fb))) 63)) jj a)), (0, .ref qm), (1, .int (nI j25)), (2, .long (sel4 j25 (prf (postOf sts drw (nxF fx)) (nrF (nF sts drw (nxF fx) (badOf sts drw (bdF fb)))) (widM sts) (fs 2) (sg stt) 10000 1 (sg stt) 0).2.1 (gr (postOf sts drw (nxF fx)) 64 (sg stt)) (badOf sts drw (bdF fb)) ((nF sts drw (nxF fx) (badOf sts drw (bdF fb))) 63))), (4, .int (nI c2)), (5, .int (nI jj)), (6, .int (nI a))]) hx hb dM_size_105 hl (by decide) rfl (fun ls hl => ?_)
                    have loop107 : ∀ (n : Nat) (g : Bool) (b : Nat) (H : Heap) (locs : List Loc) (ls : Array Slot), a - b < n → (b ≤ a) → (g = (hangM (fnM sts (sel4 j25 (prf (postOf sts drw (nxF fx)) (nrF (nF sts drw (nxF fx) (badOf sts drw (bdF fb)))) (widM sts) (fs 2) (sg stt) 10000 1 (sg stt) 0).2.1 (gr (postOf sts drw (nxF fx)) 64 (sg stt)) (badOf sts drw (bdF fb)) ((nF sts drw (nxF fx) (badOf sts drw (bdF fb))) 63)) jj a) (2 ^ (fs 2 - jj - 1)) && !anyN (fun bx => decide (fnM sts (sel4 j25 (prf (postOf sts drw (nxF fx)) (nrF (nF sts drw (nxF fx) (badOf sts drw (bdF fb)))) (widM sts) (fs 2) (sg stt) 10000 1 (sg stt) 0).2.1 (gr (postOf sts drw (nxF fx)) 64 (sg stt)) (badOf sts drw (bdF fb)) ((nF sts drw (nxF fx) (badOf sts drw (bdF fb))) 63)) jj bx = fnM sts (sel4 j25 (prf (postOf sts drw (nxF fx)) (nrF (nF sts drw (nxF fx) (badOf sts drw (bdF fb)))) (widM sts) (fs 2) (sg stt) 10000 1 (sg stt) 0).2.1 (gr (postOf sts drw (nxF fx)) 64 (sg stt)) (badOf sts drw (bdF fb)) ((nF sts drw (nxF fx) (badOf sts drw (bdF fb))) 63)) jj a)) b)) → va_P (gD G) vC [(qm, .inr (6, [.int (nI 0), .int (nI ul), .ref xt, .int (nI pt), .ref xh, .ref xi, .ref xl, .ref xo, .ref xg, .ref xd, .int (zB ld), .ref xs, .int (nI stt), .int (nI sts), .int (nI drw), .ref xn, .ref xb, .ref xv, .int (nI (if j25 = 0 then (prf (postOf sts drw (nxF fx)) (nrF (nF sts drw (nxF fx) (badOf sts drw (bdF fb)))) (widM sts) (fs 2) (sg stt) 10000 1 (sg stt) 0).1 else bd)), .int (nI (if j25 = 0 then (prf (postOf sts drw (nxF fx)) (nrF (nF sts drw (nxF fx) (badOf sts drw (bdF fb)))) (widM sts) (fs 2) (sg stt) 10000 1 (sg stt) 0).2.2 else rd))])), (xs, aI G 5 fs), (xn, aI G 512 fx), (xb, aZ G 512 fb)] H → va_D A [(qm, .inr (6, [.int (nI 0), .int (nI ul), .ref xt, .int (nI pt), .ref xh, .ref xi, .ref xl, .ref xo, .ref xg, .ref xd, .int (zB ld), .ref xs, .int (nI stt), .int (nI sts), .int (nI drw), .ref xn, .ref xb, .ref xv, .int (nI (if j25 = 0 then (prf (postOf sts drw (nxF fx)) (nrF (nF sts drw (nxF fx) (badOf sts drw (bdF fb)))) (widM sts) (fs 2) (sg stt) 10000 1 (sg stt) 0).1 else bd)), .int (nI (if j25 = 0 then (prf (postOf sts drw (nxF fx)) (nrF (nF sts drw (nxF fx) (badOf sts drw (bdF fb)))) (widM sts) (fs 2) (sg stt) 10000 1 (sg stt) 0).2.2 else rd))])), (xs, aI G 5 fs), (xn, aI G 512 fx), (xb, aZ G 512 fb)] → va_S A s.heap H locs → lv_has ls 11 [(0, .ref qm), (1, .int (nI j25)), (2, .long (sel4 j25 (prf (postOf sts drw (nxF fx)) (nrF (nF sts drw (nxF fx) (badOf sts drw (bdF fb)))) (widM sts) (fs 2) (sg stt) 10000 1 (sg stt) 0).2.1 (gr (postOf sts drw (nxF fx)) 64 (sg stt)) (badOf sts drw (bdF fb)) ((nF sts drw (nxF fx) (badOf sts drw (bdF fb))) 63))), (4, .int (nI c2)), (5, .int (nI jj)), (6, .int (nI a)), (7, .long (fnM sts (sel4 j25 (prf (postOf sts drw (nxF fx)) (nrF (nF sts drw (nxF fx) (badOf sts drw (bdF fb)))) (widM sts) (fs 2) (sg stt) 10000 1 (sg stt) 0).2.1 (gr (postOf sts drw (nxF fx)) 64 (sg stt)) (badOf sts drw (bdF fb)) ((nF sts drw (nxF fx) (badOf sts drw (bdF fb))) 63)) jj a)), (9, .int (zB g)), (10, .int (nI b))] → W p l e R s m args below meth c H locs 0 0 Q (F0 m 107 ls []) := by
                      intro n
                      induction n with
                      | zero => intro g b H locs ls hmu; omega
                      | succ n ih =>
                        intro g b H locs ls hmu hbb hg hP hD hS hl
                        have ih107 := ih
                        clear ih
                        refine lv_iload hx hb dM_size_107 (lv_at hl 8 rfl) ?_
                        refine lv_iload hx hb dM_size_109 (lv_at hl 5 rfl) ?_
                        refine lv_icmp_ge (tgt := 147) hx hb dM_size_111 rfl (fun h111 => ?_) (fun h111 => ?_)
                        · have h111 : a ≤ b := (nI_leI (a := a) (b := b) (by omega) (by omega)).mp h111
                          refine lv_iload hx hb dM_size_147 (lv_at hl 3 rfl) ?_
                          refine lv_iload hx hb dM_size_149 (lv_at hl 7 rfl) ?_
                          refine lv_if_eq (tgt := 158) hx hb dM_size_151 rfl (fun h151 => ?_) (fun h151 => ?_)
                          · have h151 : g = false := zB_f h151
                            refine lv_iconst (v := nI 0) hx hb dM_size_158 (by decide) ?_
                            refine lv_iadd hx hb dM_size_159 ?_
                            refine k_toi (y := nI (c2 + 0)) (nI_add _ _) ?_
                            refine lv_istore (lv' := [(4, .int (nI (c2 + 0))), (0, .ref qm), (1, .int (nI j25)), (2, .long (sel4 j25 (prf (postOf sts drw (nxF fx)) (nrF (nF sts drw (nxF fx) (badOf sts drw (bdF fb)))) (widM sts) (fs 2) (sg stt) 10000 1 (sg stt) 0).2.1 (gr (postOf sts drw (nxF fx)) 64 (sg stt)) (badOf sts drw (bdF fb)) ((nF sts drw (nxF fx) (badOf sts drw (bdF fb))) 63))), (5, .int (nI jj)), (6, .int (nI a)), (7, .long (fnM sts (sel4 j25 (prf (postOf sts drw (nxF fx)) (nrF (nF sts drw (nxF fx) (badOf sts drw (bdF fb)))) (widM sts) (fs 2) (sg stt) 10000 1 (sg stt) 0).2.1 (gr (postOf sts drw (nxF fx)) 64 (sg stt)) (badOf sts drw (bdF fb)) ((nF sts drw (nxF fx) (badOf sts drw (bdF fb))) 63)) jj a)), (9, .int (zB g)), (10, .int (nI b))]) hx hb dM_size_160 hl (by decide) rfl (fun ls hl => ?_)
                            refine lv_iinc (v := nI (a + 1)) (lv' := [(6, .int (nI (a + 1))), (4, .int (nI (c2 + 0))), (0, .ref qm), (1, .int (nI j25)), (2, .long (sel4 j25 (prf (postOf sts drw (nxF fx)) (nrF (nF sts drw (nxF fx) (badOf sts drw (bdF fb)))) (widM sts) (fs 2) (sg stt) 10000 1 (sg stt) 0).2.1 (gr (postOf sts drw (nxF fx)) 64 (sg stt)) (badOf sts drw (bdF fb)) ((nF sts drw (nxF fx) (badOf sts drw (bdF fb))) 63))), (5, .int (nI jj)), (7, .long (fnM sts (sel4 j25 (prf (postOf sts drw (nxF fx)) (nrF (nF sts drw (nxF fx) (badOf sts drw (bdF fb)))) (widM sts) (fs 2) (sg stt) 10000 1 (sg stt) 0).2.1 (gr (postOf sts drw (nxF fx)) 64 (sg stt)) (badOf sts drw (bdF fb)) ((nF sts drw (nxF fx) (badOf sts drw (bdF fb))) 63)) jj a)), (9, .int (zB g)), (10, .int (nI b))]) hx hb dM_size_162 hl (k := 5) rfl (nI_add _ 1) (by decide) rfl (fun ls hl => ?_)
                            refine lv_goto (tgt := 70) hx hb dM_size_165 rfl ?_
                            have hl : lv_has ls 11 [(0, .ref qm), (1, .int (nI j25)), (2, .long (sel4 j25 (prf (postOf sts drw (nxF fx)) (nrF (nF sts drw (nxF fx) (badOf sts drw (bdF fb)))) (widM sts) (fs 2) (sg stt) 10000 1 (sg stt) 0).2.1 (gr (postOf sts drw (nxF fx)) 64 (sg stt)) (badOf sts drw (bdF fb)) ((nF sts drw (nxF fx) (badOf sts drw (bdF fb))) 63))), (4, .int (nI (c2 + 0))), (5, .int (nI jj)), (6, .int (nI (a + 1)))] := lv_sub hl [2, 3, 4, 1, 5, 0] rfl
                            exact ih70 (c2 + 0) (a + 1) _ _ _ (by omega) (by omega) (by rw [hc2]; first | exact cnt_t (by unfold frM; rw [show b = a by omega] at hg; rw [← hg]; exact h151) | exact cnt_f (by unfold frM; rw [show b = a by omega] at hg; rw [← hg]; exact h151) | exact cnt_f (by unfold frM; exact fr_stop hbb (by rw [← hg]; exact h116))) hP hD hS hl
                          · have h151 : g = true := zB_t h151
                            refine lv_iconst (v := nI 1) hx hb dM_size_154 (by decide) ?_
                            refine lv_goto (tgt := 159) hx hb dM_size_155 rfl ?_
                            refine lv_iadd hx hb dM_size_159 ?_
                            refine k_toi (y := nI (c2 + 1)) (nI_add _ _) ?_
                            refine lv_istore (lv' := [(4, .int (nI (c2 + 1))), (0, .ref qm), (1, .int (nI j25)), (2, .long (sel4 j25 (prf (postOf sts drw (nxF fx)) (nrF (nF sts drw (nxF fx) (badOf sts drw (bdF fb)))) (widM sts) (fs 2) (sg stt) 10000 1 (sg stt) 0).2.1 (gr (postOf sts drw (nxF fx)) 64 (sg stt)) (badOf sts drw (bdF fb)) ((nF sts drw (nxF fx) (badOf sts drw (bdF fb))) 63))), (5, .int (nI jj)), (6, .int (nI a)), (7, .long (fnM sts (sel4 j25 (prf (postOf sts drw (nxF fx)) (nrF (nF sts drw (nxF fx) (badOf sts drw (bdF fb)))) (widM sts) (fs 2) (sg stt) 10000 1 (sg stt) 0).2.1 (gr (postOf sts drw (nxF fx)) 64 (sg stt)) (badOf sts drw (bdF fb)) ((nF sts drw (nxF fx) (badOf sts drw (bdF fb))) 63)) jj a)), (9, .int (zB g)), (10, .int (nI b))]) hx hb dM_size_160 hl (by decide) rfl (fun ls hl => ?_)
                            refine lv_iinc (v := nI (a + 1)) (lv' := [(6, .int (nI (a + 1))), (4, .int (nI (c2 + 1))), (0, .ref qm), (1, .int (nI j25)), (2, .long (sel4 j25 (prf (postOf sts drw (nxF fx)) (nrF (nF sts drw (nxF fx) (badOf sts drw (bdF fb)))) (widM sts) (fs 2) (sg stt) 10000 1 (sg stt) 0).2.1 (gr (postOf sts drw (nxF fx)) 64 (sg stt)) (badOf sts drw (bdF fb)) ((nF sts drw (nxF fx) (badOf sts drw (bdF fb))) 63))), (5, .int (nI jj)), (7, .long (fnM sts (sel4 j25 (prf (postOf sts drw (nxF fx)) (nrF (nF sts drw (nxF fx) (badOf sts drw (bdF fb)))) (widM sts) (fs 2) (sg stt) 10000 1 (sg stt) 0).2.1 (gr (postOf sts drw (nxF fx)) 64 (sg stt)) (badOf sts drw (bdF fb)) ((nF sts drw (nxF fx) (badOf sts drw (bdF fb))) 63)) jj a)), (9, .int (zB g)), (10, .int (nI b))]) hx hb dM_size_162 hl (k := 5) rfl (nI_add _ 1) (by decide) rfl (fun ls hl => ?_)
                            refine lv_goto (tgt := 70) hx hb dM_size_165 rfl ?_
                            have hl : lv_has ls 11 [(0, .ref qm), (1, .int (nI j25)), (2, .long (sel4 j25 (prf (postOf sts drw (nxF fx)) (nrF (nF sts drw (nxF fx) (badOf sts drw (bdF fb)))) (widM sts) (fs 2) (sg stt) 10000 1 (sg stt) 0).2.1 (gr (postOf sts drw (nxF fx)) 64 (sg stt)) (badOf sts drw (bdF fb)) ((nF sts drw (nxF fx) (badOf sts drw (bdF fb))) 63))), (4, .int (nI (c2 + 1))), (5, .int (nI jj)), (6, .int (nI (a + 1)))] := lv_sub hl [2, 3, 4, 1, 5, 0] rfl
                            exact ih70 (c2 + 1) (a + 1) _ _ _ (by omega) (by omega) (by rw [hc2]; first | exact cnt_t (by unfold frM; rw [show b = a by omega] at hg; rw [← hg]; exact h151) | exact cnt_f (by unfold frM; rw [show b = a by omega] at hg; rw [← hg]; exact h151) | exact cnt_f (by unfold frM; exact fr_stop hbb (by rw [← hg]; exact h116))) hP hD hS hl
                        · have h111 : b < a := Nat.lt_of_not_le (fun z => h111 ((nI_leI (a := a) (b := b) (by omega) (by omega)).mpr z))
                          refine lv_iload hx hb dM_size_114 (lv_at hl 7 rfl) ?_
                          refine lv_if_eq (tgt := 147) hx hb dM_size_116 rfl (fun h116 => ?_) (fun h116 => ?_)
                          · have h116 : g = false := zB_f h116
                            refine lv_iload hx hb dM_size_147 (lv_at hl 3 rfl) ?_
                            refine lv_iload hx hb dM_size_149 (lv_at hl 7 rfl) ?_
                            refine lv_if_eq (tgt := 158) hx hb dM_size_151 rfl (fun _ => ?_) (fun h151 => absurd (zB_t h151) (by rw [h116]; decide))
                            refine lv_iconst (v := nI 0) hx hb dM_size_158 (by decide) ?_
                            refine lv_iadd hx hb dM_size_159 ?_
                            refine k_toi (y := nI (c2 + 0)) (nI_add _ _) ?_
                            refine lv_istore (lv' := [(4, .int (nI (c2 + 0))), (0, .ref qm), (1, .int (nI j25)), (2, .long (sel4 j25 (prf (postOf sts drw (nxF fx)) (nrF (nF sts drw (nxF fx) (badOf sts drw (bdF fb)))) (widM sts) (fs 2) (sg stt) 10000 1 (sg stt) 0).2.1 (gr (postOf sts drw (nxF fx)) 64 (sg stt)) (badOf sts drw (bdF fb)) ((nF sts drw (nxF fx) (badOf sts drw (bdF fb))) 63))), (5, .int (nI jj)), (6, .int (nI a)), (7, .long (fnM sts (sel4 j25 (prf (postOf sts drw (nxF fx)) (nrF (nF sts drw (nxF fx) (badOf sts drw (bdF fb)))) (widM sts) (fs 2) (sg stt) 10000 1 (sg stt) 0).2.1 (gr (postOf sts drw (nxF fx)) 64 (sg stt)) (badOf sts drw (bdF fb)) ((nF sts drw (nxF fx) (badOf sts drw (bdF fb))) 63)) jj a)), (9, .int (zB g)), (10, .int (nI b))]) hx hb dM_size_160 hl (by decide) rfl (fun ls hl => ?_)
                            refine lv_iinc (v := nI (a + 1)) (lv' := [(6, .int (nI (a + 1))), (4, .int (nI (c2 + 0))), (0, .ref qm), (1, .int (nI j25)), (2, .long (sel4 j25 (prf (postOf sts drw (nxF fx)) (nrF (nF sts drw (nxF fx) (badOf sts drw (bdF fb)))) (widM sts) (fs 2) (sg stt) 10000 1 (sg stt) 0).2.1 (gr (postOf sts drw (nxF fx)) 64 (sg stt)) (badOf sts drw (bdF fb)) ((nF sts drw (nxF fx) (badOf sts drw (bdF fb))) 63))), (5, .int (nI jj)), (7, .long (fnM sts (sel4 j25 (prf (postOf sts drw (nxF fx)) (nrF (nF sts drw (nxF fx) (badOf sts drw (bdF fb)))) (widM sts) (fs 2) (sg stt) 10000 1 (sg stt) 0).2.1 (gr (postOf sts drw (nxF fx)) 64 (sg stt)) (badOf sts drw (bdF fb)) ((nF sts drw (nxF fx) (badOf sts drw (bdF fb))) 63)) jj a)), (9, .int (zB g)), (10, .int (nI b))]) hx hb dM_size_162 hl (k := 5) rfl (nI_add _ 1) (by decide) rfl (fun ls hl => ?_)
                            refine lv_goto (tgt := 70) hx hb dM_size_165 rfl ?_
                            have hl : lv_has ls 11 [(0, .ref qm), (1, .int (nI j25)), (2, .long (sel4 j25 (prf (postOf sts drw (nxF fx)) (nrF (nF sts drw (nxF fx) (badOf sts drw (bdF fb)))) (widM sts) (fs 2) (sg stt) 10000 1 (sg stt) 0).2.1 (gr (postOf sts drw (nxF fx)) 64 (sg stt)) (badOf sts drw (bdF fb)) ((nF sts drw (nxF fx) (badOf sts drw (bdF fb))) 63))), (4, .int (nI (c2 + 0))), (5, .int (nI jj)), (6, .int (nI (a + 1)))] := lv_sub hl [2, 3, 4, 1, 5, 0] rfl
                            exact ih70 (c2 + 0) (a + 1) _ _ _ (by omega) (by omega) (by rw [hc2]; first | exact cnt_t (by unfold frM; rw [show b = a by omega] at hg; rw [← hg]; exact h151) | exact cnt_f (by unfold frM; rw [show b = a by omega] at hg; rw [← hg]; exact h151) | exact cnt_f (by unfold frM; exact fr_stop hbb (by rw [← hg]; exact h116))) hP hD hS hl
                          · have h116 : g = true := zB_t h116
                            refine lv_aload_n hx hb dM_size_119 rfl (lv_at hl 0 rfl) ?_
                            refine lv_lload_n hx hb dM_size_120 rfl (lv_at hl 2 rfl) ?_
                            refine lv_iload hx hb dM_size_121 (lv_at hl 4 rfl) ?_
                            refine lv_iload hx hb dM_size_123 (lv_at hl 8 rfl) ?_
                            refine k_l (ws2 := fun u => [(qm, .inr (6, [.int (nI 0), .int (nI ul), .ref xt, .int (nI pt), .ref xh, .ref xi, .ref xl, .ref xo, .ref xg, .ref xd, .int (zB ld), .ref xs, .int (nI stt), .int (nI sts), .int (nI drw), .ref xn, .ref xb, .ref xv, .int (nI (if j25 = 0 then (prf (postOf sts drw (nxF fx)) (nrF (nF sts drw (nxF fx) (badOf sts drw (bdF fb)))) (widM sts) (fs 2) (sg stt) 10000 1 (sg stt) 0).1 else bd)), .int (nI (if j25 = 0 then (prf (postOf sts drw (nxF fx)) (nrF (nF sts drw (nxF fx) (badOf sts drw (bdF fb)))) (widM sts) (fs 2) (sg stt) 10000 1 (sg stt) 0).2.2 else rd))])), (xs, aI G 5 fs), (xn, aI G 512 fx), (xb, aZ G 512 fb)]) (wr := [(xs, aI G 5 fs), (xn, aI G 512 fx), (xb, aZ G 512 fb)]) (k_runV (n := 3) (As := [.long (sel4 j25 (prf (postOf sts drw (nxF fx)) (nrF (nF sts drw (nxF fx) (badOf sts drw (bdF fb)))) (widM sts) (fs 2) (sg stt) 10000 1 (sg stt) 0).2.1 (gr (postOf sts drw (nxF fx)) 64 (sg stt)) (badOf sts drw (bdF fb)) ((nF sts drw (nxF fx) (badOf sts drw (bdF fb))) 63)), .int (nI jj), .int (nI b)]) (rest := []) hx hb hml hown htb hP hD hK hS hA hE (k_M_rest l G H.size qm xt xh xi xl xo xg xd xs xn xb xv 0 ul pt ld stt sts drw (if j25 = 0 then (prf (postOf sts drw (nxF fx)) (nrF (nF sts drw (nxF fx) (badOf sts drw (bdF fb)))) (widM sts) (fs 2) (sg stt) 10000 1 (sg stt) 0).1 else bd) (if j25 = 0 then (prf (postOf sts drw (nxF fx)) (nrF (nF sts drw (nxF fx) (badOf sts drw (bdF fb)))) (widM sts) (fs 2) (sg stt) 10000 1 (sg stt) 0).2.2 else rd) (sel4 j25 (prf (postOf sts drw (nxF fx)) (nrF (nF sts drw (nxF fx) (badOf sts drw (bdF fb)))) (widM sts) (fs 2) (sg stt) 10000 1 (sg stt) 0).2.1 (gr (postOf sts drw (nxF fx)) 64 (sg stt)) (badOf sts drw (bdF fb)) ((nF sts drw (nxF fx) (badOf sts drw (bdF fb))) 63)) jj b (show sts ≤ 64 from by omega) (show jj < 6 from by omega) (show b < 64 from by omega) (show ∀ t, t < sts / 2 ^ jj → b + t * 2 ^ jj < 64 from fun t ht => fn_in hla (by omega) (by omega) t (by rw [← hs2]; exact ht))) b885 b887 s51 b7 b888 (by decide +kernel) rfl rfl ⟨by rw [hRf]; exact Nat.le_of_ble_eq_true rfl, by rw [hRl]; exact Nat.le_of_ble_eq_true rfl⟩ [0] rfl (by decide) 0 rfl rfl rfl rfl hl.1 rfl (Nat.le_of_ble_eq_true rfl) dM_size_125 ⟨Nat.zero_le _, Nat.zero_le _⟩) hP hD hS hA [0] [1, 2, 3] [3, 0, 1, 2] rfl rfl (by decide) (by decide) (fun u => rfl) (by decide) (fun r u H locs hw hP hD hS => ?_)
                            obtain ⟨rfl, rfl⟩ := hw
                            have hP : va_P (gD G) vC [(qm, .inr (6, [.int (nI 0), .int (nI ul), .ref xt, .int (nI pt), .ref xh, .ref xi, .ref xl, .ref xo, .ref xg, .ref xd, .int (zB ld), .ref xs, .int (nI stt), .int (nI sts), .int (nI drw), .ref xn, .ref xb, .ref xv, .int (nI (if j25 = 0 then (prf (postOf sts drw (nxF fx)) (nrF (nF sts drw (nxF fx) (badOf sts drw (bdF fb)))) (widM sts) (fs 2) (sg stt) 10000 1 (sg stt) 0).1 else bd)), .int (nI (if j25 = 0 then (prf (postOf sts drw (nxF fx)) (nrF (nF sts drw (nxF fx) (badOf sts drw (bdF fb)))) (widM sts) (fs 2) (sg stt) 10000 1 (sg stt) 0).2.2 else rd))])), (xs, aI G 5 fs), (xn, aI G 512 fx), (xb, aZ G 512 fb)] H := hP
                            have hD : va_D A [(qm, .inr (6, [.int (nI 0), .int (nI ul), .ref xt, .int (nI pt), .ref xh, .ref xi, .ref xl, .ref xo, .ref xg, .ref xd, .int (zB ld), .ref xs, .int (nI stt), .int (nI sts), .int (nI drw), .ref xn, .ref xb, .ref xv, .int (nI (if j25 = 0 then (prf (postOf sts drw (nxF fx)) (nrF (nF sts drw (nxF fx) (badOf sts drw (bdF fb)))) (widM sts) (fs 2) (sg stt) 10000 1 (sg stt) 0).1 else bd)), .int (nI (if j25 = 0 then (prf (postOf sts drw (nxF fx)) (nrF (nF sts drw (nxF fx) (badOf sts drw (bdF fb)))) (widM sts) (fs 2) (sg stt) 10000 1 (sg stt) 0).2.2 else rd))])), (xs, aI G 5 fs), (xn, aI G 512 fx), (xb, aZ G 512 fb)] := hD
                            refine lv_lload hx hb dM_size_128 (lv_at hl 6 rfl) ?_
                            refine W.lcmp hx hb dM_size_130 ?_
                            refine lv_if_eq (tgt := 138) hx hb dM_size_131 rfl (fun h131 => ?_) (fun h131 => ?_)
                            · have h131 : (fnM sts (sel4 j25 (prf (postOf sts drw (nxF fx)) (nrF (nF sts drw (nxF fx) (badOf sts drw (bdF fb)))) (widM sts) (fs 2) (sg stt) 10000 1 (sg stt) 0).2.1 (gr (postOf sts drw (nxF fx)) 64 (sg stt)) (badOf sts drw (bdF fb)) ((nF sts drw (nxF fx) (badOf sts drw (bdF fb))) 63)) jj b) = (fnM sts (sel4 j25 (prf (postOf sts drw (nxF fx)) (nrF (nF sts drw (nxF fx) (badOf sts drw (bdF fb)))) (widM sts) (fs 2) (sg stt) 10000 1 (sg stt) 0).2.1 (gr (postOf sts drw (nxF fx)) 64 (sg stt)) (badOf sts drw (bdF fb)) ((nF sts drw (nxF fx) (badOf sts drw (bdF fb))) 63)) jj a) := (lg_cmp_eq _ _).mp h131
                              refine lv_iconst (v := nI 0) hx hb dM_size_138 (by decide) ?_
                              refine lv_istore (lv' := [(9, .int (nI 0)), (0, .ref qm), (1, .int (nI j25)), (2, .long (sel4 j25 (prf (postOf sts drw (nxF fx)) (nrF (nF sts drw (nxF fx) (badOf sts drw (bdF fb)))) (widM sts) (fs 2) (sg stt) 10000 1 (sg stt) 0).2.1 (gr (postOf sts drw (nxF fx)) 64 (sg stt)) (badOf sts drw (bdF fb)) ((nF sts drw (nxF fx) (badOf sts drw (bdF fb))) 63))), (4, .int (nI c2)), (5, .int (nI jj)), (6, .int (nI a)), (7, .long (fnM sts (sel4 j25 (prf (postOf sts drw (nxF fx)) (nrF (nF sts drw (nxF fx) (badOf sts drw (bdF fb)))) (widM sts) (fs 2) (sg stt) 10000 1 (sg stt) 0).2.1 (gr (postOf sts drw (nxF fx)) 64 (sg stt)) (badOf sts drw (bdF fb)) ((nF sts drw (nxF fx) (badOf sts drw (bdF fb))) 63)) jj a)), (10, .int (nI b))]) hx hb dM_size_139 hl (by decide) rfl (fun ls hl => ?_)
                              refine lv_iinc (v := nI (b + 1)) (lv' := [(10, .int (nI (b + 1))), (9, .int (nI 0)), (0, .ref qm), (1, .int (nI j25)), (2, .long (sel4 j25 (prf (postOf sts drw (nxF fx)) (nrF (nF sts drw (nxF fx) (badOf sts drw (bdF fb)))) (widM sts) (fs 2) (sg stt) 10000 1 (sg stt) 0).2.1 (gr (postOf sts drw (nxF fx)) 64 (sg stt)) (badOf sts drw (bdF fb)) ((nF sts drw (nxF fx) (badOf sts drw (bdF fb))) 63))), (4, .int (nI c2)), (5, .int (nI jj)), (6, .int (nI a)), (7, .long (fnM sts (sel4 j25 (prf (postOf sts drw (nxF fx)) (nrF (nF sts drw (nxF fx) (badOf sts drw (bdF fb)))) (widM sts) (fs 2) (sg stt) 10000 1 (sg stt) 0).2.1 (gr (postOf sts drw (nxF fx)) 64 (sg stt)) (badOf sts drw (bdF fb)) ((nF sts drw (nxF fx) (badOf sts drw (bdF fb))) 63)) jj a))]) hx hb dM_size_141 hl (k := 8) rfl (nI_add _ 1) (by decide) rfl (fun ls hl => ?_)
                              refine lv_goto (tgt := 107) hx hb dM_size_144 rfl ?_
                              have hl : lv_has ls 11 [(0, .ref qm), (1, .int (nI j25)), (2, .long (sel4 j25 (prf (postOf sts drw (nxF fx)) (nrF (nF sts drw (nxF fx) (badOf sts drw (bdF fb)))) (widM sts) (fs 2) (sg stt) 10000 1 (sg stt) 0).2.1 (gr (postOf sts drw (nxF fx)) 64 (sg stt)) (badOf sts drw (bdF fb)) ((nF sts drw (nxF fx) (badOf sts drw (bdF fb))) 63))), (4, .int (nI c2)), (5, .int (nI jj)), (6, .int (nI a)), (7, .long (fnM sts (sel4 j25 (prf (postOf sts drw (nxF fx)) (nrF (nF sts drw (nxF fx) (badOf sts drw (bdF fb)))) (widM sts) (fs 2) (sg stt) 10000 1 (sg stt) 0).2.1 (gr (postOf sts drw (nxF fx)) 64 (sg stt)) (badOf sts drw (bdF fb)) ((nF sts drw (nxF fx) (badOf sts drw (bdF fb))) 63)) jj a)), (9, .int (nI 0)), (10, .int (nI (b + 1)))] := lv_sub hl [2, 3, 4, 5, 6, 7, 8, 1, 0] rfl
                              exact ih107 false (b + 1) _ _ _ (by omega) (by omega) (by first | exact (fr_s1 (by simp [h131])).symm | exact (fr_s2 (by rw [← hg]; exact h116) (by simp [h131])).symm) hP hD hS hl
                            · have h131 : ¬ (fnM sts (sel4 j25 (prf (postOf sts drw (nxF fx)) (nrF (nF sts drw (nxF fx) (badOf sts drw (bdF fb)))) (widM sts) (fs 2) (sg stt) 10000 1 (sg stt) 0).2.1 (gr (postOf sts drw (nxF fx)) 64 (sg stt)) (badOf sts drw (bdF fb)) ((nF sts drw (nxF fx) (badOf sts drw (bdF fb))) 63)) jj b) = (fnM sts (sel4 j25 (prf (postOf sts drw (nxF fx)) (nrF (nF sts drw (nxF fx) (badOf sts drw (bdF fb)))) (widM sts) (fs 2) (sg stt) 10000 1 (sg stt) 0).2.1 (gr (postOf sts drw (nxF fx)) 64 (sg stt)) (badOf sts drw (bdF fb)) ((nF sts drw (nxF fx) (badOf sts drw (bdF fb))) 63)) jj a) := fun z => h131 ((lg_cmp_eq _ _).mpr z)
                              refine lv_iconst (v := nI 1) hx hb dM_size_134 (by decide) ?_
                              refine lv_goto (tgt := 139) hx hb dM_size_135 rfl ?_
                              refine lv_istore (lv' := [(9, .int (nI 1)), (0, .ref qm), (1, .int (nI j25)), (2, .long (sel4 j25 (prf (postOf sts drw (nxF fx)) (nrF (nF sts drw (nxF fx) (badOf sts drw (bdF fb)))) (widM sts) (fs 2) (sg stt) 10000 1 (sg stt) 0).2.1 (gr (postOf sts drw (nxF fx)) 64 (sg stt)) (badOf sts drw (bdF fb)) ((nF sts drw (nxF fx) (badOf sts drw (bdF fb))) 63))), (4, .int (nI c2)), (5, .int (nI jj)), (6, .int (nI a)), (7, .long (fnM sts (sel4 j25 (prf (postOf sts drw (nxF fx)) (nrF (nF sts drw (nxF fx) (badOf sts drw (bdF fb)))) (widM sts) (fs 2) (sg stt) 10000 1 (sg stt) 0).2.1 (gr (postOf sts drw (nxF fx)) 64 (sg stt)) (badOf sts drw (bdF fb)) ((nF sts drw (nxF fx) (badOf sts drw (bdF fb))) 63)) jj a)), (10, .int (nI b))]) hx hb dM_size_139 hl (by decide) rfl (fun ls hl => ?_)
                              refine lv_iinc (v := nI (b + 1)) (lv' := [(10, .int (nI (b + 1))), (9, .int (nI 1)), (0, .ref qm), (1, .int (nI j25)), (2, .long (sel4 j25 (prf (postOf sts drw (nxF fx)) (nrF (nF sts drw (nxF fx) (badOf sts drw (bdF fb)))) (widM sts) (fs 2) (sg stt) 10000 1 (sg stt) 0).2.1 (gr (postOf sts drw (nxF fx)) 64 (sg stt)) (badOf sts drw (bdF fb)) ((nF sts drw (nxF fx) (badOf sts drw (bdF fb))) 63))), (4, .int (nI c2)), (5, .int (nI jj)), (6, .int (nI a)), (7, .long (fnM sts (sel4 j25 (prf (postOf sts drw (nxF fx)) (nrF (nF sts drw (nxF fx) (badOf sts drw (bdF fb)))) (widM sts) (fs 2) (sg stt) 10000 1 (sg stt) 0).2.1 (gr (postOf sts drw (nxF fx)) 64 (sg stt)) (badOf sts drw (bdF fb)) ((nF sts drw (nxF fx) (badOf sts drw (bdF fb))) 63)) jj a))]) hx hb dM_size_141 hl (k := 8) rfl (nI_add _ 1) (by decide) rfl (fun ls hl => ?_)
                              refine lv_goto (tgt := 107) hx hb dM_size_144 rfl ?_
                              have hl : lv_has ls 11 [(0, .ref qm), (1, .int (nI j25)), (2, .long (sel4 j25 (prf (postOf sts drw (nxF fx)) (nrF (nF sts drw (nxF fx) (badOf sts drw (bdF fb)))) (widM sts) (fs 2) (sg stt) 10000 1 (sg stt) 0).2.1 (gr (postOf sts drw (nxF fx)) 64 (sg stt)) (badOf sts drw (bdF fb)) ((nF sts drw (nxF fx) (badOf sts drw (bdF fb))) 63))), (4, .int (nI c2)), (5, .int (nI jj)), (6, .int (nI a)), (7, .long (fnM sts (sel4 j25 (prf (postOf sts drw (nxF fx)) (nrF (nF sts drw (nxF fx) (badOf sts drw (bdF fb)))) (widM sts) (fs 2) (sg stt) 10000 1 (sg stt) 0).2.1 (gr (postOf sts drw (nxF fx)) 64 (sg stt)) (badOf sts drw (bdF fb)) ((nF sts drw (nxF fx) (badOf sts drw (bdF fb))) 63)) jj a)), (9, .int (nI 1)), (10, .int (nI (b + 1)))] := lv_sub hl [2, 3, 4, 5, 6, 7, 8, 1, 0] rfl
                              exact ih107 true (b + 1) _ _ _ (by omega) (by omega) (by first | exact (fr_s1 (by simp [h131])).symm | exact (fr_s2 (by rw [← hg]; exact h116) (by simp [h131])).symm) hP hD hS hl
                    have hl : lv_has ls 11 [(0, .ref qm), (1, .int (nI j25)), (2, .long (sel4 j25 (prf (postOf sts drw (nxF fx)) (nrF (nF sts drw (nxF fx) (badOf sts drw (bdF fb)))) (widM sts) (fs 2) (sg stt) 10000 1 (sg stt) 0).2.1 (gr (postOf sts drw (nxF fx)) 64 (sg stt)) (badOf sts drw (bdF fb)) ((nF sts drw (nxF fx) (badOf sts drw (bdF fb))) 63))), (4, .int (nI c2)), (5, .int (nI jj)), (6, .int (nI a)), (7, .long (fnM sts (sel4 j25 (prf (postOf sts drw (nxF fx)) (nrF (nF sts drw (nxF fx) (badOf sts drw (bdF fb)))) (widM sts) (fs 2) (sg stt) 10000 1 (sg stt) 0).2.1 (gr (postOf sts drw (nxF fx)) 64 (sg stt)) (badOf sts drw (bdF fb)) ((nF sts drw (nxF fx) (badOf sts drw (bdF fb))) 63)) jj a)), (9, .int (zB (hangM (fnM sts (sel4 j25 (prf (postOf sts drw (nxF fx)) (nrF (nF sts drw (nxF fx) (badOf sts drw (bdF fb)))) (widM sts) (fs 2) (sg stt) 10000 1 (sg stt) 0).2.1 (gr (postOf sts drw (nxF fx)) 64 (sg stt)) (badOf sts drw (bdF fb)) ((nF sts drw (nxF fx) (badOf sts drw (bdF fb))) 63)) jj a) (2 ^ (fs 2 - jj - 1))))), (10, .int (nI 0))] := lv_sub hl [3, 4, 5, 6, 7, 8, 2, 1, 0] rfl
                    exact loop107 (a - 0 + 1) (hangM (fnM sts (sel4 j25 (prf (postOf sts drw (nxF fx)) (nrF (nF sts drw (nxF fx) (badOf sts drw (bdF fb)))) (widM sts) (fs 2) (sg stt) 10000 1 (sg stt) 0).2.1 (gr (postOf sts drw (nxF fx)) 64 (sg stt)) (badOf sts drw (bdF fb)) ((nF sts drw (nxF fx) (badOf sts drw (bdF fb))) 63)) jj a) (2 ^ (fs 2 - jj - 1))) 0 _ _ _ (by omega) (by omega) (by rw [anyN]; simp) hP hD hS hl
              have hl : lv_has ls 11 [(0, .ref qm), (1, .int (nI j25)), (2, .long (sel4 j25 (prf (postOf sts drw (nxF fx)) (nrF (nF sts drw (nxF fx) (badOf sts drw (bdF fb)))) (widM sts) (fs 2) (sg stt) 10000 1 (sg stt) 0).2.1 (gr (postOf sts drw (nxF fx)) 64 (sg stt)) (badOf sts drw (bdF fb)) ((nF sts drw (nxF fx) (badOf sts drw (bdF fb))) 63))), (4, .int (nI c9)), (5, .int (nI jj)), (6, .int (nI 0))] := lv_sub hl [1, 2, 3, 4, 5, 0] rfl
              have hpj := p32_le (j := jj) (by omega)
              have hpz := Nat.two_pow_pos jj
              exact loop70 (2 ^ jj - 0 + 1) c9 0 _ _ _ (by omega) (by omega) rfl hP hD hS hl
        have hl : lv_has ls 11 [(0, .ref qm), (1, .int (nI j25)), (2, .long (sel4 j25 (prf (postOf sts drw (nxF fx)) (nrF (nF sts drw (nxF fx) (badOf sts drw (bdF fb)))) (widM sts) (fs 2) (sg stt) 10000 1 (sg stt) 0).2.1 (gr (postOf sts drw (nxF fx)) 64 (sg stt)) (badOf sts drw (bdF fb)) ((nF sts drw (nxF fx) (badOf sts drw (bdF fb))) 63))), (4, .int (nI 0)), (5, .int (nI 0))] := lv_sub hl [3, 4, 2, 1, 0] rfl
        exact loop56 (fs 2 - 0 + 1) 0 0 _ _ _ (by omega) (by omega) rfl hP hD hS hl
      · skip
        have hP : va_P (gD G) vC [(qm, .inr (6, [.int (nI 0), .int (nI ul), .ref xt, .int (nI pt), .ref xh, .ref xi, .ref xl, .ref xo, .ref xg, .ref xd, .int (zB ld), .ref xs, .int (nI stt), .int (nI sts), .int (nI drw), .ref xn, .ref xb, .ref xv, .int (nI bd), .int (nI rd)])), (xs, aI G 5 fs), (xn, aI G 512 fx), (xb, aZ G 512 fb)] H := hP
        have hD : va_D A [(qm, .inr (6, [.int (nI 0), .int (nI ul), .ref xt, .int (nI pt), .ref xh, .ref xi, .ref xl, .ref xo, .ref xg, .ref xd, .int (zB ld), .ref xs, .int (nI stt), .int (nI sts), .int (nI drw), .ref xn, .ref xb, .ref xv, .int (nI bd), .int (nI rd)])), (xs, aI G 5 fs), (xn, aI G 512 fx), (xb, aZ G 512 fb)] := hD
        refine lv_if_ne (tgt := 44) hx hb dM_size_28 rfl (fun h28 => (by revert h28; first | decide | exact fun z => absurd z (by decide) | exact fun z => z.elim (by decide))) (fun _ => ?_)
        refine lv_aload_n hx hb dM_size_31 rfl (lv_at hl 0 rfl) ?_
        refine va_get (D := gD G) (ci := 6) (v := .int (zB ld)) (C := "CircuitProverModel") (T := TM) (N := 20) hx hb htb inM hown hK hP 0 rfl rfl 10 (by decide) (htb _ b681) (fun _ h9 => h9) rfl dM_size_32 ?_
        refine lv_if_eq (tgt := 42) hx hb dM_size_35 rfl (fun h35 => absurd (zB_f h35) (by rw [h5]; decide)) (fun _ => ?_)
        refine lv_iconst (v := (-1)) hx hb dM_size_38 (by decide) ?_
        refine lv_goto (tgt := 43) hx hb dM_size_39 rfl ?_
        -- end 2
        rw [← hQ]
        exact k_iret hx hb hr hlocks rfl (u := (0, bd, rd)) (Or.inr (Or.inl ⟨h5, hc25_e, rfl, rfl⟩)) hP hD hK hS dM_size_43
  rw [hH, hlc] at hgo
  exact hgo
