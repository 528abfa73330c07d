/-! both sides over a run -/
def RL (kh : Nat → Nat) (la : Nat) (kb : Int64) (kn : Nat → Int64) (ko : Nat → Int64) (ns : Nat) (re : Int64) (sp : Int32) (lr : Nat) (rt : Nat) (vi : Int64) (na : Nat → Int64) (wy : Nat → Nat) (stt : Nat) (sts : Nat) (drw : Nat) (fs : Nat → Nat) (fx : Nat → Nat) (fb : Nat → Bool) : Prop :=
  (la = fs 2 ∧ sts = 2 ^ fs 2 ∧ fs 2 ≤ 6 ∧ 1 ≤ drw ∧ drw ≤ 8 ∧ stt < sts) ∧ (∀ c, c < 5 → kh c = fs c) ∧ (∀ a b, a < sts → b < drw → fx (8 * a + b) < sts) ∧ (∀ a b, a < sts → b < drw → nxC kn la a b = fx (8 * a + b)) ∧ (∀ a b, a < sts → b < drw → lb (ko b) a = fb (8 * a + b)) ∧
  (1 ≤ ns ∧ ns ≤ 64) ∧ (∀ j, j < ns → na j = (nF sts drw (nxF fx) (badOf sts drw (bdF fb))) j) ∧ (∀ j, ns - 1 ≤ j → (nF sts drw (nxF fx) (badOf sts drw (bdF fb))) j = (nF sts drw (nxF fx) (badOf sts drw (bdF fb))) (ns - 1)) ∧ kb = (badOf sts drw (bdF fb)) ∧ re = gr (postOf sts drw (nxF fx)) 64 (sg stt) ∧
  ((((gr (postOf sts drw (nxF fx)) 64 (sg stt) &&& (badOf sts drw (bdF fb))) = 0) ∧ sp = (-1) ∧ lst (fun j => lb ((nF sts drw (nxF fx) (badOf sts drw (bdF fb))) j) stt) 64 = 64 ∧ lr = (prf (postOf sts drw (nxF fx)) (nrF (nF sts drw (nxF fx) (badOf sts drw (bdF fb)))) (widM sts) (fs 2) (sg stt) 10000 1 (sg stt) 0).1 ∧ rt = (prf (postOf sts drw (nxF fx)) (nrF (nF sts drw (nxF fx) (badOf sts drw (bdF fb)))) (widM sts) (fs 2) (sg stt) 10000 1 (sg stt) 0).2.2 ∧ vi = (prf (postOf sts drw (nxF fx)) (nrF (nF sts drw (nxF fx) (badOf sts drw (bdF fb)))) (widM sts) (fs 2) (sg stt) 10000 1 (sg stt) 0).2.1) ∨ ((¬ (gr (postOf sts drw (nxF fx)) 64 (sg stt) &&& (badOf sts drw (bdF fb))) = 0) ∧ ∃ d, d < 64 ∧ sp = nI d ∧ lst (fun j => lb ((nF sts drw (nxF fx) (badOf sts drw (bdF fb))) j) stt) 64 = d ∧ ∀ k, k ≤ d → wy k = wrs (nF sts drw (nxF fx) (badOf sts drw (bdF fb))) (nxF fx) (bdF fb) drw d stt k))
theorem RL_s {T : Nat → Nat} {n0 : Nat} {kh : Nat → Nat} {kn : Nat → Int64} {ko : Nat → Int64} {ns : Nat} {na : Nat → Int64} {fs : Nat → Nat} {fx : Nat → Nat} {fb : Nat → Bool} {wy : Nat → Nat} (hcO : circOK T n0) (hsm : small T) (hh : ∀ c, c < 5 → kh c = hd T c) (hn : ∀ sx i, sx < 64 → i < (2 ^ hd T 1) → nxC kn (hd T 2) sx i = nxT T sx i) (ho : ∀ i, i < (2 ^ hd T 1) → ∀ sx, sx < 64 → lb (ko i) sx = (bdT T sx i && decide (sx < (2 ^ hd T 2)))) (hb : 1 ≤ ns ∧ ns ≤ 64) (ha : ∀ j, j < ns → na j = (nF (2 ^ hd T 2) (2 ^ hd T 1) (nxT T) (badOf (2 ^ hd T 2) (2 ^ hd T 1) (bdT T))) j) (ht : ∀ j, ns - 1 ≤ j → (nF (2 ^ hd T 2) (2 ^ hd T 1) (nxT T) (badOf (2 ^ hd T 2) (2 ^ hd T 1) (bdT T))) j = (nF (2 ^ hd T 2) (2 ^ hd T 1) (nxT T) (badOf (2 ^ hd T 2) (2 ^ hd T 1) (bdT T))) (ns - 1)) (hs : ∀ j, lb ((nF (2 ^ hd T 2) (2 ^ hd T 1) (nxT T) (badOf (2 ^ hd T 2) (2 ^ hd T 1) (bdT T))) j) (stB T (hd T 2)) = false) (mz : ∀ c, c < 5 → fs c = hd T c) (mn : ∀ a b, a < (2 ^ hd T 2) → b < (2 ^ hd T 1) → fx (8 * a + b) = nxT T a b) (mb : ∀ a b, a < (2 ^ hd T 2) → b < (2 ^ hd T 1) → fb (8 * a + b) = bdT T a b) : RL kh (hd T 2) (badOf (2 ^ hd T 2) (2 ^ hd T 1) (bdT T)) kn ko ns (gr (postOf (2 ^ hd T 2) (2 ^ hd T 1) (nxT T)) 64 (sg (stB T (hd T 2)))) (-1) ((prf (postOf (2 ^ hd T 2) (2 ^ hd T 1) (nxT T)) (nrF (nF (2 ^ hd T 2) (2 ^ hd T 1) (nxT T) (badOf (2 ^ hd T 2) (2 ^ hd T 1) (bdT T)))) wid (hd T 2) (sg (stB T (hd T 2))) 4159 1 (sg (stB T (hd T 2))) 0).1) ((prf (postOf (2 ^ hd T 2) (2 ^ hd T 1) (nxT T)) (nrF (nF (2 ^ hd T 2) (2 ^ hd T 1) (nxT T) (badOf (2 ^ hd T 2) (2 ^ hd T 1) (bdT T)))) wid (hd T 2) (sg (stB T (hd T 2))) 4159 1 (sg (stB T (hd T 2))) 0).2.2) ((prf (postOf (2 ^ hd T 2) (2 ^ hd T 1) (nxT T)) (nrF (nF (2 ^ hd T 2) (2 ^ hd T 1) (nxT T) (badOf (2 ^ hd T 2) (2 ^ hd T 1) (bdT T)))) wid (hd T 2) (sg (stB T (hd T 2))) 4159 1 (sg (stB T (hd T 2))) 0).2.1) na wy (stB T (hd T 2)) (2 ^ hd T 2) (2 ^ hd T 1) fs fx fb := by
  have e2 : fs 2 = hd T 2 := mz 2 (by decide)
  have hxg : ∀ s i, s < (2 ^ hd T 2) → i < (2 ^ hd T 1) → nxF fx s i = nxT T s i := mn
  have hbg : ∀ s i, s < (2 ^ hd T 2) → i < (2 ^ hd T 1) → bdF fb s i = bdT T s i := mb
  have ePO : postOf (2 ^ hd T 2) (2 ^ hd T 1) (nxF fx) = (postOf (2 ^ hd T 2) (2 ^ hd T 1) (nxT T)) := post_cg hxg
  have eB : badOf (2 ^ hd T 2) (2 ^ hd T 1) (bdF fb) = (badOf (2 ^ hd T 2) (2 ^ hd T 1) (bdT T)) := bad_cg hbg
  have eN : nF (2 ^ hd T 2) (2 ^ hd T 1) (nxF fx) (badOf (2 ^ hd T 2) (2 ^ hd T 1) (bdF fb)) = (nF (2 ^ hd T 2) (2 ^ hd T 1) (nxT T) (badOf (2 ^ hd T 2) (2 ^ hd T 1) (bdT T))) := by rw [eB]; exact nF_cg hxg _
  have p1 := p1_le hsm.1
  have p2 := p2_le hsm.2.1
  have z1 := Nat.two_pow_pos (hd T 1)
  have hst : (stB T (hd T 2)) < (2 ^ hd T 2) := stB_lt hcO.2.2.1
  have hnx : ∀ s i, s < (2 ^ hd T 2) → i < (2 ^ hd T 1) → nxT T s i < (2 ^ hd T 2) := fun s i _ _ => nxT_lt T s i
  unfold RL
  rw [eN, eB, ePO, e2]
  refine ⟨⟨rfl, rfl, hsm.2.1, z1, p1, hst⟩, fun c hc => (hh c hc).trans (mz c hc).symm, fun a b h1 h2 => by rw [mn a b h1 h2]; exact hnx a b h1 h2, fun a b h1 h2 => (hn a b (Nat.lt_of_lt_of_le h1 p2) h2).trans (mn a b h1 h2).symm, fun a b h1 h2 => by rw [ho b h2 a (Nat.lt_of_lt_of_le h1 p2), decide_eq_true h1, Bool.and_true, mb a b h1 h2], hb, ha, ht, rfl, rfl, Or.inl ⟨is_safe hsm.2.1 hnx hst hs, rfl, dst_64 hs, ?_⟩⟩
  rw [prf_same hsm.2.1 hnx hst hs]
  exact ⟨rfl, rfl, rfl⟩
theorem RL_u {T : Nat → Nat} {n0 d : Nat} {kh : Nat → Nat} {kn : Nat → Int64} {ko : Nat → Int64} {ns : Nat} {na : Nat → Int64} {fs : Nat → Nat} {fx : Nat → Nat} {fb : Nat → Bool} {lr rt : Nat} {vi : Int64} {wy : Nat → Nat} (hcO : circOK T n0) (hsm : small T) (hh : ∀ c, c < 5 → kh c = hd T c) (hn : ∀ sx i, sx < 64 → i < (2 ^ hd T 1) → nxC kn (hd T 2) sx i = nxT T sx i) (ho : ∀ i, i < (2 ^ hd T 1) → ∀ sx, sx < 64 → lb (ko i) sx = (bdT T sx i && decide (sx < (2 ^ hd T 2)))) (hb : 1 ≤ ns ∧ ns ≤ 64) (ha : ∀ j, j < ns → na j = (nF (2 ^ hd T 2) (2 ^ hd T 1) (nxT T) (badOf (2 ^ hd T 2) (2 ^ hd T 1) (bdT T))) j) (ht : ∀ j, ns - 1 ≤ j → (nF (2 ^ hd T 2) (2 ^ hd T 1) (nxT T) (badOf (2 ^ hd T 2) (2 ^ hd T 1) (bdT T))) j = (nF (2 ^ hd T 2) (2 ^ hd T 1) (nxT T) (badOf (2 ^ hd T 2) (2 ^ hd T 1) (bdT T))) (ns - 1)) (hd9 : d < ns ∧ lb ((nF (2 ^ hd T 2) (2 ^ hd T 1) (nxT T) (badOf (2 ^ hd T 2) (2 ^ hd T 1) (bdT T))) d) (stB T (hd T 2)) = true) (he : ∀ j, j < d → lb ((nF (2 ^ hd T 2) (2 ^ hd T 1) (nxT T) (badOf (2 ^ hd T 2) (2 ^ hd T 1) (bdT T))) j) (stB T (hd T 2)) = false) (hw : ∀ k, k < d → wy k = win (nxC kn (hd T 2)) (nF (2 ^ hd T 2) (2 ^ hd T 1) (nxT T) (badOf (2 ^ hd T 2) (2 ^ hd T 1) (bdT T))) (2 ^ hd T 1) d (stB T (hd T 2)) k) (hl : wy d = lst (fun i => lb (ko i) (wst (nxC kn (hd T 2)) (nF (2 ^ hd T 2) (2 ^ hd T 1) (nxT T) (badOf (2 ^ hd T 2) (2 ^ hd T 1) (bdT T))) (2 ^ hd T 1) d (stB T (hd T 2)) d)) ((2 ^ hd T 1) - 1)) (mz : ∀ c, c < 5 → fs c = hd T c) (mn : ∀ a b, a < (2 ^ hd T 2) → b < (2 ^ hd T 1) → fx (8 * a + b) = nxT T a b) (mb : ∀ a b, a < (2 ^ hd T 2) → b < (2 ^ hd T 1) → fb (8 * a + b) = bdT T a b) : RL kh (hd T 2) (badOf (2 ^ hd T 2) (2 ^ hd T 1) (bdT T)) kn ko ns (gr (postOf (2 ^ hd T 2) (2 ^ hd T 1) (nxT T)) 64 (sg (stB T (hd T 2)))) (nI d) lr rt vi na wy (stB T (hd T 2)) (2 ^ hd T 2) (2 ^ hd T 1) fs fx fb := by
  have e2 : fs 2 = hd T 2 := mz 2 (by decide)
  have hxg : ∀ s i, s < (2 ^ hd T 2) → i < (2 ^ hd T 1) → nxF fx s i = nxT T s i := mn
  have hbg : ∀ s i, s < (2 ^ hd T 2) → i < (2 ^ hd T 1) → bdF fb s i = bdT T s i := mb
  have ePO : postOf (2 ^ hd T 2) (2 ^ hd T 1) (nxF fx) = (postOf (2 ^ hd T 2) (2 ^ hd T 1) (nxT T)) := post_cg hxg
  have eB : badOf (2 ^ hd T 2) (2 ^ hd T 1) (bdF fb) = (badOf (2 ^ hd T 2) (2 ^ hd T 1) (bdT T)) := bad_cg hbg
  have eN : nF (2 ^ hd T 2) (2 ^ hd T 1) (nxF fx) (badOf (2 ^ hd T 2) (2 ^ hd T 1) (bdF fb)) = (nF (2 ^ hd T 2) (2 ^ hd T 1) (nxT T) (badOf (2 ^ hd T 2) (2 ^ hd T 1) (bdT T))) := by rw [eB]; exact nF_cg hxg _
  have p1 := p1_le hsm.1
  have p2 := p2_le hsm.2.1
  have z1 := Nat.two_pow_pos (hd T 1)
  have hst : (stB T (hd T 2)) < (2 ^ hd T 2) := stB_lt hcO.2.2.1
  have hnx : ∀ s i, s < (2 ^ hd T 2) → i < (2 ^ hd T 1) → nxT T s i < (2 ^ hd T 2) := fun s i _ _ => nxT_lt T s i
  unfold RL
  rw [eN, eB, ePO, e2]
  refine ⟨⟨rfl, rfl, hsm.2.1, z1, p1, hst⟩, fun c hc => (hh c hc).trans (mz c hc).symm, fun a b h1 h2 => by rw [mn a b h1 h2]; exact hnx a b h1 h2, fun a b h1 h2 => (hn a b (Nat.lt_of_lt_of_le h1 p2) h2).trans (mn a b h1 h2).symm, fun a b h1 h2 => by rw [ho b h2 a (Nat.lt_of_lt_of_le h1 p2), decide_eq_true h1, Bool.and_true, mb a b h1 h2], hb, ha, ht, rfl, rfl, Or.inr ⟨not_safe hsm.2.1 hnx hst hd9.2, d, by omega, rfl, dst_eq (by omega) hd9.2 he, fun k hk => ?_⟩⟩
  rw [wrs_cg z1 hst hxg hnx hbg]
  exact wrs_same hsm.2.1 z1 hst (fun s i h1 h2 => hn s i (Nat.lt_of_lt_of_le h1 p2) h2) hnx ho hw hl hk
section RLU
variable {kh : Nat → Nat} {la : Nat} {kb : Int64} {kn : Nat → Int64} {ko : Nat → Int64} {ns : Nat} {re : Int64} {sp : Int32} {lr : Nat} {rt : Nat} {vi : Int64} {na : Nat → Int64} {wy : Nat → Nat} {stt : Nat} {sts : Nat} {drw : Nat} {fs : Nat → Nat} {fx : Nat → Nat} {fb : Nat → Bool}
theorem RL_sf (h : RL kh la kb kn ko ns re sp lr rt vi na wy stt sts drw fs fx fb) : sp = (-1) ↔ (gr (postOf sts drw (nxF fx)) 64 (sg stt) &&& (badOf sts drw (bdF fb))) = 0 := by
  obtain ⟨⟨hla, hs2, hf2, hd1, hd8, hst9⟩, hkh, hxs, hnx, hko, hns, hna, hstb, hkb, hre, hcase⟩ := h
  rcases hcase with ⟨h1, h2, -⟩ | ⟨h1, d, hd, h2, -⟩
  · exact ⟨fun _ => h1, fun _ => h2⟩
  · exact ⟨fun h9 => absurd (h2.symm.trans h9) (nI_m1 (by omega)), fun h9 => absurd h9 h1⟩
theorem RL_d (h : RL kh la kb kn ko ns re sp lr rt vi na wy stt sts drw fs fx fb) (hn : ¬ (gr (postOf sts drw (nxF fx)) 64 (sg stt) &&& (badOf sts drw (bdF fb))) = 0) : sp = nI (lst (fun j => lb ((nF sts drw (nxF fx) (badOf sts drw (bdF fb))) j) stt) 64) := by
  obtain ⟨⟨hla, hs2, hf2, hd1, hd8, hst9⟩, hkh, hxs, hnx, hko, hns, hna, hstb, hkb, hre, hcase⟩ := h
  rcases hcase with ⟨h1, -⟩ | ⟨-, d, hd, h2, h3, -⟩
  · exact absurd h1 hn
  · rw [h3]; exact h2
theorem RL_p (h : RL kh la kb kn ko ns re sp lr rt vi na wy stt sts drw fs fx fb) (hn : (gr (postOf sts drw (nxF fx)) 64 (sg stt) &&& (badOf sts drw (bdF fb))) = 0) : lr = (prf (postOf sts drw (nxF fx)) (nrF (nF sts drw (nxF fx) (badOf sts drw (bdF fb)))) (widM sts) (fs 2) (sg stt) 10000 1 (sg stt) 0).1 ∧ rt = (prf (postOf sts drw (nxF fx)) (nrF (nF sts drw (nxF fx) (badOf sts drw (bdF fb)))) (widM sts) (fs 2) (sg stt) 10000 1 (sg stt) 0).2.2 ∧ vi = (prf (postOf sts drw (nxF fx)) (nrF (nF sts drw (nxF fx) (badOf sts drw (bdF fb)))) (widM sts) (fs 2) (sg stt) 10000 1 (sg stt) 0).2.1 := by
  obtain ⟨⟨hla, hs2, hf2, hd1, hd8, hst9⟩, hkh, hxs, hnx, hko, hns, hna, hstb, hkb, hre, hcase⟩ := h
  rcases hcase with ⟨-, -, -, h4, h5, h6⟩ | ⟨h1, -⟩
  · exact ⟨h4, h5, h6⟩
  · exact absurd hn h1
theorem RL_w (h : RL kh la kb kn ko ns re sp lr rt vi na wy stt sts drw fs fx fb) : (sp = (-1) ∧ lst (fun j => lb ((nF sts drw (nxF fx) (badOf sts drw (bdF fb))) j) stt) 64 = 64) ∨ ∃ d, d < 64 ∧ sp = nI d ∧ lst (fun j => lb ((nF sts drw (nxF fx) (badOf sts drw (bdF fb))) j) stt) 64 = d ∧ ∀ k, k ≤ d → wy k = wrs (nF sts drw (nxF fx) (badOf sts drw (bdF fb))) (nxF fx) (bdF fb) drw d stt k := by
  obtain ⟨⟨hla, hs2, hf2, hd1, hd8, hst9⟩, hkh, hxs, hnx, hko, hns, hna, hstb, hkb, hre, hcase⟩ := h
  rcases hcase with ⟨-, h2, h3, -⟩ | ⟨-, d, hd, h2, h3, h4⟩
  · exact Or.inl ⟨h2, h3⟩
  · exact Or.inr ⟨d, hd, h2, h3, h4⟩
theorem RL_sel (h : RL kh la kb kn ko ns re sp lr rt vi na wy stt sts drw fs fx fb) {j : Nat} (hj : j = 0 → (gr (postOf sts drw (nxF fx)) 64 (sg stt) &&& (badOf sts drw (bdF fb))) = 0) : sel4 j vi re kb ((nF sts drw (nxF fx) (badOf sts drw (bdF fb))) (ns - 1)) = sel4 j (prf (postOf sts drw (nxF fx)) (nrF (nF sts drw (nxF fx) (badOf sts drw (bdF fb)))) (widM sts) (fs 2) (sg stt) 10000 1 (sg stt) 0).2.1 (gr (postOf sts drw (nxF fx)) 64 (sg stt)) (badOf sts drw (bdF fb)) ((nF sts drw (nxF fx) (badOf sts drw (bdF fb))) 63) := by
  have hp := RL_p h
  obtain ⟨⟨hla, hs2, hf2, hd1, hd8, hst9⟩, hkh, hxs, hnx, hko, hns, hna, hstb, hkb, hre, hcase⟩ := h
  unfold sel4
  by_cases e0 : j = 0
  · rw [if_pos e0, if_pos e0]; exact (hp (hj e0)).2.2
  · rw [if_neg e0, if_neg e0, hre, hkb, hstb 63 (by omega)]
theorem RL_in (h : RL kh la kb kn ko ns re sp lr rt vi na wy stt sts drw fs fx fb) (j : Nat) : inS sts (sel4 j (prf (postOf sts drw (nxF fx)) (nrF (nF sts drw (nxF fx) (badOf sts drw (bdF fb)))) (widM sts) (fs 2) (sg stt) 10000 1 (sg stt) 0).2.1 (gr (postOf sts drw (nxF fx)) 64 (sg stt)) (badOf sts drw (bdF fb)) ((nF sts drw (nxF fx) (badOf sts drw (bdF fb))) 63)) := by
  obtain ⟨⟨hla, hs2, hf2, hd1, hd8, hst9⟩, hkh, hxs, hnx, hko, hns, hna, hstb, hkb, hre, hcase⟩ := h
  have hz : sts ≤ 64 := by rw [hs2]; exact p2_le hf2
  have hpo : ∀ x, inS sts ((postOf sts drw (nxF fx)) x) := fun x => in_post hz (fun a b h1 h2 => hxs a b h1 h2) x
  unfold sel4
  split
  · subst hs2
    rw [prf_wid hf2 hpo]
    exact prf_in hf2 hpo (in_sg hst9 hz) _ _ _ (in_sg hst9 hz) _
  · split
    · exact in_gr hpo (in_sg hst9 hz) _
    · split
      · exact in_bad hz
      · exact in_gr (fun x => in_pre hz x) (in_bad hz) _
theorem RL_cn (h : RL kh la kb kn ko ns re sp lr rt vi na wy stt sts drw fs fx fb) {j : Nat} (hj : j = 0 → (gr (postOf sts drw (nxF fx)) 64 (sg stt) &&& (badOf sts drw (bdF fb))) = 0) : cn (sel4 j vi re kb ((nF sts drw (nxF fx) (badOf sts drw (bdF fb))) (ns - 1))) 64 = cn (sel4 j (prf (postOf sts drw (nxF fx)) (nrF (nF sts drw (nxF fx) (badOf sts drw (bdF fb)))) (widM sts) (fs 2) (sg stt) 10000 1 (sg stt) 0).2.1 (gr (postOf sts drw (nxF fx)) 64 (sg stt)) (badOf sts drw (bdF fb)) ((nF sts drw (nxF fx) (badOf sts drw (bdF fb))) 63)) sts := by
  rw [RL_sel h hj]
  have hi := RL_in h j
  obtain ⟨⟨hla, hs2, hf2, hd1, hd8, hst9⟩, hkh, hxs, hnx, hko, hns, hna, hstb, hkb, hre, hcase⟩ := h
  exact cn_S (by rw [hs2]; exact p2_le hf2) (fun i _ h9 => hi i h9)
theorem RL_sz (h : RL kh la kb kn ko ns re sp lr rt vi na wy stt sts drw fs fx fb) {j : Nat} (hj : j = 0 → (gr (postOf sts drw (nxF fx)) 64 (sg stt) &&& (badOf sts drw (bdF fb))) = 0) : it (fun jx ax => ax + cntP (frB (sel4 j vi re kb ((nF sts drw (nxF fx) (badOf sts drw (bdF fb))) (ns - 1))) (lz (2 ^ la) jx) jx) (2 ^ jx)) la 0 = it (fun jx ax => ax + cntP (frM sts (sel4 j (prf (postOf sts drw (nxF fx)) (nrF (nF sts drw (nxF fx) (badOf sts drw (bdF fb)))) (widM sts) (fs 2) (sg stt) 10000 1 (sg stt) 0).2.1 (gr (postOf sts drw (nxF fx)) 64 (sg stt)) (badOf sts drw (bdF fb)) ((nF sts drw (nxF fx) (badOf sts drw (bdF fb))) 63)) jx (2 ^ (fs 2 - jx - 1))) (2 ^ jx)) (fs 2) 0 := by
  rw [RL_sel h hj]
  generalize sel4 j (prf (postOf sts drw (nxF fx)) (nrF (nF sts drw (nxF fx) (badOf sts drw (bdF fb)))) (widM sts) (fs 2) (sg stt) 10000 1 (sg stt) 0).2.1 (gr (postOf sts drw (nxF fx)) 64 (sg stt)) (badOf sts drw (bdF fb)) ((nF sts drw (nxF fx) (badOf sts drw (bdF fb))) 63) = X
  obtain ⟨⟨hla, hs2, hf2, hd1, hd8, hst9⟩, hkh, hxs, hnx, hko, hns, hna, hstb, hkb, hre, hcase⟩ := h
  rw [hla, hs2]
  exact nodes_same hf2 X
end RLU
theorem ap_same {x : Int64} {tx xt : Nat → Nat} {us : Nat} (h : ∀ p, p < us → tx p = xt p) (j p : Nat) (hp : p < us + cB x j) : apB x tx us j p = apB x xt us j p := by
  induction j with
  | zero => exact h p hp
  | succ j ih =>
    rw [apB, apB]
    by_cases e : byt x j = 0
    · rw [if_pos e, if_pos e]
      exact ih (by rw [cB, if_pos e] at hp; exact hp)
    · rw [if_neg e, if_neg e]
      by_cases e2 : p = us + cB x j
      · subst e2; rw [va_up_self, va_up_self]
      · rw [va_up_ne _ _ e2, va_up_ne _ _ e2]
        exact ih (by rw [cB, if_neg e] at hp; omega)
def RTx (ul : Nat) (tx xt : Nat → Nat) : Prop := ul ≤ 400 ∧ (∀ p, p < ul → tx p = xt p) ∧ (∀ p, tx p < 128) ∧ ∀ p, xt p < 128
theorem RT_lk {ul : Nat} {tx xt : Nat → Nat} (h : RTx ul tx xt) : lk tx ul = lk xt ul := by
  funext p
  unfold lk
  split
  · exact h.2.1 p (by assumption)
  · rfl
theorem RT_ty {ul : Nat} {tx xt : Nat → Nat} (h : RTx ul tx xt) {x : Int64} (e : okB x 8 ∧ ul + cB x 8 ≤ 400) : RTx (ul + cB x 8) (apB x tx ul 8) (apB x xt ul 8) := ⟨e.2, fun p hp => ap_same h.2.1 8 p hp, ap_128 h.2.2.1 e.1, ap_128 h.2.2.2 e.1⟩
theorem RT_no {ul : Nat} {tx xt t9 : Nat → Nat} (h : RTx ul tx xt) (ha : ∀ p, p < ul → t9 p = xt p) (hb : ∀ p, t9 p < 128) : RTx ul tx t9 := ⟨h.1, fun p hp => (h.2.1 p hp).trans (ha p hp).symm, h.2.2.1, hb⟩
theorem RT_z {ul : Nat} {tx xt : Nat → Nat} (h : RTx ul tx xt) : RTx 0 tx xt := ⟨Nat.zero_le _, fun p hp => absurd hp (Nat.not_lt_zero p), h.2.2.1, h.2.2.2⟩
