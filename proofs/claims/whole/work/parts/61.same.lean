section Same2
variable {L D : Nat} {nx nx' : Nat → Nat → Nat} {bd bd' : Nat → Nat → Bool} {st : Nat}
/-- the proof's rounds are the same, with the room of each -/
theorem prf_same (hL : L ≤ 6) (hn : ∀ s i, s < 2 ^ L → i < D → nx s i < 2 ^ L) (hst : st < 2 ^ L) {kb : Int64} (hs : ∀ k, lb (nF (2 ^ L) D nx kb k) st = false) :
    prf (postOf (2 ^ L) D nx) (nrF (nF (2 ^ L) D nx kb)) (widM (2 ^ L)) L (sg st) 10000 1 (sg st) 0 = prf (postOf (2 ^ L) D nx) (nrF (nF (2 ^ L) D nx kb)) wid L (sg st) 4159 1 (sg st) 0 := by
  have hS := p2_le hL
  have hst6 : st < 64 := by omega
  have hn6 : ∀ s i, s < 2 ^ L → i < D → nx s i < 64 := fun s i h1 h2 => Nat.lt_of_lt_of_le (hn s i h1 h2) hS
  rw [prf_wid hL (fun x => in_post hS hn x)]
  have h1 := rmu_0 (sg_pos hst6)
  exact prf_room (fun r h => find_cl hS hn6 r h) (fun K _ _ => find_s0 hst6 (hs _)) (sg_pos hst6) _ _ 1 _ 0 (Nat.le_refl _) (by omega) (find_s0 hst6 (hs _)) (by omega) h1
/-- the distance is the least of them -/
theorem dst_eq {Nf : Nat → Int64} {d : Nat} (hd : d < 64) (h : lb (Nf d) st = true) (ha : ∀ j, j < d → lb (Nf j) st = false) : lst (fun j => lb (Nf j) st) 64 = d := lst_eq (by omega) ha (fun _ => h)
theorem dst_64 {Nf : Nat → Int64} (ha : ∀ j, lb (Nf j) st = false) : lst (fun j => lb (Nf j) st) 64 = 64 := lst_eq (Nat.le_refl _) (fun j _ => ha j) (fun h => absurd h (Nat.lt_irrefl _))
theorem not_safe (hL : L ≤ 6) (hn : ∀ s i, s < 2 ^ L → i < D → nx s i < 2 ^ L) (hst : st < 2 ^ L) {d : Nat} (h : lb (nF (2 ^ L) D nx (badOf (2 ^ L) D bd) d) st = true) : ¬ (gr (postOf (2 ^ L) D nx) 64 (sg st) &&& badOf (2 ^ L) D bd) = 0 := fun z => by
  have h1 := (safe_iff (p2_le hL) hn hst).mp z d
  unfold nF at h
  rw [h1] at h
  cases h
theorem is_safe (hL : L ≤ 6) (hn : ∀ s i, s < 2 ^ L → i < D → nx s i < 2 ^ L) (hst : st < 2 ^ L) (h : ∀ j, lb (nF (2 ^ L) D nx (badOf (2 ^ L) D bd) j) st = false) : (gr (postOf (2 ^ L) D nx) 64 (sg st) &&& badOf (2 ^ L) D bd) = 0 := (safe_iff (p2_le hL) hn hst).mpr h
/-- the way -/
theorem wrs_same {Nf : Nat → Int64} {d k : Nat} (hL : L ≤ 6) (hD : 1 ≤ D) (hst : st < 2 ^ L) (h : ∀ s i, s < 2 ^ L → i < D → nx s i = nx' s i) (hn : ∀ s i, s < 2 ^ L → i < D → nx' s i < 2 ^ L) {ko : Nat → Int64} (hko : ∀ i, i < D → ∀ sx, sx < 64 → lb (ko i) sx = (bd sx i && decide (sx < 2 ^ L))) {wy : Nat → Nat}
    (hw : ∀ k, k < d → wy k = win nx Nf D d st k) (hl : wy d = lst (fun i => lb (ko i) (wst nx Nf D d st d)) (D - 1)) (hk : k ≤ d) : wy k = wrs Nf nx' bd D d st k := by
  have hS := p2_le hL
  unfold wrs
  by_cases e : k < d
  · rw [if_pos e, hw k e]; exact win_cg hD hst h hn k
  · have e2 : k = d := by omega
    subst e2
    rw [if_neg e, hl]
    obtain ⟨e3, hl3⟩ := wst_cg (Nf := Nf) (d := k) hD hst h hn k
    refine lst_congr (fun i hi => ?_)
    rw [e3, hko i (by omega) _ (by omega), decide_eq_true hl3, Bool.and_true]
theorem wrs_cg {Nf : Nat → Int64} {d k : Nat} (hD : 1 ≤ D) (hst : st < 2 ^ L) (h : ∀ s i, s < 2 ^ L → i < D → nx s i = nx' s i) (hn : ∀ s i, s < 2 ^ L → i < D → nx' s i < 2 ^ L) (hb : ∀ s i, s < 2 ^ L → i < D → bd s i = bd' s i) : wrs Nf nx bd D d st k = wrs Nf nx' bd' D d st k := by
  unfold wrs
  by_cases e : k < d
  · rw [if_pos e, if_pos e]; exact win_cg hD hst h hn k
  · rw [if_neg e, if_neg e]
    obtain ⟨e3, hl3⟩ := wst_cg (Nf := Nf) (d := d) hD hst h hn d
    exact lst_congr (fun i hi => by rw [e3, hb _ i hl3 (by omega)])
end Same2
