/-! rows that are kept, side by side -/
def rwR (P : Tr) (n12 n13 n14 : Int32) (c s : Nat → Int32) : Prop := (∀ p, p < 5 → c (50 + p) = s (50 + p) ∧ 0 ≤ (s (50 + p)).toInt ∧ (s (50 + p)).toInt ≤ 10 ∧ (0 < (s (50 + p)).toInt → (p : Int) < n12.toInt)) ∧ (∀ p, p < 5 → ∀ k : Nat, (k : Int) < (s (50 + p)).toInt → c (10 * p + k) = s (10 * p + k)) ∧ (∀ p, p < 5 → c (55 + p) = wsm (fun k => P 15 (c (10 * p + k)).toNatClampNeg) (c (50 + p)).toNatClampNeg) ∧ (∀ i : Nat, (i : Int) < n14.toInt → (c (60 + i) = -1 ∧ ∀ p, p < 5 → ∀ k : Nat, (k : Int) < (s (50 + p)).toInt → ¬ (s (10 * p + k)).toInt = i) ∨ ∃ p k : Nat, p < 5 ∧ (k : Int) < (s (50 + p)).toInt ∧ (s (10 * p + k)).toInt = i ∧ (c (60 + i)).toInt = p) ∧ ∀ p : Nat, (p : Int) < n13.toInt → c (70 + p) = s (55 + p)
theorem rwR_cg {P : Tr} {n12 n13 n14 : Int32} {c s c1 s1 : Nat → Int32} (h : rwR P n12 n13 n14 c s) (hc : ∀ k, k < 76 → c1 k = c k) (hs : ∀ k, k < 61 → s1 k = s k) (h13 : n13.toInt ≤ 6) (h14 : n14.toInt ≤ 10) : rwR P n12 n13 n14 c1 s1 := by
  obtain ⟨h1, h2, h3, h4, h5⟩ := h
  refine ⟨fun p hp => ?_, fun p hp k hk => ?_, fun p hp => ?_, fun i hi => ?_, fun p hp => ?_⟩
  · rw [hc _ (by omega), hs _ (by omega)]; exact h1 p hp
  · rw [hs (50 + p) (by omega)] at hk
    have := h1 p hp
    rw [hc _ (by omega), hs _ (by omega)]; exact h2 p hp k hk
  · have := h1 p hp
    rw [hc (55 + p) (by omega), hc (50 + p) (by omega), h3 p hp]
    refine wsm_cg (fun k hk => ?_)
    rw [this.1, i_cl] at hk
    show P 15 (c (10 * p + k)).toNatClampNeg = P 15 (c1 (10 * p + k)).toNatClampNeg
    rw [hc _ (by omega)]
  · rw [hc (60 + i) (by omega)]
    rcases h4 i hi with ⟨a1, a2⟩ | ⟨p, k, a1, a2, a3, a4⟩
    · refine Or.inl ⟨a1, fun p hp k hk => ?_⟩
      rw [hs (50 + p) (by omega)] at hk
      have := h1 p hp
      rw [hs _ (by omega)]; exact a2 p hp k hk
    · have := h1 p a1
      exact Or.inr ⟨p, k, a1, by rw [hs (50 + p) (by omega)]; exact a2, by rw [hs _ (by omega)]; exact a3, a4⟩
  · rw [hc _ (by omega), hs _ (by omega)]; exact h5 p hp
/-- the row of the train that is now -/
theorem rw_now {P T S : Tr} {L : Lo} (h : Nw P T S L) {c s : Nat → Int32} (c16 : ∀ j, j < 50 → c j = T 16 j) (c17 : ∀ j, j < 5 → c (50 + j) = T 17 j) (c18 : ∀ j, j < 5 → c (55 + j) = T 18 j) (c15 : ∀ j, j < 10 → c (60 + j) = T 15 j) (c10 : ∀ j, j < 6 → c (70 + j) = T 10 j) (s55 : ∀ j, j < 50 → s j = S 55 j) (s56 : ∀ j, j < 5 → s (50 + j) = S 56 j) (s58 : ∀ j, j < 6 → s (55 + j) = S 58 j) : rwR P (S 0 12) (S 0 13) (S 0 14) c s := by
  obtain ⟨⟨hS, hpI, hg⟩, hK, hd, hv, n9, n13, nr, nl, na⟩ := h
  have h13 : 0 ≤ (S 0 13).toInt ∧ (S 0 13).toInt ≤ 6 := hS 0 13
  have h14 : 0 ≤ (S 0 14).toInt ∧ (S 0 14).toInt ≤ 10 := hS 0 14
  obtain ⟨_, _, _, d4, d5⟩ := hd
  have b56 : ∀ p, p < 5 → 0 ≤ (S 56 p).toInt ∧ (S 56 p).toInt ≤ 10 := fun p _ => BM56 hS p
  refine ⟨fun p hp => ?_, fun p hp k hk => ?_, fun p hp => ?_, fun i hi => ?_, fun p hp => ?_⟩
  · have x := (d5 p hp).1
    rw [show 5 * 0 + p = p by omega] at x
    rw [c17 p hp, s56 p hp, x]
    refine ⟨rfl, (b56 p hp).1, (b56 p hp).2, fun g => ?_⟩
    obtain ⟨i, i1, i2, i3, i4⟩ := sk_at (k := 0) hS hg.1 hp (by rw [show 5 * 0 + p = p by omega]; omega)
    have := (hv.1 i i3).2.2
    omega
  · rw [s56 p hp] at hk
    have := b56 p hp
    have x := (d5 p hp).2.1 k (by rw [show 5 * 0 + p = p by omega]; exact hk)
    rw [show 50 * 0 + 10 * p + k = 10 * p + k by omega] at x
    rw [c16 _ (by omega), s55 _ (by omega)]; exact x
  · have x := (d5 p hp).2.2
    have y := (d5 p hp).1
    rw [show 5 * 0 + p = p by omega] at y
    have := b56 p hp
    rw [c18 p hp, c17 p hp, x]
    refine wsm_cg (fun k hk => ?_)
    rw [y, i_cl] at hk
    unfold wgt
    rw [c16 _ (by omega)]
  · have x := (d4 i hi).2
    rw [c15 i (by omega), x]
    have b54 : -1 ≤ (S 54 (10 * 0 + i)).toInt ∧ (S 54 (10 * 0 + i)).toInt ≤ 4 := hS 54 _
    by_cases c0 : 0 ≤ (S 54 (10 * 0 + i)).toInt
    · obtain ⟨p, pos, w1, w2, w3, w4, _, _⟩ := wh hS hg.1 (by omega) c0
      rw [show 5 * 0 + p = p by omega] at w3
      rw [show 50 * 0 + 10 * p + pos = 10 * p + pos by omega] at w4
      have := b56 p w1
      exact Or.inr ⟨p, pos, w1, by rw [s56 p w1]; exact w3, by rw [s55 _ (by omega)]; exact w4, w2⟩
    · refine Or.inl ⟨Int32.toInt_inj.mp (by rw [show (-1 : Int32).toInt = -1 by decide]; omega), fun p hp k hk e => ?_⟩
      rw [s56 p hp] at hk
      have := b56 p hp
      rw [s55 _ (by omega)] at e
      obtain ⟨t, t1, t2, t3, t4⟩ := sk_at (k := k) hS hg.1 hp (by rw [show 5 * 0 + p = p by omega]; exact hk)
      rw [show 50 * 0 + 10 * p + k = 10 * p + k by omega, e] at t2
      have : t = i := by omega
      subst this
      omega
  · rw [c10 p (by omega), s58 p (by omega)]; exact (n9 p hp).2
/-- the rows of changes of both -/
def uR (P C S : Tr) : Prop := C 0 0 = S 0 82 ∧ ∃ m n : Nat, m < 20 ∧ n ≤ 20 ∧ (C 0 1).toInt = m ∧ (S 0 82).toInt = n ∧ ∀ r, r < n → rwR P (S 0 12) (S 0 13) (S 0 14) (fun k => C 3 (76 * ((m + 20 - n + r) % 20) + k)) (fun k => S 84 (61 * r + k))
theorem uR_rem {P T C S C1 S1 : Tr} {L : Lo} {m n : Nat} (h : uR P C S) (hN : Nw P T S L) (hm : (C 0 1).toInt = m) (hn : (S 0 82).toInt = n) (hc : svQ T C C1 m) (hs : remQ S S1 n) : uR P C1 S1 := by
  have h13 : 0 ≤ (S 0 13).toInt ∧ (S 0 13).toInt ≤ 6 := hN.1.1 0 13
  have h14 : 0 ≤ (S 0 14).toInt ∧ (S 0 14).toInt ≤ 10 := hN.1.1 0 14
  obtain ⟨h0, m', n', m20, n20, hm', hn', hr⟩ := h
  have e1 : m' = m := by omega
  have e2 : n' = n := by omega
  subst e1 e2
  obtain ⟨c1, c2, c3, c4, c5, c6, c7, c8⟩ := hc
  obtain ⟨s1, s2, s3⟩ := hs
  have f12 : S1 0 12 = S 0 12 := s3 0 12 (by omega) (by omega)
  have f13 : S1 0 13 = S 0 13 := s3 0 13 (by omega) (by omega)
  have f14 : S1 0 14 = S 0 14 := s3 0 14 (by omega) (by omega)
  have new : ∀ u, newR S S1 u → rwR P (S 0 12) (S 0 13) (S 0 14) (fun k => C1 3 (76 * m' + k)) (fun k => S1 84 (61 * u + k)) := fun u hu => by
    obtain ⟨u1, u2, u3⟩ := hu
    refine rw_now hN (fun j hj => c1 j hj) (fun j hj => ?_) (fun j hj => ?_) (fun j hj => ?_) (fun j hj => ?_) (fun j hj => u1 j hj) (fun j hj => ?_) (fun j hj => ?_)
    · show C1 3 (76 * m' + (50 + j)) = _
      rw [show 76 * m' + (50 + j) = 76 * m' + 50 + j by omega]; exact c2 j hj
    · show C1 3 (76 * m' + (55 + j)) = _
      rw [show 76 * m' + (55 + j) = 76 * m' + 55 + j by omega]; exact c3 j hj
    · show C1 3 (76 * m' + (60 + j)) = _
      rw [show 76 * m' + (60 + j) = 76 * m' + 60 + j by omega]; exact c4 j hj
    · show C1 3 (76 * m' + (70 + j)) = _
      rw [show 76 * m' + (70 + j) = 76 * m' + 70 + j by omega]; exact c5 j hj
    · show S1 84 (61 * u + (50 + j)) = _
      rw [show 61 * u + (50 + j) = 61 * u + 50 + j by omega]; exact u2 j hj
    · show S1 84 (61 * u + (55 + j)) = _
      rw [show 61 * u + (55 + j) = 61 * u + 55 + j by omega]; exact u3 j hj
  unfold uR
  rw [f12, f13, f14]
  rcases (by omega : n' < 20 ∨ n' = 20) with g | g
  · obtain ⟨a1, a2, a3⟩ := s1 g
    have ne20 : ¬ C 0 0 = 20 := fun q => by
      rw [h0] at q
      rw [q, show (20 : Int32).toInt = 20 by decide] at hn
      omega
    rw [if_neg ne20] at c8
    have v0 : (C1 0 0).toInt = (n' : Int) + 1 := by
      rw [c8]; exact i_addK (by rw [h0]; exact hn) (by decide) (by omega) (by omega)
    refine ⟨Int32.toInt_inj.mp (by rw [v0, a2]), (m' + 1) % 20, n' + 1, by omega, by omega, c7, by omega, fun r hr1 => ?_⟩
    rcases (by omega : r < n' ∨ r = n') with q | q
    · refine rwR_cg (hr r q) (fun k hk => ?_) (fun k hk => ?_) h13.2 h14.2
      · show C1 3 (76 * (((m' + 1) % 20 + 20 - (n' + 1) + r) % 20) + k) = C 3 (76 * ((m' + 20 - n' + r) % 20) + k)
        obtain ⟨w, hw⟩ : ∃ w, w = (m' + 20 - n' + r) % 20 := ⟨_, rfl⟩
        rw [← hw, show ((m' + 1) % 20 + 20 - (n' + 1) + r) % 20 = w by omega]
        have : w ≠ m' := by omega
        exact c6 _ (by omega)
      · exact a3 _ (by omega)
    · subst q
      rw [show ((m' + 1) % 20 + 20 - (r + 1) + r) % 20 = m' by omega]
      exact new r a1
  · obtain ⟨a1, a2, a3⟩ := s2 g
    have e20 : C 0 0 = 20 := by
      rw [h0]; exact Int32.toInt_inj.mp (by rw [hn, g]; decide)
    rw [if_pos e20] at c8
    refine ⟨Int32.toInt_inj.mp (by rw [c8, a2]; decide), (m' + 1) % 20, 20, by omega, by omega, c7, by omega, fun r hr1 => ?_⟩
    rcases (by omega : r < 19 ∨ r = 19) with q | q
    · refine rwR_cg (hr (r + 1) (by omega)) (fun k hk => ?_) (fun k hk => ?_) h13.2 h14.2
      · show C1 3 (76 * (((m' + 1) % 20 + 20 - 20 + r) % 20) + k) = C 3 (76 * ((m' + 20 - n' + (r + 1)) % 20) + k)
        obtain ⟨w, hw⟩ : ∃ w, w = (m' + 20 - n' + (r + 1)) % 20 := ⟨_, rfl⟩
        rw [← hw, show ((m' + 1) % 20 + 20 - 20 + r) % 20 = w by omega]
        have : w ≠ m' := by omega
        exact c6 _ (by omega)
      · show S1 84 (61 * r + k) = S 84 (61 * (r + 1) + k)
        rw [a3 _ (by omega), show 61 * r + k + 61 = 61 * (r + 1) + k by omega]
    · subst q
      rw [show ((m' + 1) % 20 + 20 - 20 + 19) % 20 = m' by omega]
      exact new 19 a1
/-- the rows stay -/
theorem uR_o {P C S S1 : Tr} (h : uR P C S) (e82 : S1 0 82 = S 0 82) (e : ∀ j, 12 ≤ j → j ≤ 14 → S1 0 j = S 0 j) (e84 : ∀ j, S1 84 j = S 84 j) : uR P C S1 := by
  obtain ⟨h0, m, n, m20, n20, hm, hn, hr⟩ := h
  refine ⟨by rw [e82]; exact h0, m, n, m20, n20, hm, by rw [e82]; exact hn, fun r q => ?_⟩
  have x := hr r q
  rw [e 12 (by omega) (by omega), e 13 (by omega) (by omega), e 14 (by omega) (by omega), show (fun k => S1 84 (61 * r + k)) = (fun k => S 84 (61 * r + k)) from funext fun k => e84 _]
  exact x
