/-! what is read and kept, side by side with the plan -/
theorem nd_cg {g kn pa ot kn1 pa1 ot1 : Nat → Int32} {f i : Nat} (h : nd g kn pa ot f i) (e1 : kn1 (f + i) = kn (f + i)) (e2 : pa1 (f + i) = pa (f + i)) (e3 : ot1 (f + i) = ot (f + i)) : nd g kn1 pa1 ot1 f i := by
  unfold nd at h ⊢
  rw [e1, e2, e3]; exact h
theorem lwK_KT {P T S : Tr} {k : Nat} (hk : k < 3) (h : lwR P T k) (h19 : (T 0 19).toInt ≤ 64) (e36 : S 36 k = vp_nar .boolean (T 36 (3 + k))) (e37 : S 37 k = T 37 (3 + k)) (e38 : S 38 k = T 38 (3 + k)) (e39 : ∀ j, j < 64 → S 39 j = T 39 (64 + j)) (e40 : ∀ j, j < 64 → S 40 j = T 40 (64 + j)) (e41 : ∀ j, j < 64 → S 41 j = T 41 (64 + j)) : lwK P S k := by
  rcases h with ⟨a1, a2⟩ | ⟨a1, f, s, b1, b2, b3, b4, b5, b6, b7⟩
  · exact Or.inl ⟨a1, by rw [e36, a2]; rfl⟩
  · refine Or.inr ⟨by rw [e36, a1]; rfl, f, s, b1, b2, by rw [e37]; exact b3, by rw [e38]; exact b4, by omega, b6, fun i hi => ?_⟩
    exact nd_cg (b7 i hi) (e39 _ (by omega)) (e40 _ (by omega)) (e41 _ (by omega))
theorem pK_KT {R P T S : Tr} (h : RD R P T) (k : KT T S) (r : rgK S) : pK P S := by
  obtain ⟨m1, m2, m3, m4, m5⟩ := nm_KT h k
  obtain ⟨r1, r2, r3, r4⟩ := r
  obtain ⟨_, _, _, _, _, hL⟩ := h
  obtain ⟨l1, l2, l3, w0, w1, w2⟩ := hL
  obtain ⟨_, _, _, _, _, _, _, _, _, _, _, _, _, k36, k37, k38, k39, k40, k41⟩ := k
  have h19 : (T 0 19).toInt ≤ 64 := by rw [l2]; exact l3.2
  refine ⟨⟨m1.1, m1.2.1, m1.2.2.1, m1.2.2.2.1, m1.2.2.2.2.1, m1.2.2.2.2.2.1, m1.2.2.2.2.2.2, r1⟩, m2, fun p hp => ?_, fun i hi => ?_, m5, fun k hk => ?_⟩
  · obtain ⟨a1, a2, a3, a4⟩ := m3 p hp
    exact ⟨a1, a2, a3, a4, (r2 p hp).1, (r2 p hp).2⟩
  · obtain ⟨a1, a2, a3, a4⟩ := m4 i hi
    exact ⟨a1, a2, a3, a4, (r3 i hi).1, (r3 i hi).2.1, (r3 i hi).2.2⟩
  · have w : lwR P T k := by
      rcases (by omega : k = 0 ∨ k = 1 ∨ k = 2) with rfl | rfl | rfl
      · exact w0
      · exact w1
      · exact w2
    exact lwK_KT hk w h19 (k36 k hk) (k37 k hk) (k38 k hk) k39 k40 k41
/-- the train that is now at a text's start -/
theorem Nw_bg {P A S : Tr} {L : Lo} (hK : pK P S) (hj : jR S) (r : rgK S) (hb : bgR (S, L)) (ha : bgQ P A) (h6 : ¬ A 0 6 = 0) (h7 : ¬ A 0 7 = 0) : Nw P A S L := by
  obtain ⟨b1, b2, b3, ⟨b4, b5⟩, ⟨b6, _, _⟩, b7⟩ := hb
  obtain ⟨⟨a1, a2, a3, a4, a5⟩, a6, a7, a8⟩ := ha
  obtain ⟨r1, r2, r3, r4⟩ := r
  have h13 : 0 ≤ (S 0 13).toInt ∧ (S 0 13).toInt ≤ 6 := hj.1 0 13
  have h14 : 0 ≤ (S 0 14).toInt ∧ (S 0 14).toInt ≤ 10 := hj.1 0 14
  have l0 : (0 : Int32).toInt = 0 := by decide
  have lm : (-1 : Int32).toInt = -1 := by decide
  have c1 : ∀ i, i < 10 → S 53 i = 0 ∧ S 54 i = -1 := b1
  have c2 : ∀ p, p < 5 → S 56 p = 0 := b2
  have c3 : ∀ p, p < 6 → S 57 p = S 27 p ∧ S 58 p = S 29 p ∧ S 59 p = 0 ∧ S 60 p = 0 := b3
  have c7 : L 0 63 = (S 23 2).toInt64 := b7
  obtain ⟨⟨k1, k2, k3, k4, k5, k6, k7, k8⟩, kA, kE, kI, kW, kL⟩ := id hK
  refine ⟨⟨hj.1, hj.2.1, hj.2.2.1⟩, hK, ⟨a1.trans b5.symm, a2.trans b4.symm, fun p hp => ?_, fun i hi => ?_, fun p hp => ⟨?_, fun k hk => ?_, ?_⟩⟩, ⟨fun i hi => ?_, fun p hp => ?_⟩, fun p hp => ?_, fun i hi => ?_, ⟨a4.trans k5, a5.trans k6, r4.1, r4.2.1, h6, h7⟩, ⟨?_, ?_, b6⟩, fun p hp _ => ?_⟩
  · rw [show 6 * 0 + p = p by omega, (a6 p (by omega)).2.2.1, (a6 p (by omega)).2.2.2, (c3 p (by omega)).2.2.1, (c3 p (by omega)).2.2.2]
    exact ⟨rfl, rfl⟩
  · rw [show 10 * 0 + i = i by omega, (a7 i (by omega)).2.1, (a7 i (by omega)).2.2, (c1 i (by omega)).1, (c1 i (by omega)).2]
    exact ⟨rfl, rfl⟩
  · rw [show 5 * 0 + p = p by omega, (a8 p hp).1, c2 p hp]
  · rw [show 5 * 0 + p = p by omega, c2 p hp, l0] at hk
    omega
  · rw [(a8 p hp).1, (a8 p hp).2]
    rfl
  · have ow := own_lt (b := 0) ⟨hj.1, hj.2.1, hj.2.2.1⟩ i hi
    have := (r3 i hi)
    have h12 : 0 ≤ (S 0 12).toInt ∧ (S 0 12).toInt ≤ 5 := hj.1 0 12
    rw [show 10 * 0 + i = i by omega, show 6 * 0 + (S 30 i).toNatClampNeg = (S 30 i).toNatClampNeg by omega, (c1 i (by omega)).1, (c1 i (by omega)).2, lm, (c3 _ (by omega)).2.2.1]
    exact ⟨fun e => absurd e (by decide), fun _ => rfl, by omega⟩
  · rw [show 6 * 0 + p = p by omega, (c3 p (by omega)).1, (c3 p (by omega)).2.2.1]
    exact ⟨Or.inl rfl, r2 p hp⟩
  · rw [(c3 p (by omega)).1, (c3 p (by omega)).2.1, (a6 p (by omega)).1, (a6 p (by omega)).2.1]
    exact ⟨(kE p hp).2.1, (kE p hp).2.2.2.1⟩
  · rw [(a7 i (by omega)).1]
    exact (kI i hi).2.2.2.1
  · rw [a3, k7]; exact c7
  · rw [a3, k7]; exact r4.2.2
  · exact (c3 p (by omega)).2.2.1
