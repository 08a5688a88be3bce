/-- what the reference tells of a sign: kind, which, how far -/
def sgR (c d k w m : Int) : Prop := (c = 60 ∧ k = 5 ∧ ((d = 61 ∧ w = 1 ∧ m = 2) ∨ (d = 62 ∧ w = 3 ∧ m = 2) ∨ (d ≠ 61 ∧ d ≠ 62 ∧ w = 0 ∧ m = 1))) ∨ (c = 62 ∧ k = 5 ∧ ((d = 61 ∧ w = 4 ∧ m = 2) ∨ (d ≠ 61 ∧ w = 5 ∧ m = 1))) ∨ (c = 61 ∧ k = 5 ∧ w = 2 ∧ m = 1) ∨ ((c = 59 ∨ c = 40 ∨ c = 41 ∨ c = 43 ∨ c = 45 ∨ c = 42 ∨ c = 47 ∨ c = 37) ∧ k = 4 ∧ w = c ∧ m = 1) ∨ (c ≠ 60 ∧ c ≠ 62 ∧ c ≠ 61 ∧ c ≠ 59 ∧ c ≠ 40 ∧ c ≠ 41 ∧ c ≠ 43 ∧ c ≠ 45 ∧ c ≠ 42 ∧ c ≠ 47 ∧ c ≠ 37 ∧ k = 6 ∧ m = 1)
theorem e_J135 (T : Tr) (x2 x3 : Int32) : Ep (fJ_X8_signToken_J135 x2 x3 T) (fun q => q 0 7 = T 0 7 ∧ (q 0 8).toInt = 5 ∧ ((T 0 9).toInt = 61 → (q 0 9).toInt = 2) ∧ ((T 0 9).toInt = 60 → ¬ x2 = 0 → (q 0 9).toInt = 1) ∧ ((T 0 9).toInt = 60 → x2 = 0 → ¬ x3 = 0 → (q 0 9).toInt = 3) ∧ ((T 0 9).toInt = 60 → x2 = 0 → x3 = 0 → (q 0 9).toInt = 0) ∧ (¬ (T 0 9).toInt = 61 → ¬ (T 0 9).toInt = 60 → ¬ x2 = 0 → (q 0 9).toInt = 4) ∧ (¬ (T 0 9).toInt = 61 → ¬ (T 0 9).toInt = 60 → x2 = 0 → (q 0 9).toInt = 5)) := by
  unfold fJ_X8_signToken_J135
  refine Ep_lt (fun S1 e1 => ?_)
  have f9 : S1 0 9 = T 0 9 := by rw [e1, st_ne (by decide)]
  have f7 : S1 0 7 = T 0 7 := by rw [e1, st_ne (by decide)]
  have f8 : S1 0 8 = 5 := by rw [e1, st_same]
  have go : ∀ s0 : Int32, Ep (fJ_X8_signToken_J192 s0 S1) (fun q => q 0 7 = T 0 7 ∧ (q 0 8).toInt = 5 ∧ q 0 9 = s0) := by
    intro s0
    unfold fJ_X8_signToken_J192
    refine Ep_lt (fun S2 e2 => Ep_some ⟨by rw [e2, st_ne (by decide), f7], by rw [e2, st_ne (by decide), f8]; decide, by rw [e2, st_same]⟩)
  rw [f9]
  refine Ep_ite (fun c1 => Ep_mono (go _) ?_) (fun c1 => Ep_ite (fun c2 => Ep_ite (fun c3 => Ep_ite (fun c4 => Ep_mono (go _) ?_) (fun c4 => Ep_mono (go _) ?_)) (fun c3 => Ep_mono (go _) ?_)) (fun c2 => Ep_ite (fun c3 => Ep_mono (go _) ?_) (fun c3 => Ep_mono (go _) ?_)))
  all_goals
    intro q ⟨g1, g2, g3⟩
    refine ⟨g1, g2, ?_⟩
    rw [g3]
    first
      | (have k1 := i_is (k := 61) (by decide) c1; refine ⟨fun _ => by decide, fun h => absurd h (by omega), fun h => absurd h (by omega), fun h => absurd h (by omega), fun h => absurd k1 h, fun h => absurd k1 h⟩)
      | (have k1 := i_isn (k := 61) (by decide) c1
         have k2 := i_is (k := 60) (by decide) c2
         refine ⟨fun h => absurd h k1, fun _ h => ?_, fun _ h h' => ?_, fun _ h h' => ?_, fun _ h => absurd k2 h, fun _ h => absurd k2 h⟩ <;> first | exact absurd c3 h | exact absurd h c3 | exact absurd c4 h' | exact absurd h' c4 | decide)
      | (have k1 := i_isn (k := 61) (by decide) c1
         have k2 := i_isn (k := 60) (by decide) c2
         refine ⟨fun h => absurd h k1, fun h => absurd h k2, fun h => absurd h k2, fun h => absurd h k2, fun _ _ h => ?_, fun _ _ h => ?_⟩ <;> first | exact absurd c3 h | exact absurd h c3 | decide)
theorem e_J74 (T : Tr) (d : Int32) (hb : 0 ≤ (T 0 7).toInt ∧ (T 0 7).toInt ≤ 700) (hc : (T 0 9).toInt = 60 ∨ (T 0 9).toInt = 61 ∨ (T 0 9).toInt = 62) : Ep (fJ_X8_signToken_J74 d T) (fun q => ∃ m, sgR (T 0 9).toInt d.toInt (q 0 8).toInt (q 0 9).toInt m ∧ (q 0 7).toInt = (T 0 7).toInt + (m - 1)) := by
  have e7 : (T 0 7 + 1).toInt = (T 0 7).toInt + 1 := i_addK rfl (by decide) (by omega) (by omega)
  have g116 : ∀ x2 s0 : Int32, Ep (fJ_X8_signToken_J116 x2 s0 T) (fun q => (((x2 = 0 ∧ s0 = 0) ∧ (q 0 7).toInt = (T 0 7).toInt) ∨ (¬ (x2 = 0 ∧ s0 = 0) ∧ (q 0 7).toInt = (T 0 7).toInt + 1)) ∧ (q 0 8).toInt = 5 ∧ ((T 0 9).toInt = 61 → (q 0 9).toInt = 2) ∧ ((T 0 9).toInt = 60 → ¬ x2 = 0 → (q 0 9).toInt = 1) ∧ ((T 0 9).toInt = 60 → x2 = 0 → ¬ s0 = 0 → (q 0 9).toInt = 3) ∧ ((T 0 9).toInt = 60 → x2 = 0 → s0 = 0 → (q 0 9).toInt = 0) ∧ (¬ (T 0 9).toInt = 61 → ¬ (T 0 9).toInt = 60 → ¬ x2 = 0 → (q 0 9).toInt = 4) ∧ (¬ (T 0 9).toInt = 61 → ¬ (T 0 9).toInt = 60 → x2 = 0 → (q 0 9).toInt = 5)) := by
    intro x2 s0
    have g125 : Ep (fJ_X8_signToken_J125 x2 s0 T) (fun q => (q 0 7).toInt = (T 0 7).toInt + 1 ∧ (q 0 8).toInt = 5 ∧ ((T 0 9).toInt = 61 → (q 0 9).toInt = 2) ∧ ((T 0 9).toInt = 60 → ¬ x2 = 0 → (q 0 9).toInt = 1) ∧ ((T 0 9).toInt = 60 → x2 = 0 → ¬ s0 = 0 → (q 0 9).toInt = 3) ∧ ((T 0 9).toInt = 60 → x2 = 0 → s0 = 0 → (q 0 9).toInt = 0) ∧ (¬ (T 0 9).toInt = 61 → ¬ (T 0 9).toInt = 60 → ¬ x2 = 0 → (q 0 9).toInt = 4) ∧ (¬ (T 0 9).toInt = 61 → ¬ (T 0 9).toInt = 60 → x2 = 0 → (q 0 9).toInt = 5)) := by
      unfold fJ_X8_signToken_J125
      refine Ep_lt (fun S1 e1 => Ep_mono (e_J135 S1 x2 s0) (fun q hq => ?_))
      have f9 : S1 0 9 = T 0 9 := by rw [e1, st_ne (by decide)]
      have f7 : S1 0 7 = T 0 7 + 1 := by rw [e1, st_same]
      rw [f9, f7] at hq
      exact ⟨by rw [hq.1]; exact e7, hq.2⟩
    unfold fJ_X8_signToken_J116
    refine Ep_ite (fun c1 => Ep_ite (fun c2 => Ep_mono (e_J135 T x2 s0) (fun q hq => ?_)) (fun c2 => Ep_mono g125 (fun q hq => ?_))) (fun c1 => Ep_mono g125 (fun q hq => ?_))
    · exact ⟨Or.inl ⟨⟨c1, c2⟩, by rw [hq.1]⟩, hq.2⟩
    · exact ⟨Or.inr ⟨fun h => c2 h.2, hq.1⟩, hq.2⟩
    · exact ⟨Or.inr ⟨fun h => c1 h.1, hq.1⟩, hq.2⟩
  have g95 : ∀ s0 : Int32, Ep (fJ_X8_signToken_J95 d s0 T) (fun q => (s0 = 0 ∧ ¬ (T 0 9).toInt = 60 → (q 0 7).toInt = (T 0 7).toInt ∧ ((T 0 9).toInt = 61 → (q 0 9).toInt = 2) ∧ (¬ (T 0 9).toInt = 61 → (q 0 9).toInt = 5)) ∧ (s0 = 0 ∧ (T 0 9).toInt = 60 ∧ d.toInt = 62 → (q 0 7).toInt = (T 0 7).toInt + 1 ∧ (q 0 9).toInt = 3) ∧ (s0 = 0 ∧ (T 0 9).toInt = 60 ∧ ¬ d.toInt = 62 → (q 0 7).toInt = (T 0 7).toInt ∧ (q 0 9).toInt = 0) ∧ (¬ s0 = 0 → (q 0 7).toInt = (T 0 7).toInt + 1 ∧ ((T 0 9).toInt = 60 → (q 0 9).toInt = 1) ∧ ((T 0 9).toInt = 62 → (q 0 9).toInt = 4)) ∧ (q 0 8).toInt = 5) := by
    intro s0
    unfold fJ_X8_signToken_J95 fJ_X8_signToken_J115
    have z1 : ¬ (1 : Int32) = 0 := by decide
    refine Ep_ite (fun c1 => ?_) (fun c1 => ?_)
    · have k1 := i_is (k := 60) (by decide) c1
      refine Ep_ite (fun c2 => Ep_mono (g116 _ _) (fun q hq => ?_)) (fun c2 => Ep_mono (g116 _ _) (fun q hq => ?_))
      · have k2 := i_is (k := 62) (by decide) c2
        obtain ⟨a1, a2, a3, a4, a5, a6, a7, a8⟩ := hq
        refine ⟨fun h => absurd k1 h.2, fun h => ⟨?_, a5 k1 h.1 z1⟩, fun h => absurd k2 h.2.2, fun h => ⟨?_, fun _ => a4 k1 h, fun h' => by omega⟩, a2⟩
        · rcases a1 with ⟨g, _⟩ | ⟨_, g⟩
          · exact absurd g.2 z1
          · exact g
        · rcases a1 with ⟨g, _⟩ | ⟨_, g⟩
          · exact absurd g.2 z1
          · exact g
      · have k2 := i_isn (k := 62) (by decide) c2
        obtain ⟨a1, a2, a3, a4, a5, a6, a7, a8⟩ := hq
        refine ⟨fun h => absurd k1 h.2, fun h => absurd h.2.2 k2, fun h => ⟨?_, a6 k1 h.1 rfl⟩, fun h => ⟨?_, fun _ => a4 k1 h, fun h' => by omega⟩, a2⟩
        · rcases a1 with ⟨_, g⟩ | ⟨g, _⟩
          · exact g
          · exact absurd ⟨h.1, rfl⟩ g
        · rcases a1 with ⟨g, _⟩ | ⟨_, g⟩
          · exact absurd g.1 h
          · exact g
    · have k1 := i_isn (k := 60) (by decide) c1
      refine Ep_mono (g116 _ _) (fun q hq => ?_)
      obtain ⟨a1, a2, a3, a4, a5, a6, a7, a8⟩ := hq
      refine ⟨fun h => ⟨?_, a3, fun h' => a8 h' k1 h.1⟩, fun h => absurd h.2.1 k1, fun h => absurd h.2.1 k1, fun h => ⟨?_, fun h' => absurd h' k1, fun h' => a7 (by omega) k1 h⟩, a2⟩
      · rcases a1 with ⟨_, g⟩ | ⟨g, _⟩
        · exact g
        · exact absurd ⟨h.1, rfl⟩ g
      · rcases a1 with ⟨g, _⟩ | ⟨_, g⟩
        · exact absurd g.1 h
        · exact g
  unfold fJ_X8_signToken_J74 fJ_X8_signToken_J94
  have z1 : ¬ (1 : Int32) = 0 := by decide
  refine Ep_ite (fun c1 => Ep_mono (g95 _) (fun q hq => ?_)) (fun c1 => Ep_ite (fun c2 => Ep_mono (g95 _) (fun q hq => ?_)) (fun c2 => Ep_mono (g95 _) (fun q hq => ?_)))
  · have k1 := i_is (k := 61) (by decide) c1
    obtain ⟨a1, a2, a3, a4, a5⟩ := hq
    have b := a1 ⟨rfl, by omega⟩
    exact ⟨1, Or.inr (Or.inr (Or.inl ⟨k1, a5, b.2.1 k1, rfl⟩)), by omega⟩
  · have k1 := i_isn (k := 61) (by decide) c1
    have k2 := i_is (k := 61) (by decide) c2
    obtain ⟨a1, a2, a3, a4, a5⟩ := hq
    have b := a4 z1
    rcases hc with g | g | g
    · exact ⟨2, Or.inl ⟨g, a5, Or.inl ⟨k2, b.2.1 g, rfl⟩⟩, by omega⟩
    · exact absurd g k1
    · exact ⟨2, Or.inr (Or.inl ⟨g, a5, Or.inl ⟨k2, b.2.2 g, rfl⟩⟩), by omega⟩
  · have k1 := i_isn (k := 61) (by decide) c1
    have k2 := i_isn (k := 61) (by decide) c2
    obtain ⟨a1, a2, a3, a4, a5⟩ := hq
    rcases hc with g | g | g
    · by_cases k3 : d.toInt = 62
      · have b := a2 ⟨rfl, g, k3⟩
        exact ⟨2, Or.inl ⟨g, a5, Or.inr (Or.inl ⟨k3, b.2, rfl⟩)⟩, by omega⟩
      · have b := a3 ⟨rfl, g, k3⟩
        exact ⟨1, Or.inl ⟨g, a5, Or.inr (Or.inr ⟨k2, k3, b.2, rfl⟩)⟩, by omega⟩
    · exact absurd g k1
    · have b := a1 ⟨rfl, by omega⟩
      exact ⟨1, Or.inr (Or.inl ⟨g, a5, Or.inr ⟨k2, b.2.2 k1, rfl⟩⟩), by omega⟩
theorem e_signT {S : Tr} {n : Nat} (hx : (S 0 7).toInt = n) (hl : (n : Int) < (S 0 6).toInt) (h6 : (S 0 6).toInt ≤ 700) : Ep (f_X8_signToken S) (fun q => ∃ m d, sgR (S 1 n).toInt d (q 0 8).toInt (q 0 9).toInt m ∧ (q 0 7).toInt = n + m ∧ (((n : Int) + 1 < (S 0 6).toInt ∧ d = (S 1 (n + 1)).toInt) ∨ ((S 0 6).toInt ≤ (n : Int) + 1 ∧ d = 0))) := by
  unfold f_X8_signToken
  have c0 : (S 0 7).toNatClampNeg = n := by simp only [i_cl]; omega
  refine Ep_ck (Ep_lt (fun S2 e2 => Ep_lt (fun S3 e3 => ?_)))
  rw [c0] at e2
  have f9 : S3 0 9 = S 1 n := by rw [e3, st_ne (by decide), e2, st_same]
  have f7 : (S3 0 7).toInt = n + 1 := by
    rw [e3, st_same, e2, st_ne (by decide)]
    have : (S 0 7 + 1).toInt = (S 0 7).toInt + 1 := i_addK rfl (by decide) (by omega) (by omega)
    omega
  have f6 : S3 0 6 = S 0 6 := by rw [e3, st_ne (by decide), e2, st_ne (by decide)]
  have f1 : S3 1 = S 1 := by rw [e3, st_oth (by decide), e2, st_oth (by decide)]
  have f8 : ∀ k : Int32, Ep (fJ_X8_signToken_J287 k S3) (fun q => q 0 8 = k ∧ q 0 9 = S 1 n ∧ (q 0 7).toInt = n + 1) := by
    intro k
    unfold fJ_X8_signToken_J287
    refine Ep_lt (fun S4 e4 => Ep_some ⟨by rw [e4, st_same], by rw [e4, st_ne (by decide), f9], by rw [e4, st_ne (by decide), f7]⟩)
  have dd : ∃ d : Int, (((n : Int) + 1 < (S 0 6).toInt ∧ d = (S 1 (n + 1)).toInt) ∨ ((S 0 6).toInt ≤ (n : Int) + 1 ∧ d = 0)) := by
    by_cases h : (n : Int) + 1 < (S 0 6).toInt
    · exact ⟨_, Or.inl ⟨h, rfl⟩⟩
    · exact ⟨0, Or.inr ⟨by omega, rfl⟩⟩
  have j50 : (S3 0 9).toInt = 60 ∨ (S3 0 9).toInt = 61 ∨ (S3 0 9).toInt = 62 → Ep (fJ_X8_signToken_J50 S3) (fun q => ∃ m d, sgR (S 1 n).toInt d (q 0 8).toInt (q 0 9).toInt m ∧ (q 0 7).toInt = n + m ∧ (((n : Int) + 1 < (S 0 6).toInt ∧ d = (S 1 (n + 1)).toInt) ∨ ((S 0 6).toInt ≤ (n : Int) + 1 ∧ d = 0))) := by
    intro hc
    unfold fJ_X8_signToken_J50
    have c7 : (S3 0 7).toNatClampNeg = n + 1 := by simp only [i_cl]; omega
    refine Ep_ite (fun c => ?_) (fun c => ?_)
    · have k := tq_le (x := S3 0 6) (y := S3 0 7) rfl rfl c
      rw [f6] at k
      refine Ep_mono (e_J74 S3 0 (by omega) hc) (fun q hq => ?_)
      obtain ⟨m, q1, q2⟩ := hq
      rw [f9] at q1
      exact ⟨m, _, q1, by omega, Or.inr ⟨by omega, by decide⟩⟩
    · have k := tq_len (x := S3 0 6) (y := S3 0 7) rfl rfl c
      rw [f6] at k
      refine Ep_ck ?_
      rw [c7, f1]
      refine Ep_mono (e_J74 S3 _ (by omega) hc) (fun q hq => ?_)
      obtain ⟨m, q1, q2⟩ := hq
      rw [f9] at q1
      exact ⟨m, _, q1, by omega, Or.inl ⟨by omega, rfl⟩⟩
  obtain ⟨d, hd⟩ := dd
  have j270 : ((S 1 n).toInt = 59 ∨ (S 1 n).toInt = 40 ∨ (S 1 n).toInt = 41 ∨ (S 1 n).toInt = 43 ∨ (S 1 n).toInt = 45 ∨ (S 1 n).toInt = 42 ∨ (S 1 n).toInt = 47 ∨ (S 1 n).toInt = 37) → Ep (fJ_X8_signToken_J270 S3) (fun q => ∃ m d, sgR (S 1 n).toInt d (q 0 8).toInt (q 0 9).toInt m ∧ (q 0 7).toInt = n + m ∧ (((n : Int) + 1 < (S 0 6).toInt ∧ d = (S 1 (n + 1)).toInt) ∨ ((S 0 6).toInt ≤ (n : Int) + 1 ∧ d = 0))) := by
    intro hc
    unfold fJ_X8_signToken_J270 fJ_X8_signToken_J275
    rw [if_neg (by decide)]
    refine Ep_mono (f8 4) (fun q hq => ⟨1, d, Or.inr (Or.inr (Or.inr (Or.inl ⟨hc, by rw [hq.1]; decide, by rw [hq.2.1], rfl⟩))), hq.2.2, hd⟩)
  rw [f9]
  rw [f9] at j50
  refine Ep_ite (fun c1 => j50 (Or.inl (i_is (by decide) c1))) (fun c1 => Ep_ite (fun c2 => j50 (Or.inr (Or.inr (i_is (by decide) c2)))) (fun c2 => Ep_ite (fun c3 => j50 (Or.inr (Or.inl (i_is (by decide) c3)))) (fun c3 => Ep_ite (fun c4 => j270 (by have := i_is (k := 59) (by decide) c4; omega)) (fun c4 => Ep_ite (fun c5 => j270 (by have := i_is (k := 40) (by decide) c5; omega)) (fun c5 => Ep_ite (fun c6 => j270 (by have := i_is (k := 41) (by decide) c6; omega)) (fun c6 => Ep_ite (fun c7 => j270 (by have := i_is (k := 43) (by decide) c7; omega)) (fun c7 => Ep_ite (fun c8 => j270 (by have := i_is (k := 45) (by decide) c8; omega)) (fun c8 => Ep_ite (fun c9 => j270 (by have := i_is (k := 42) (by decide) c9; omega)) (fun c9 => Ep_ite (fun c10 => j270 (by have := i_is (k := 47) (by decide) c10; omega)) (fun c10 => Ep_ite (fun c11 => j270 (by have := i_is (k := 37) (by decide) c11; omega)) (fun c11 => ?_)))))))))))
  unfold fJ_X8_signToken_J275
  rw [if_pos rfl]
  refine Ep_mono (f8 6) (fun q hq => ⟨1, d, Or.inr (Or.inr (Or.inr (Or.inr ⟨i_isn (by decide) c1, i_isn (by decide) c2, i_isn (by decide) c3, i_isn (by decide) c4, i_isn (by decide) c5, i_isn (by decide) c6, i_isn (by decide) c7, i_isn (by decide) c8, i_isn (by decide) c9, i_isn (by decide) c10, i_isn (by decide) c11, by rw [hq.1]; decide, rfl⟩))), hq.2.2, hd⟩)
