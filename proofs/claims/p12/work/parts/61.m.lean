theorem mu_le {T : Tr} (h : iR BM T) : mu T ≤ 37 := by
  have b16 : 0 ≤ (T 0 16).toInt ∧ (T 0 16).toInt ≤ 5 := h 0 16
  have b17 : 0 ≤ (T 0 17).toInt ∧ (T 0 17).toInt ≤ 6 := h 0 17
  have b18 : 0 ≤ (T 0 18).toInt ∧ (T 0 18).toInt ≤ 10 := h 0 18
  have b20 : 0 ≤ (T 0 20).toInt ∧ (T 0 20).toInt ≤ 10 := h 0 20
  have f1 := flg_b (T 22 0)
  have f2 := flg_b (T 22 1)
  have f3 := flg_b (T 22 2)
  have f4 := flg_b (T 36 3)
  have f5 := flg_b (T 36 4)
  have f6 := flg_b (T 36 5)
  unfold mu
  omega
/-- all that holds of the reference between calls -/
def jX (T : Tr) : Prop := jR T ∧ wK T
theorem r_L55 {z : Tr} (L : Lo) (hj : jR z) (N : Nat) : ∀ (x2 : Int32) (T : Tr), rP 3 z T → 40 - mu T < (N : Int) → D (lpF (fun _ _ => none) (fB_X8_text_L55 L) N x2 T) (fun q => jX q.2.1 ∧ q.2.1 0 1 = z 0 1 ∧ ∀ j, q.2.1 4 j = z 4 j) := by
  induction N with
  | zero => intro x2 T h hn; have := mu_le h.1; omega
  | succ N ih =>
    intro x2 T h hn
    show D (fB_X8_text_L55 L (lpF (fun _ _ => none) (fB_X8_text_L55 L) N) x2 T) _
    generalize lpF (fun _ _ => none) (fB_X8_text_L55 L) N = k at ih ⊢
    unfold fB_X8_text_L55
    refine D_ite (fun _ => ?_) (fun _ => ?_)
    · unfold fJ_X8_text_J77
      refine D_bd (r_keepText L hj.2.2.2.2.2 h) (fun q _ hq => D_some ⟨⟨hq.1, wK_S hq.2.1 h.2.2.1⟩, ?_, fun j => ?_⟩)
      · show q.1 0 1 = z 0 1
        rw [hq.2.2]; exact h.2.1 0 1 rfl
      · show q.1 4 j = z 4 j
        rw [hq.2.1 j]; exact h.2.1 4 j rfl
    · refine D_bd (r_lineRead (rP_self h)) (fun q _ hq => ?_)
      rcases hq with ⟨hz, x, hr⟩ | ⟨hz, hm, hr⟩
      · refine D_ite (fun _ => ?_) (fun c => absurd hz c)
        have hr2 := rP_tr h hr
        exact D_some ⟨⟨jR_P hj hr2.1 hr2.2.1 hr2.2.2.2.2.1.2.2.1, hr2.2.2.1⟩, hr2.2.1 0 1 rfl, fun j => hr2.2.1 4 j rfl⟩
      · refine D_ite (fun c => ?_) (fun _ => D_lt (fun y _ => ?_))
        · exact absurd (c.symm.trans hz) (by decide)
        · exact ih y q.2 (rP_tr h hr) (by omega)
theorem jR_fr {S T : Tr} (h : jR S) (hB : iR BM T) (o : ∀ a, ¬ a = 0 → ¬ a = 1 → T a = S a) (e13 : T 0 13 = S 0 13) (e14 : T 0 14 = S 0 14) (e82 : T 0 82 = S 0 82) (e84 : T 0 84 = S 0 84) : jR T := by
  obtain ⟨h1, h2, h3, h4, h5, h6⟩ := h
  have q : ∀ a, ¬ a = 0 → ¬ a = 1 → ∀ j, T a j = S a j := fun a n0 n1 j => by rw [o a n0 n1]
  exact ⟨hB, pI_fr h2 (q 39 (by decide) (by decide)) (q 40 (by decide) (by decide)) (q 41 (by decide) (by decide)) (q 36 (by decide) (by decide)) (q 38 (by decide) (by decide)) (q 30 (by decide) (by decide)) (q 29 (by decide) (by decide)) e13 e14, gI_fr h3 (q 53 (by decide) (by decide)) (q 54 (by decide) (by decide)) (q 55 (by decide) (by decide)) (q 56 (by decide) (by decide)) (q 58 (by decide) (by decide)) e13 e14, uI_fr h1 h4 (q 84 (by decide) (by decide)) (fun i _ => q 53 (by decide) (by decide) i) (Int.le_of_eq (by rw [e82])) e13 e14, vI_fr h1 h5 (q 86 (by decide) (by decide)) (q 87 (by decide) (by decide)) e84 e13 e14, zI_fr h6 (q 81 (by decide) (by decide))⟩
theorem R_text (S : Tr) (L : Lo) (x1 : Int32) (h : jX S) : D (f_X8_text S L x1) (fun q => jX q.2.1 ∧ (0 ≤ x1.toInt ∧ x1.toInt ≤ (S 0 1).toInt → q.2.1 0 1 = 0) ∧ (¬ (0 ≤ x1.toInt ∧ x1.toInt ≤ (S 0 1).toInt) → q.2.1 0 1 = S 0 1) ∧ ∀ j, q.2.1 4 j = S 4 j) := by
  obtain ⟨h, hw⟩ := h
  have g := jR_thr (v := 0) h
  have b1 : 0 ≤ (S 0 1).toInt ∧ (S 0 1).toInt ≤ 700 := h.1 0 1
  unfold f_X8_text
  refine D_lt (fun S1 e1 => ?_)
  rw [← e1] at g
  have hw1 : wK S1 := wK_S (fun j => by rw [e1, st_oth (by decide)]) hw
  have t1 : S1 0 1 = S 0 1 := by rw [e1, st_ne (by decide)]
  refine D_ite (fun c => ?_) (fun c => ?_)
  · have k := tq_lt (x := x1) (y := (0 : Int32)) rfl (b := 0) (by decide) c
    exact D_some ⟨⟨g, hw1⟩, fun q => by omega, fun _ => t1, fun j => by show S1 4 j = S 4 j; rw [e1, st_oth (by decide)]⟩
  have k := tq_ltn (x := x1) (y := (0 : Int32)) rfl (b := 0) (by decide) c
  refine D_ite (fun c2 => ?_) (fun c2 => ?_)
  rotate_left
  · have k2 := tq_len (x := x1) (y := S1 0 1) rfl rfl c2
    rw [t1] at k2
    exact D_some ⟨⟨g, hw1⟩, fun q => by omega, fun _ => t1, fun j => by show S1 4 j = S 4 j; rw [e1, st_oth (by decide)]⟩
  have k2 := tq_le (x := x1) (y := S1 0 1) rfl rfl c2
  rw [t1] at k2
  refine D_lt (fun S4 e4 => D_lt (fun S5 e5 => D_lt (fun S6 e6 => D_lt (fun S7 e7 => D_lt (fun S8 e8 => ?_)))))
  have i4 : iR BM S4 := by
    rw [e4]; refine iR_set (a := 0) (i := 6) g.1 ?_ ?_
    · show (0 : Int) ≤ _; omega
    · show _ ≤ (700 : Int); omega
  have i5 : iR BM S5 := by rw [e5]; exact iR_set (a := 0) (i := 1) i4 (by decide) (by decide)
  have i6 : iR BM S6 := by rw [e6]; exact iR_setU i5 rfl
  have i7 : iR BM S7 := by rw [e7]; exact iR_setU i6 rfl
  have i8 : iR BM S8 := by rw [e8]; exact iR_set (a := 0) (i := 7) i7 (by decide) (by decide)
  have o8 : ∀ a, ¬ a = 0 → S8 a = S1 a := fun a ha => by rw [e8, st_oth ha, e7, st_oth ha, e6, st_oth ha, e5, st_oth ha, e4, st_oth ha]
  have z8 : ∀ j, 8 ≤ j → S8 0 j = S1 0 j := fun j hj => by rw [e8, st_ne (by omega), e7, st_ne (by omega), e6, st_ne (by omega), e5, st_ne (by omega), e4, st_ne (by omega)]
  have z7 : S8 0 7 = 0 := by rw [e8, st_same]
  have z1 : S8 0 1 = 0 := by rw [e8, st_ne (by decide), e7, st_ne (by decide), e6, st_ne (by decide), e5, st_same]
  have j8 : jR S8 := jR_fr g i8 (fun a n0 _ => o8 a n0) (z8 13 (by decide)) (z8 14 (by decide)) (z8 82 (by decide)) (z8 84 (by decide))
  have w8 : wK S8 := wK_S (fun j => by rw [o8 4 (by decide)]) hw1
  refine D_bd (D_and (t_X8_plain S8 i8) (t2_plain S8)) (fun S9 _ h9 => ?_)
  obtain ⟨⟨i9, a9⟩, y16, y17, y18, y19, y46, y36, y0, yo⟩ := h9
  have b6 : 0 ≤ (S9 0 6).toInt ∧ (S9 0 6).toInt ≤ 700 := i9 0 6
  have l0 : (0 : Int32).toInt = 0 := by decide
  have w9 : wK S9 := wK_S (fun j => by rw [yo 4 (by decide) (by decide) (by decide) (by decide) (by decide) (by decide)]) w8
  refine D_bd (t_X8_token S9 i9 w9 (by rw [y0 7 (by decide), z7, l0]; exact b6.1)) (fun S12 _ h12 => ?_)
  obtain ⟨i12, a12, k12⟩ := h12
  have n12 : ∀ k, nodeOK S12 k := fun k => nodeOK_eq (j8.2.1.1 k) (by rw [a12 39 k rfl, yo 39 (by decide) (by decide) (by decide) (by decide) (by decide) (by decide)]) (by rw [a12 40 k rfl, yo 40 (by decide) (by decide) (by decide) (by decide) (by decide) (by decide)]) (by rw [a12 41 k rfl, yo 41 (by decide) (by decide) (by decide) (by decide) (by decide) (by decide)])
  have aP12 : aP S8 S12 := aP_tr a9 (fun a j hf => aN_K a12 a j (Wn_p hf))
  have j12 : jR S12 := jR_P j8 i12 aP12 n12
  have r12 : rP 3 S12 S12 := by
    refine ⟨i12, aP_rfl, wK_K a12 w9, k12, ⟨fun i _ hl => ?_, fun p _ hl => ?_, n12, fun w hw1 _ hl => ?_, fun _ => ?_⟩, Int.le_refl _⟩
    · rw [a12 0 18 rfl, y18, l0] at hl; omega
    · rw [a12 0 17 rfl, y17, l0] at hl; omega
    · rw [a12 36 _ rfl, y36 w hw1] at hl; exact absurd rfl hl
    · rw [a12 0 19 rfl, a12 0 46 rfl, y19, y46]
  have e01 : S12 0 1 = 0 := by rw [aP12 0 1 rfl, z1]
  have mu0 : 0 ≤ mu S12 := by
    have f1 := flg_b (S12 22 0)
    have f2 := flg_b (S12 22 1)
    have f3 := flg_b (S12 22 2)
    have f4 := flg_b (S12 36 3)
    have f5 := flg_b (S12 36 4)
    have f6 := flg_b (S12 36 5)
    have b16 : 0 ≤ (S12 0 16).toInt ∧ (S12 0 16).toInt ≤ 5 := i12 0 16
    have b17 : 0 ≤ (S12 0 17).toInt ∧ (S12 0 17).toInt ≤ 6 := i12 0 17
    have b18 : 0 ≤ (S12 0 18).toInt ∧ (S12 0 18).toInt ≤ 10 := i12 0 18
    have b20 : 0 ≤ (S12 0 20).toInt ∧ (S12 0 20).toInt ≤ 10 := i12 0 20
    unfold mu; omega
  refine D_mono (r_L55 L j12 2000 0 S12 r12 (by omega)) (fun q hq => ⟨hq.1, fun _ => hq.2.1.trans e01, fun q => absurd ⟨k, k2⟩ q, fun j => by rw [hq.2.2 j, aP12 4 j rfl, o8 4 (by decide), e1, st_oth (by decide)]⟩)
/-! the tape grows -/
theorem r_f23 (S : Tr) (x1 x2 x3 x4 x5 : Int32) (h0 : 0 ≤ (S 0 1).toInt ∧ (S 0 1).toInt ≤ 680) (N : Nat) : ∀ (x6 : Int32) (T : Tr), 0 ≤ x6.toInt → x6.toInt ≤ 20 → 30 - x6.toInt < (N : Int) → (∀ a, ¬ a = 1 → T a = S a) → D (lpF (fun _ _ => none) (fB_X8_feed_L23 x1 x2 x3 x4 x5) N x6 T) (fun q => (q.1 = q.2 0 1 ∧ (q.2 0 1).toInt = (S 0 1).toInt + 20) ∧ (∀ a, ¬ a = 0 → ¬ a = 1 → q.2 a = S a) ∧ (∀ j, ¬ j = 1 → q.2 0 j = S 0 j)) := by
  induction N with
  | zero => intro x6 T h1 h2 h3; omega
  | succ N ih =>
    intro x6 T h1 h2 h3 h4
    show D (fB_X8_feed_L23 x1 x2 x3 x4 x5 (lpF (fun _ _ => none) (fB_X8_feed_L23 x1 x2 x3 x4 x5) N) x6 T) _
    generalize lpF (fun _ _ => none) (fB_X8_feed_L23 x1 x2 x3 x4 x5) N = k at ih ⊢
    unfold fB_X8_feed_L23
    have z := h4 0 (by decide)
    have f20 : (S 0 1 + 20).toInt = (S 0 1).toInt + 20 := i_addK rfl (by decide) (by omega) (by omega)
    have hJ : ¬ 20 ≤ x6 → ∀ s0 : Int32, D (fJ_X8_feed_J76 k x1 x2 x3 x4 x5 x6 s0 T) (fun q => (q.1 = q.2 0 1 ∧ (q.2 0 1).toInt = (S 0 1).toInt + 20) ∧ (∀ a, ¬ a = 0 → ¬ a = 1 → q.2 a = S a) ∧ (∀ j, ¬ j = 1 → q.2 0 j = S 0 j)) := by
      intro c s0
      have k1 := tq_len (x := (20 : Int32)) (y := x6) (a := 20) (by decide) rfl c
      unfold fJ_X8_feed_J76
      have e1 : (T 0 1 + x6).toInt = (S 0 1).toInt + x6.toInt := i_addK (by rw [z]) rfl (by omega) (by omega)
      refine D_ck (okI_of (by omega) (by omega)) (D_lt (fun T1 e => D_lt (fun y ey => ?_)))
      have e2 : y.toInt = x6.toInt + 1 := by rw [ey]; exact i_addK rfl (by decide) (by omega) (by omega)
      exact ih y T1 (by omega) (by omega) (by omega) (fun a ha => by rw [e, st_oth ha, h4 a ha])
    refine D_ite (fun c => ?_) (fun c => D_ite (fun _ => D_ite (fun _ => D_ite (fun _ => D_ite (fun _ => hJ c _) (fun _ => hJ c _)) (fun _ => hJ c _)) (fun _ => hJ c _)) (fun _ => hJ c _))
    unfold fJ_X8_feed_J113
    refine D_lt (fun T1 e => D_some ⟨⟨rfl, ?_⟩, fun a n0 n1 => ?_, fun j hj => ?_⟩)
    · show (T1 0 1).toInt = _
      rw [e, st_same, z]; exact f20
    · show T1 a = S a
      rw [e, st_oth n0, h4 a n1]
    · show T1 0 j = S 0 j
      rw [e, st_ne hj, z]
theorem R_feed (S : Tr) (x1 x2 x3 x4 x5 : Int32) (h : jX S) : D (f_X8_feed S x1 x2 x3 x4 x5) (fun q => jX q.2 ∧ ((S 0 1).toInt + 20 ≤ 700 → q.1 = q.2 0 1 ∧ (q.2 0 1).toInt = (S 0 1).toInt + 20) ∧ (¬ (S 0 1).toInt + 20 ≤ 700 → q.1 = -1 ∧ q.2 0 1 = S 0 1) ∧ ∀ j, q.2 4 j = S 4 j) := by
  obtain ⟨h, hw⟩ := h
  have g := jR_thr (v := 0) h
  have b1 : 0 ≤ (S 0 1).toInt ∧ (S 0 1).toInt ≤ 700 := h.1 0 1
  unfold f_X8_feed
  refine D_lt (fun S1 e1 => ?_)
  rw [← e1] at g
  have hw1 : wK S1 := wK_S (fun j => by rw [e1, st_oth (by decide)]) hw
  have t1 : S1 0 1 = S 0 1 := by rw [e1, st_ne (by decide)]
  have f20 : (S1 0 1 + 20).toInt = (S 0 1).toInt + 20 := by rw [t1]; exact i_addK rfl (by decide) (by omega) (by omega)
  refine D_ite (fun c => ?_) (fun c => ?_)
  · have k := tq_le (x := S1 0 1 + 20) (y := (700 : Int32)) f20 (b := 700) (by decide) c
    refine D_mono (r_f23 S1 x1 x2 x3 x4 x5 (by rw [t1]; omega) 2000 0 S1 (by decide) (by decide) (by decide) (fun _ _ => rfl)) (fun q hq => ?_)
    obtain ⟨⟨q0, q1⟩, qo, qz⟩ := hq
    rw [t1] at q1
    have iq : iR BM q.2 := fun a j => by
      by_cases ha : a = 0
      · subst ha
        by_cases hj : j = 1
        · subst hj
          refine ⟨?_, ?_⟩
          · show (0 : Int) ≤ _; omega
          · show _ ≤ (700 : Int); omega
        · rw [qz j hj]; exact g.1 0 j
      · by_cases ha1 : a = 1
        · subst ha1
          have r := i_rng (q.2 1 j)
          refine ⟨?_, ?_⟩
          · show (-2147483648 : Int) ≤ _; omega
          · show _ ≤ (2147483647 : Int); omega
        · rw [qo a ha ha1]; exact g.1 a j
    exact ⟨⟨jR_fr g iq qo (qz 13 (by decide)) (qz 14 (by decide)) (qz 82 (by decide)) (qz 84 (by decide)), wK_S (fun j => by rw [qo 4 (by decide) (by decide)]) hw1⟩, fun _ => ⟨q0, q1⟩, fun hz => absurd k hz, fun j => by rw [qo 4 (by decide) (by decide), e1, st_oth (by decide)]⟩
  · have k := tq_len (x := S1 0 1 + 20) (y := (700 : Int32)) f20 (b := 700) (by decide) c
    exact D_some ⟨⟨g, hw1⟩, fun hz => by omega, fun _ => ⟨rfl, t1⟩, fun j => by show S1 4 j = S 4 j; rw [e1, st_oth (by decide)]⟩
