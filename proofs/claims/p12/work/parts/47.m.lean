theorem one_of {r : Int32} (h : 0 ≤ r.toInt ∧ r.toInt ≤ 1) (c : ¬ r = 0) : r.toInt = 1 := by
  have : ¬ r.toInt = 0 := fun hz => c (Int32.toInt_inj.mp (hz.trans (by decide)))
  omega
theorem tk162 {z T : Tr} (h : bK z T) {s0 : Int32} (hs : s0 = 2 ∨ s0 = 6 ∨ (s0 = 1 ∧ 0 ≤ (T 0 9).toInt ∧ (T 0 9).toInt ≤ 28)) (h10 : 0 ≤ (T 0 10).toInt ∧ (T 0 10).toInt ≤ (T 0 7).toInt) : D (fJ_X8_token_J162 s0 T) (tP z) := by
  have b := b_67 h.1
  have hr : 0 ≤ s0.toInt ∧ s0.toInt ≤ 6 ∧ ¬ s0.toInt = 3 := by
    rcases hs with e | e | ⟨e, _⟩ <;> subst e <;> decide
  have h1 := bK_8 h hr.1 hr.2.1
  unfold fJ_X8_token_J162
  refine D_lt (fun y ey => ?_)
  have e8 : y 0 8 = s0 := by rw [ey, st_same]
  have e7 : y 0 7 = T 0 7 := by rw [ey, st_ne (by decide)]
  have e9 : y 0 9 = T 0 9 := by rw [ey, st_ne (by decide)]
  have e10 : y 0 10 = T 0 10 := by rw [ey, st_ne (by decide)]
  rw [← ey] at h1
  refine D_ite (fun c => ?_) (fun c => ?_)
  · refine D_bd (t_X8_packed y (y 0 10) (y 0 7) h1.1 (by rw [e10]; omega) (by rw [e7]; omega)) (fun r _ _ => ?_)
    have h2 := bK_9 h1 r
    refine D_some ⟨h2.1, h2.2.1, h2.2.2, ?_, ?_, ?_⟩
    · rw [st_ne (by decide), c]; intro hz; exact absurd hz (by decide)
    · rw [st_ne (by decide), c]; intro hz; exact absurd hz (by decide)
    · rw [st_ne (by decide), c]; intro hz; exact absurd hz (by decide)
  · refine D_some ⟨h1.1, h1.2.1, h1.2.2, ?_, ?_, ?_⟩
    · rw [e8, e9]; intro hz
      rcases hs with e | e | ⟨_, e⟩
      · rw [e] at hz; exact absurd hz (by decide)
      · rw [e] at hz; exact absurd hz (by decide)
      · exact e
    · rw [e8]; intro hz; exact absurd hz hr.2.2
    · rw [e8]; intro hz
      rcases hs with e | e | ⟨e, _⟩
      · rw [e] at hz; exact absurd hz (by decide)
      · rw [e] at hz; exact absurd hz (by decide)
      · rw [e] at hz; exact absurd hz (by decide)
theorem tk114 {z T : Tr} (hw : wK z) (h : bK z T) (h10 : 0 ≤ (T 0 10).toInt ∧ (T 0 10).toInt ≤ (T 0 7).toInt) : D (fJ_X8_token_J114 T) (tP z) := by
  have b := b_67 h.1
  unfold fJ_X8_token_J114
  refine D_bd (t_X8_wordAt T (T 0 10) (T 0 7) (wK_K h.2.1 hw) ⟨h10.1, h10.2, b.2.2⟩) (fun r _ hr => ?_)
  refine D_lt (fun y ey => ?_)
  have h1 := bK_9 h r
  have e7 : y 0 7 = T 0 7 := by rw [ey, st_ne (by decide)]
  have e9 : y 0 9 = r := by rw [ey, st_same]
  have e10 : y 0 10 = T 0 10 := by rw [ey, st_ne (by decide)]
  rw [← ey] at h1
  have hh : 0 ≤ (y 0 10).toInt ∧ (y 0 10).toInt ≤ (y 0 7).toInt := by rw [e10, e7]; exact h10
  refine D_ite (fun c => D_ite (fun _ => ?_) (fun _ => ?_)) (fun c => ?_)
  · exact tk162 h1 (Or.inl rfl) hh
  · exact tk162 h1 (Or.inr (Or.inl rfl)) hh
  · have k := tq_ltn (x := y 0 9) (y := (0 : Int32)) rfl (b := 0) (by decide) c
    exact tk162 h1 (Or.inr (Or.inr ⟨rfl, k, by rw [e9]; exact hr.2⟩)) hh
theorem tk90 {z : Tr} (hw : wK z) (N : Nat) : ∀ T : Tr, bK z T → 0 ≤ (T 0 10).toInt ∧ (T 0 10).toInt ≤ (T 0 7).toInt → 800 - (T 0 7).toInt < (N : Int) → D (lpF (fun _ => none) fB_X8_token_L90 N T) (tP z) := by
  induction N with
  | zero => intro T h _ hn; have := b_67 h.1; omega
  | succ N ih =>
    intro T h h10 hn
    show D (fB_X8_token_L90 (lpF (fun _ => none) fB_X8_token_L90 N) T) _
    generalize lpF (fun _ => none) fB_X8_token_L90 N = k at ih ⊢
    unfold fB_X8_token_L90
    have b := b_67 h.1
    refine D_bd (t_X8_isSmall T (T 0 7) h.1 b.2) (fun r _ hr => D_ite (fun c => tk114 hw h h10) (fun c => ?_))
    have h2 := bK_inc h (hr.2 (one_of hr.1 c))
    refine ih _ h2.1 ?_ ?_
    · rw [h2.2, st_ne (by decide)]; omega
    · rw [h2.2]; omega
theorem tk52 {z T : Tr} (hw : wK z) (h : bK z T) : D (fJ_X8_token_J52 T) (tP z) := by
  unfold fJ_X8_token_J52
  refine D_lt (fun y ey => ?_)
  have h1 := bK_10 h (T 0 7)
  have e10 : y 0 10 = y 0 7 := by rw [ey, st_same, st_ne (by decide)]
  rw [← ey] at h1
  have b := b_67 h1.1
  refine D_ite (fun c => ?_) (fun c => ?_)
  · have h2 := bK_8 h1 (v := 0) (by decide) (by decide)
    refine D_some ⟨h2.1, h2.2.1, h2.2.2, ?_, ?_, ?_⟩
    · rw [st_same]; intro hz; exact absurd hz (by decide)
    · rw [st_same]; intro hz; exact absurd hz (by decide)
    · rw [st_same]; intro hz; exact absurd hz (by decide)
  · have h7 : (y 0 7).toInt < (y 0 6).toInt := by
      have : ¬ (y 0 7).toInt = (y 0 6).toInt := fun hz => c (Int32.toInt_inj.mp hz)
      have := h1.2.2
      omega
    refine D_bd (t_X8_isSmall y (y 0 7) h1.1 b.2) (fun r _ hr => D_ite (fun c => ?_) (fun c => ?_))
    · refine D_bd (t2_isDigit y (y 0 7) h1.1 b.2) (fun r _ hr => D_ite (fun c => ?_) (fun c => ?_))
      · refine D_bd (D_and (t_X8_signToken y h1.1 h7) (t2_signToken y h1.1 h7)) (fun q _ hq => ?_)
        refine D_some ⟨hq.1.1, aK_tr h1.2.1 hq.1.2.1, hq.1.2.2.1, ?_, ?_, hq.2⟩
        · have := hq.1.2.2.2; omega
        · have := hq.1.2.2.2; omega
      · have h2 := bK_9 (bK_8 h1 (v := 3) (by decide) (by decide)) 0
        refine tk213 2000 _ h2 ?_ ?_ ?_
        · rw [st_ne (by decide), st_same]
        · rw [st_same]; decide
        · rw [st_ne (by decide), st_ne (by decide)]; omega
    · exact tk90 hw 2000 y h1 (by rw [e10]; omega) (by omega)
theorem tk0 {z : Tr} (hw : wK z) (N : Nat) : ∀ T : Tr, bK z T → 800 - (T 0 7).toInt < (N : Int) → D (lpF (fun _ => none) fB_X8_token_L0 N T) (tP z) := by
  induction N with
  | zero => intro T h hn; have := b_67 h.1; omega
  | succ N ih =>
    intro T h hn
    show D (fB_X8_token_L0 (lpF (fun _ => none) fB_X8_token_L0 N) T) _
    generalize lpF (fun _ => none) fB_X8_token_L0 N = k at ih ⊢
    unfold fB_X8_token_L0
    have b := b_67 h.1
    refine D_ite (fun _ => tk52 hw h) (fun c => ?_)
    have h7 := tq_len (x := T 0 6) (y := T 0 7) rfl rfl c
    have h2 := bK_inc h h7
    have hJ : D (fJ_X8_token_J39 k T) (tP z) := ih _ h2.1 (by rw [h2.2]; omega)
    exact D_ck (okI_of (by omega) (by omega)) (D_ite (fun _ => hJ) (fun _ => D_ite (fun _ => hJ) (fun _ => tk52 hw h)))
theorem t_X8_token (S : Tr) (hS : iR BM S) (hw : wK S) (h7 : (S 0 7).toInt ≤ (S 0 6).toInt) : D (f_X8_token S) (fun q => iR BM q ∧ aK S q ∧ kP q) := by
  have b := b_67 hS
  exact tk0 hw 2000 S ⟨hS, aK_rfl, h7⟩ (by omega)
