theorem R_see (S : Tr) (x1 x2 x3 x4 : Int32) (h : jR S) : D (f_X8_see S x1 x2 x3 x4) (fun q => jR q.2 ∧ aW S q.2) := by
  have g1 := jR_thr (v := 0) h
  unfold f_X8_see
  refine D_lt (fun S1 e1 => ?_)
  rw [← e1] at g1
  have a1 : aW S S1 := by rw [e1]; exact aW_T thr_T
  have b : (0 : Int) ≤ (S1 0 78).toInt ∧ (S1 0 78).toInt ≤ 24 := g1.1 0 78
  have b14 : (0 : Int) ≤ (S1 0 14).toInt ∧ (S1 0 14).toInt ≤ 10 := g1.1 0 14
  refine D_ite (fun c => D_some ⟨g1, a1⟩) (fun c => ?_)
  have k := tq_eqn (b := 24) rfl (by decide) c
  refine D_bd (t_X8_isIn x1 0 19) (fun r3 _ hr3 => ?_)
  refine D_ite (fun c => D_some ⟨g1, a1⟩) (fun c3 => ?_)
  refine D_bd (t_X8_isPiece S1 x2 g1.1) (fun r7 _ hr7 => ?_)
  refine D_ite (fun c => D_some ⟨g1, a1⟩) (fun c7 => ?_)
  have k7 := tq_eqn (b := 0) rfl (by decide) c7
  refine D_bd (t_X8_isPlace S1 x3 g1.1) (fun r11 _ hr11 => ?_)
  refine D_ite (fun c => D_some ⟨g1, a1⟩) (fun c11 => ?_)
  obtain ⟨p1, p2⟩ := hr7
  have go : ∀ v : Int32, D (fJ_X8_see_J58 v x3 x2 x1 S1) (fun q => jR q.2 ∧ aW S q.2) := fun v => by
    unfold fJ_X8_see_J58
    refine D_bd2 (R_noted S1 x1 x2 x3 v g1 (by omega) ⟨by omega, by omega⟩ (fun _ => by omega)) (fun r S6 _ q6 => ?_)
    refine D_lte (y := r) rfl ?_
    refine D_lte (y := S6) rfl ?_
    exact D_some ⟨q6.1, aW_tr a1 q6.2⟩
  exact D_ite (fun _ => go 0) (fun _ => go 1)
theorem R_known (S : Tr) (x1 : Int32) (h : jR S) : D (f_X8_known S x1) (fun q => jR q.2 ∧ aW S q.2) := by
  have g1 := jR_thr (v := 0) h
  unfold f_X8_known
  refine D_lt (fun S1 e1 => ?_)
  rw [← e1] at g1
  have a1 : aW S S1 := by rw [e1]; exact aW_T thr_T
  have b : (0 : Int) ≤ (S1 0 78).toInt ∧ (S1 0 78).toInt ≤ 24 := g1.1 0 78
  refine D_bd (t_X8_isIn x1 (-1) (S1 0 78)) (fun r _ hr => ?_)
  refine D_ite (fun c => D_some ⟨g1, a1⟩) (fun c => ?_)
  have k := tq_eqn (b := 0) rfl (by decide) c
  obtain ⟨p1, p2⟩ := hr
  have lm : ((-1) : Int32).toInt = -1 := by decide
  refine D_lt (fun S6 e6 => ?_)
  obtain ⟨h1, h2, h3, h4, h5, h6⟩ := g1
  have o : ∀ a j, ¬ (a = 0 ∧ j = 79) → S6 a j = S1 a j := fun a j z => by
    rw [e6]
    rcases st_or (S := S1) (a := 0) (i := 79) (b := a) (j := j) (v := x1) with w | w
    · exact w
    · exact absurd w z
  have aw : aW S1 S6 := by rw [e6]; exact aW_set aW_rfl rfl
  exact D_some (show jR S6 ∧ aW S S6 from ⟨⟨by rw [e6]; exact iR_set h1 (show (-1 : Int) ≤ _ by omega) (show _ ≤ (24 : Int) by omega), pI_aW h2 aw, gI_fr h3 (fun j => o 53 j (by omega)) (fun j => o 54 j (by omega)) (fun j => o 55 j (by omega)) (fun j => o 56 j (by omega)) (fun j => o 58 j (by omega)) (o 0 13 (by omega)) (o 0 14 (by omega)), uI_fr h1 h4 (fun j => o 84 j (by omega)) (fun j _ => o 53 j (by omega)) (Int.le_of_eq (by rw [o 0 82 (by omega)])) (o 0 13 (by omega)) (o 0 14 (by omega)), vI_fr h1 h5 (fun j => o 86 j (by omega)) (fun j => o 87 j (by omega)) (o 0 84 (by omega)) (o 0 13 (by omega)) (o 0 14 (by omega)), zI_fr h6 (fun j => o 81 j (by omega))⟩, aW_tr a1 aw⟩)
/-! an image is kept -/
theorem R_keep (S : Tr) (L : Lo) (h : jR S) : D (f_X8_keep S L) (fun q => jR q.2.1 ∧ aW S q.2.1) := by
  have g1 := jR_thr (v := 0) h
  unfold f_X8_keep
  refine D_lt (fun S1 e1 => ?_)
  rw [← e1] at g1
  have a1 : aW S S1 := by rw [e1]; exact aW_T thr_T
  obtain ⟨h1, h2, h3, h4, h5, h6⟩ := g1
  refine D_lt (fun S2 e2 => ?_)
  refine D_bd (t_X8_put_86 S2 0 (by decide)) (fun S3 _ h3' => ?_)
  have h3' : S3 = putM S2 86 0 := h3'
  have o2 : ∀ a j, ¬ (a = 0 ∧ j = 84) → S2 a j = S1 a j := fun a j z => by
    rw [e2]
    rcases st_or (S := S1) (a := 0) (i := 84) (b := a) (j := j) (v := 1) with w | w
    · exact w
    · exact absurd w z
  have B2 : iR BM S2 := by rw [e2]; exact iR_setU h1 rfl
  have B3 : iR BM S3 := by rw [h3']; exact BM_put B2 (Or.inr rfl) (by decide)
  have o3 : ∀ a j, ¬ (a = 0 ∧ j = 84) → ¬ (a = 86 ∧ j < 61) → S3 a j = S1 a j := fun a j z1 z2 => by rw [h3', put_o (by omega), o2 a j z1]
  -- what holds while the rest is kept
  have fin : ∀ T : Tr, iR BM T → (∀ a j, ¬ (a = 0 ∧ (j = 84 ∨ j = 88 ∨ j = 89)) → a ≠ 87 → a ≠ 88 → ¬ (a = 86 ∧ j < 61) → T a j = S1 a j) → (∀ j, j < 61 → T 86 j = S3 86 j) → (∀ j, j < 10 → T 87 j = S1 53 j) → jR T ∧ aW S T := fun T B o r86 r87 => by
    have aw : aW S1 T := fun a j hf => by
      obtain ⟨-, -, w3, w4, w5, w6, w7, w8⟩ := Wg_f hf
      exact o a j (fun z => w8 ⟨z.1, by omega⟩) w5 w6 (fun z => w4 z.1)
    refine ⟨⟨B, pI_aW h2 aw, gI_fr h3 (fun j => o 53 j (by omega) (by omega) (by omega) (by omega)) (fun j => o 54 j (by omega) (by omega) (by omega) (by omega)) (fun j => o 55 j (by omega) (by omega) (by omega) (by omega)) (fun j => o 56 j (by omega) (by omega) (by omega) (by omega)) (fun j => o 58 j (by omega) (by omega) (by omega) (by omega)) (o 0 13 (by omega) (by omega) (by omega) (by omega)) (o 0 14 (by omega) (by omega) (by omega) (by omega)), uI_fr h1 h4 (fun j => o 84 j (by omega) (by omega) (by omega) (by omega)) (fun j _ => o 53 j (by omega) (by omega) (by omega) (by omega)) (Int.le_of_eq (by rw [o 0 82 (by omega) (by omega) (by omega) (by omega)])) (o 0 13 (by omega) (by omega) (by omega) (by omega)) (o 0 14 (by omega) (by omega) (by omega) (by omega)), fun _ => ?_, zI_fr h6 (fun j => o 81 j (by omega) (by omega) (by omega) (by omega))⟩, aW_tr a1 aw⟩
    refine row_put h1 h3 (fun j hj => ?_) (fun j hj => ?_) (fun j hj => ?_) (o 0 13 (by omega) (by omega) (by omega) (by omega)) (o 0 14 (by omega) (by omega) (by omega) (by omega)) (fun i hi => r87 i hi)
    · rw [r86 _ (by omega), h3', put_s hj, o2 _ _ (by omega)]
    · rw [r86 _ (by omega), h3', put_m (by decide) hj, o2 _ _ (by omega)]
    · rw [r86 _ (by omega), h3', put_a (by decide) hj, o2 _ _ (by omega)]
  have lp2 : ∀ (n : Nat) (x1 : Int32) (T : Tr), 0 ≤ x1.toInt → x1.toInt ≤ 6 → iR BM T → (∀ a j, a ≠ 87 → a ≠ 88 → T a j = S3 a j) → (∀ j, j < 10 → T 87 j = S1 53 j) → 100 - x1.toInt < (n : Int) → D (lpF (fun _ _ => none) (fB_X8_keep_L47 L) n x1 T) (fun q => jR q.2.1 ∧ aW S q.2.1) := by
    intro n
    induction n with
    | zero => intro x1 T a1 a2 a3 a4 a5 a6; exfalso; omega
    | succ n ih =>
      intro x1 T c1 c2 c3 c4 c5 c6
      show D (fB_X8_keep_L47 L (lpF (fun _ _ => none) (fB_X8_keep_L47 L) n) x1 T) _
      generalize lpF (fun _ _ => none) (fB_X8_keep_L47 L) n = kk at ih ⊢
      unfold fB_X8_keep_L47
      refine D_ite (fun c => ?_) (fun c => ?_)
      · unfold fJ_X8_keep_J86
        refine D_lt (fun S8 e8 => ?_)
        refine D_lt (fun S9 e9 => ?_)
        refine D_lt (fun L1 _ => ?_)
        have B8 : iR BM S8 := by rw [e8]; exact iR_setU c3 rfl
        have b62 : (0 : Int) ≤ (S8 62 0).toInt ∧ (S8 62 0).toInt ≤ 21 := B8 62 0
        have B9 : iR BM S9 := by rw [e9]; exact iR_set B8 b62.1 b62.2
        have o9 : ∀ a j, ¬ (a = 0 ∧ (j = 88 ∨ j = 89)) → S9 a j = T a j := fun a j z => by
          rw [e9]
          rcases st_or (S := S8) (a := 0) (i := 89) (b := a) (j := j) (v := S8 62 0) with w | w
          · rw [w, e8]
            rcases st_or (S := T) (a := 0) (i := 88) (b := a) (j := j) (v := T 61 0) with w | w
            · exact w
            · omega
          · omega
        exact D_some (fin S9 B9 (fun a j z1 z2 z3 z4 => by rw [o9 a j (by omega), c4 a j z2 z3, o3 a j (by omega) z4]) (fun j hj => by rw [o9 86 j (by omega), c4 86 j (by decide) (by decide)]) (fun j hj => by rw [o9 87 j (by omega), c5 j hj]))
      · have k := tq_len (a := 6) (by decide) rfl c
        have f6 : ((6 : Int32) + x1).toInt = 6 + x1.toInt := i_addK (by decide) rfl (by omega) (by omega)
        refine D_ck (okI_of (by omega) (by omega)) ?_
        refine D_lt (fun S12 e12 => ?_)
        refine D_ck (okI_of (by omega) (by omega)) ?_
        refine D_lt (fun S14 e14 => ?_)
        refine D_lt (fun y ey => ?_)
        have h1' : (x1 + 1).toInt = x1.toInt + 1 := i_addK rfl (by decide) (by omega) (by omega)
        refine ih y S14 (by rw [ey]; omega) (by rw [ey]; omega) (by rw [e14, e12]; exact iR_setU (iR_setU c3 rfl) rfl) (fun a j z1 z2 => by rw [e14, st_oth z2, e12, st_oth z2]; exact c4 a j z1 z2) (fun j hj => by rw [e14, st_oth (by decide), e12, st_oth (by decide)]; exact c5 j hj) (by rw [ey]; omega)
  have lp1 : ∀ (n : Nat) (x1 : Int32) (T : Tr), 0 ≤ x1.toInt → x1.toInt ≤ 10 → iR BM T → (∀ a j, a ≠ 87 → T a j = S3 a j) → (∀ j : Nat, (j : Int) < x1.toInt → T 87 j = S1 53 j) → 100 - x1.toInt < (n : Int) → D (lpF (fun _ _ => none) (fB_X8_keep_L21 L) n x1 T) (fun q => jR q.2.1 ∧ aW S q.2.1) := by
    intro n
    induction n with
    | zero => intro x1 T a1 a2 a3 a4 a5 a6; exfalso; omega
    | succ n ih =>
      intro x1 T c1 c2 c3 c4 c5 c6
      show D (fB_X8_keep_L21 L (lpF (fun _ _ => none) (fB_X8_keep_L21 L) n) x1 T) _
      generalize lpF (fun _ _ => none) (fB_X8_keep_L21 L) n = kk at ih ⊢
      unfold fB_X8_keep_L21
      refine D_ite (fun c => ?_) (fun c => ?_)
      · have k := tq_le (a := 10) (by decide) rfl c
        exact lp2 2000 0 T (by decide) (by decide) c3 (fun a j z _ => c4 a j z) (fun j hj => c5 j (by omega)) (by decide)
      · have k := tq_len (a := 10) (by decide) rfl c
        have cx : x1.toNatClampNeg = x1.toInt.toNat := rfl
        refine D_ck (okI_of (by omega) (by omega)) ?_
        refine D_ck (okI_of (by omega) (by omega)) ?_
        refine D_lt (fun S18 e18 => ?_)
        refine D_lt (fun y ey => ?_)
        have h1' : (x1 + 1).toInt = x1.toInt + 1 := i_addK rfl (by decide) (by omega) (by omega)
        have b53 := BM53 c3 x1.toNatClampNeg
        refine ih y S18 (by rw [ey]; omega) (by rw [ey]; omega) (by rw [e18]; exact iR_set c3 b53.1 b53.2) (fun a j z => by rw [e18, st_oth z]; exact c4 a j z) (fun j hj => ?_) (by rw [ey]; omega)
        rw [e18]
        by_cases q : j = x1.toNatClampNeg
        · rw [q, st_same, c4 53 _ (by decide), o3 53 _ (by omega) (by omega)]
        · rw [st_ne q]
          rw [ey, h1'] at hj
          exact c5 j (by omega)
  exact lp1 2000 0 S3 (by decide) (by decide) B3 (fun _ _ _ => rfl) (fun j hj => absurd hj (by show ¬ (j : Int) < 0; omega)) (by decide)
