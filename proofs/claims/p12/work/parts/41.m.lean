/-! all is as in the image -/
theorem R_back (S : Tr) (L : Lo) (h : jR S) : D (f_X8_back S L) (fun q => jR q.2.1 ∧ aW S q.2.1) := by
  have g1 := jR_thr (v := 0) h
  unfold f_X8_back
  refine D_lt (fun S1 e1 => ?_)
  rw [← e1] at g1
  have a1 : aW S S1 := by rw [e1]; exact aW_T thr_T
  obtain ⟨h1, h2, h3, h4, h5, h6⟩ := g1
  refine D_ite (fun c => D_some ⟨⟨h1, h2, h3, h4, h5, h6⟩, a1⟩) (fun c => ?_)
  refine D_bd (t_X8_take_86 S1 0 (fun i => S1 87 i) h1 (by decide) (by decide) (h5 c)) (fun S3 _ q3 => ?_)
  obtain ⟨B3, gs, gl, ga, o3, ag⟩ := q3
  have lp2 : ∀ (n : Nat) (x1 : Int32) (T : Tr), 0 ≤ x1.toInt → x1.toInt ≤ 6 → iR BM T → (∀ a j, a ≠ 53 → a ≠ 59 → a ≠ 60 → T a j = S3 a j) → (∀ j, j < 10 → T 53 j = S1 87 j) → (∀ j, 10 ≤ j → T 53 j = S3 53 j) → (∀ a j, 6 ≤ j → a = 59 ∨ a = 60 → T a j = S3 a j) → 100 - x1.toInt < (n : Int) → D (lpF (fun _ _ => none) (fB_X8_back_L51 L) n x1 T) (fun q => jR q.2.1 ∧ aW S q.2.1) := by
    intro n
    induction n with
    | zero => intro x1 T a1 a2 a3 a4 a5 a6 a7 a8; exfalso; omega
    | succ n ih =>
      intro x1 T c1 c2 c3 c4 c5 c6 c7 c8
      show D (fB_X8_back_L51 L (lpF (fun _ _ => none) (fB_X8_back_L51 L) n) x1 T) _
      generalize lpF (fun _ _ => none) (fB_X8_back_L51 L) n = kk at ih ⊢
      unfold fB_X8_back_L51
      refine D_ite (fun c => ?_) (fun c => ?_)
      · unfold fJ_X8_back_J90
        refine D_lt (fun S8 e8 => ?_)
        refine D_lt (fun S9 e9 => ?_)
        refine D_lt (fun L1 _ => ?_)
        refine D_lt (fun S11 e11 => ?_)
        have B8 : iR BM S8 := by rw [e8]; exact iR_setU c3 rfl
        have b89 : (0 : Int) ≤ (S8 0 89).toInt ∧ (S8 0 89).toInt ≤ 21 := B8 0 89
        have B9 : iR BM S9 := by rw [e9]; exact iR_set B8 b89.1 b89.2
        have B11 : iR BM S11 := by rw [e11]; exact iR_set B9 (show (0 : Int) ≤ _ by decide) (show _ ≤ (20 : Int) by decide)
        have o11 : ∀ a j, a ≠ 61 → a ≠ 62 → ¬ (a = 0 ∧ j = 82) → S11 a j = T a j := fun a j z1 z2 z3 => by
          rw [e11]
          rcases st_or (S := S9) (a := 0) (i := 82) (b := a) (j := j) (v := 0) with w | w
          · rw [w, e9, st_oth z2, e8, st_oth z1]
          · exact absurd w z3
        have o : ∀ a j, a ≠ 53 → a ≠ 59 → a ≠ 60 → a ≠ 61 → a ≠ 62 → ¬ (a = 0 ∧ j = 82) → S11 a j = S3 a j := fun a j z1 z2 z3 z4 z5 z6 => by rw [o11 a j z4 z5 z6]; exact c4 a j z1 z2 z3
        have aw : aW S1 S11 := fun a j hf => by
          obtain ⟨w1, -, w3, w4, w5, w6, w7, w8⟩ := Wg_f hf
          have n61 : ¬ (a = 61 ∧ j = 0) := fun z => by rw [z.1, z.2] at w1; exact absurd w1 (by decide)
          have n62 : ¬ (a = 62 ∧ j = 0) := fun z => by rw [z.1, z.2] at w1; exact absurd w1 (by decide)
          have e1' : S11 a j = T a j := by
            rw [e11]
            rcases st_or (S := S9) (a := 0) (i := 82) (b := a) (j := j) (v := 0) with w | w
            · rw [w, e9]
              rcases st_or (S := S8) (a := 62) (i := 0) (b := a) (j := j) (v := S8 0 89) with w | w
              · rw [w, e8]
                rcases st_or (S := T) (a := 61) (i := 0) (b := a) (j := j) (v := T 0 88) with w | w
                · exact w
                · exact absurd w n61
              · exact absurd w n62
            · exact absurd ⟨w.1, Or.inr (Or.inr (Or.inl w.2))⟩ w8
          rw [e1', ← ag a j w1]
          have n53 := (Wb_f w1).1
          by_cases q : a = 53
          · subst q; exact c6 j (by have := n53 rfl; omega)
          · by_cases q2 : a = 59 ∨ a = 60
            · refine c7 a j ?_ q2
              by_cases q3 : 6 ≤ j
              · exact q3
              · exfalso
                rcases q2 with e | e <;> subst e
                · rw [Wb_59 (inB_of (by omega) (by omega))] at w1; cases w1
                · rw [Wb_60 (inB_of (by omega) (by omega))] at w1; cases w1
            · exact c4 a j q (by omega) (by omega)
        have e13 : S11 0 13 = S1 0 13 := aw 0 13 rfl
        have e14 : S11 0 14 = S1 0 14 := aw 0 14 rfl
        refine D_some (show jR S11 ∧ aW S S11 from ⟨⟨B11, pI_aW h2 aw, ⟨gS_fr gs (fun j => o 54 j (by decide) (by decide) (by decide) (by decide) (by decide) (by omega)) (fun j => o 55 j (by decide) (by decide) (by decide) (by decide) (by decide) (by omega)) (fun j => o 56 j (by decide) (by decide) (by decide) (by decide) (by decide) (by omega)) (o 0 14 (by decide) (by decide) (by decide) (by decide) (by decide) (by omega)), fun i hi => ?_, fun p hp hq => ?_⟩, fun r hr => ?_, ?_, zI_fr h6 (fun j => ?_)⟩, aW_tr a1 aw⟩)
        · have el : lyM S11 0 i = lyM S3 0 i := by unfold lyM; rw [o 54 _ (by decide) (by decide) (by decide) (by decide) (by decide) (by omega)]
          rw [el, show 10 * 0 + i = i by omega, o11 53 i (by decide) (by decide) (by omega), c5 i hi]
          exact gl i hi
        · rw [o 0 13 (by decide) (by decide) (by decide) (by decide) (by decide) (by omega)] at hq
          rw [o 58 _ (by decide) (by decide) (by decide) (by decide) (by decide) (by omega)]
          exact ga p hp hq
        · rw [e11, st_same] at hr; exact absurd hr (by show ¬ (r : Int) < 0; omega)
        · refine vI_fr h1 h5 (fun j => ?_) (fun j => ?_) ?_ e13 e14
          · rw [o 86 j (by decide) (by decide) (by decide) (by decide) (by decide) (by omega), o3 86 j (by decide) (by decide) (by decide) (by decide)]
          · rw [o 87 j (by decide) (by decide) (by decide) (by decide) (by decide) (by omega), o3 87 j (by decide) (by decide) (by decide) (by decide)]
          · rw [o 0 84 (by decide) (by decide) (by decide) (by decide) (by decide) (by omega), o3 0 84 (by decide) (by decide) (by decide) (by decide)]
        · rw [o 81 j (by decide) (by decide) (by decide) (by decide) (by decide) (by omega), o3 81 j (by decide) (by decide) (by decide) (by decide)]
      · have k := tq_len (a := 6) (by decide) rfl c
        have f6 : ((6 : Int32) + x1).toInt = 6 + x1.toInt := i_addK (by decide) rfl (by omega) (by omega)
        have cx : x1.toNatClampNeg = x1.toInt.toNat := rfl
        refine D_ck (okI_of (by omega) (by omega)) ?_
        refine D_lt (fun S13 e13 => ?_)
        refine D_ck (okI_of (by omega) (by omega)) ?_
        refine D_lt (fun S15 e15 => ?_)
        refine D_lt (fun y ey => ?_)
        have h1' : (x1 + 1).toInt = x1.toInt + 1 := i_addK rfl (by decide) (by omega) (by omega)
        refine ih y S15 (by rw [ey]; omega) (by rw [ey]; omega) (by rw [e15, e13]; exact iR_setU (iR_setU c3 rfl) rfl) (fun a j z1 z2 z3 => by rw [e15, st_oth z3, e13, st_oth z2]; exact c4 a j z1 z2 z3) (fun j hj => by rw [e15, st_oth (by decide), e13, st_oth (by decide)]; exact c5 j hj) (fun j hj => by rw [e15, st_oth (by decide), e13, st_oth (by decide)]; exact c6 j hj) (fun a j hj z => ?_) (by rw [ey]; omega)
        rcases z with e | e <;> subst e
        · rw [e15, st_oth (by decide), e13, st_ne (by omega)]; exact c7 59 j hj (Or.inl rfl)
        · rw [e15, st_ne (by omega), e13, st_oth (by decide)]; exact c7 60 j hj (Or.inr rfl)
  have lp1 : ∀ (n : Nat) (x1 : Int32) (T : Tr), 0 ≤ x1.toInt → x1.toInt ≤ 10 → iR BM T → (∀ a j, a ≠ 53 → T a j = S3 a j) → (∀ j : Nat, (j : Int) < x1.toInt → T 53 j = S1 87 j) → (∀ j, 10 ≤ j → T 53 j = S3 53 j) → 100 - x1.toInt < (n : Int) → D (lpF (fun _ _ => none) (fB_X8_back_L25 L) n x1 T) (fun q => jR q.2.1 ∧ aW S q.2.1) := by
    intro n
    induction n with
    | zero => intro x1 T a1 a2 a3 a4 a5 a6 a7; exfalso; omega
    | succ n ih =>
      intro x1 T c1 c2 c3 c4 c5 c6 c7
      show D (fB_X8_back_L25 L (lpF (fun _ _ => none) (fB_X8_back_L25 L) n) x1 T) _
      generalize lpF (fun _ _ => none) (fB_X8_back_L25 L) n = kk at ih ⊢
      unfold fB_X8_back_L25
      refine D_ite (fun c => ?_) (fun c => ?_)
      · have k := tq_le (a := 10) (by decide) rfl c
        exact lp2 2000 0 T (by decide) (by decide) c3 (fun a j z _ _ => c4 a j z) (fun j hj => c5 j (by omega)) c6 (fun a j _ z => c4 a j (by omega)) (by decide)
      · have k := tq_len (a := 10) (by decide) rfl c
        have cx : x1.toNatClampNeg = x1.toInt.toNat := rfl
        refine D_ck (okI_of (by omega) (by omega)) ?_
        refine D_ck (okI_of (by omega) (by omega)) ?_
        refine D_lt (fun S19 e19 => ?_)
        refine D_lt (fun y ey => ?_)
        have h1' : (x1 + 1).toInt = x1.toInt + 1 := i_addK rfl (by decide) (by omega) (by omega)
        have b87 : (0 : Int) ≤ (T 87 x1.toNatClampNeg).toInt ∧ (T 87 x1.toNatClampNeg).toInt ≤ 5 := c3 87 _
        refine ih y S19 (by rw [ey]; omega) (by rw [ey]; omega) (by rw [e19]; exact iR_set c3 b87.1 b87.2) (fun a j z => by rw [e19, st_oth z]; exact c4 a j z) (fun j hj => ?_) (fun j hj => by rw [e19, st_ne (by omega)]; exact c6 j hj) (by rw [ey]; omega)
        rw [e19]
        by_cases q : j = x1.toNatClampNeg
        · rw [q, st_same, c4 87 _ (by decide), o3 87 _ (by decide) (by decide) (by decide) (by decide)]
        · rw [st_ne q]
          rw [ey, h1'] at hj
          exact c5 j (by omega)
  exact lp1 2000 0 S3 (by decide) (by decide) B3 (fun _ _ _ => rfl) (fun j hj => absurd hj (by show ¬ (j : Int) < 0; omega)) (fun _ _ => rfl) (by decide)
