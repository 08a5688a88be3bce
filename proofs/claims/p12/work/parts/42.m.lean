/-! stops go by -/
theorem R_go (S : Tr) (L : Lo) (x1 : Int32) (h : jR S) : D (f_X8_go S L x1) (fun q => jR q.2.1 ∧ aW S q.2.1) := by
  have g1 := jR_thr (v := 0) h
  unfold f_X8_go
  refine D_lt (fun S1 e1 => ?_)
  rw [← e1] at g1
  have a1 : aW S S1 := by rw [e1]; exact aW_T thr_T
  have b62 : (0 : Int) ≤ (S1 62 0).toInt ∧ (S1 62 0).toInt ≤ 21 := g1.1 62 0
  refine D_bd (t_X8_isIn x1 0 21) (fun r _ hr => ?_)
  refine D_ite (fun c => D_some ⟨g1, a1⟩) (fun c => ?_)
  have k := tq_eqn (b := 0) rfl (by decide) c
  obtain ⟨p1, p2⟩ := hr
  have l0 : (0 : Int32).toInt = 0 := by decide
  have l21 : (21 : Int32).toInt = 21 := by decide
  have f1 : (S1 62 0 + x1).toInt = (S1 62 0).toInt + x1.toInt := i_addK rfl rfl (by omega) (by omega)
  refine D_ite (fun c2 => ?_) (fun c2 => D_some ⟨g1, a1⟩)
  have k2 := tq_le (b := 21) rfl (by decide) c2
  refine D_bd (t_X8_plainTried S1 g1.1) (fun S7 _ q7 => ?_)
  obtain ⟨B7, t7⟩ := q7
  refine D_lt (fun S10 e10 => ?_)
  have t10 : aT S1 S10 := by rw [e10]; exact aT_set t7 rfl
  have B10 : iR BM S10 := by rw [e10]; exact iR_set B7 (show (0 : Int) ≤ _ by decide) (show _ ≤ (1 : Int) by decide)
  have g10 : jR S10 := jR_T g1 B10 t10
  have e62 : S10 62 0 = S1 62 0 := t10 62 0 rfl
  unfold fL_X8_go_L41
  have go : ∀ (n : Nat) (x2 : Int32) (T : Tr) (L : Lo), 0 ≤ x2.toInt → x2.toInt ≤ x1.toInt → iR BM T → pI T → gI 0 T → vI T → zI T → (x2.toInt = 0 → uI T) → aW S10 T → (T 62 0).toInt = (S1 62 0).toInt + x2.toInt → 100 - x2.toInt < (n : Int) → D (lpF (fun _ _ _ => none) (fB_X8_go_L41 x1) n x2 T L) (fun q => jR q.2.1 ∧ aW S q.2.1) := by
    intro n
    induction n with
    | zero => intro x2 T L a1 a2 a3 a4 a5 a6 a7 a8 a9 a10 a11; exfalso; omega
    | succ n ih =>
      intro x2 T L c1 c2 c3 c4 c5 c6 c7 c8 c9 c10 c11
      show D (fB_X8_go_L41 x1 (lpF (fun _ _ _ => none) (fB_X8_go_L41 x1) n) x2 T L) _
      generalize lpF (fun _ _ _ => none) (fB_X8_go_L41 x1) n = kk at ih ⊢
      unfold fB_X8_go_L41
      refine D_ite (fun c => ?_) (fun c => ?_)
      · have k3 := tq_le rfl rfl c
        unfold fJ_X8_go_J57
        refine D_lt (fun S12 e12 => ?_)
        have t12 : aT T S12 := by rw [e12]; exact aT_set aT_rfl rfl
        have B12 : iR BM S12 := by rw [e12]; exact iR_set c3 (show (0 : Int) ≤ _ by decide) (show _ ≤ (1 : Int) by decide)
        have fin : ∀ v : Int32, 0 ≤ v.toInt → v.toInt ≤ 20 → (v.toInt = 0 ∨ (x2.toInt = 0 ∧ v = S12 0 82)) → D (fJ_X8_go_J75 v S12 L) (fun q => jR q.2.1 ∧ aW S q.2.1) := fun v v1 v2 v3 => by
          unfold fJ_X8_go_J75
          refine D_lt (fun S14 e14 => ?_)
          have o : ∀ a j, ¬ (a = 0 ∧ j = 82) → S14 a j = S12 a j := fun a j z => by
            rw [e14]
            rcases st_or (S := S12) (a := 0) (i := 82) (b := a) (j := j) (v := v) with w | w
            · exact w
            · exact absurd w z
          have ot : ∀ a j, ¬ (a = 0 ∧ j = 82) → Wt a j = false → S14 a j = T a j := fun a j z hw => (o a j z).trans (t12 a j hw)
          have aw : aW T S14 := by rw [e14]; exact aW_set (aW_T t12) rfl
          refine D_some (show jR S14 ∧ aW S S14 from ⟨⟨by rw [e14]; exact iR_set B12 v1 v2, pI_aW c4 aw, gI_fr c5 (fun j => ot 53 j (by omega) rfl) (fun j => ot 54 j (by omega) rfl) (fun j => ot 55 j (by omega) rfl) (fun j => ot 56 j (by omega) rfl) (fun j => ot 58 j (by omega) rfl) (ot 0 13 (by omega) rfl) (ot 0 14 (by omega) rfl), ?_, vI_fr c3 c6 (fun j => ot 86 j (by omega) rfl) (fun j => ot 87 j (by omega) rfl) (ot 0 84 (by omega) rfl) (ot 0 13 (by omega) rfl) (ot 0 14 (by omega) rfl), zI_fr c7 (fun j => ot 81 j (by omega) rfl)⟩, aW_tr a1 (aW_tr (aW_T t10) (aW_tr c9 aw))⟩)
          rcases v3 with q | ⟨q1, q2⟩
          · intro r hr
            rw [e14, st_same, q] at hr
            exact absurd hr (by omega)
          · refine uI_fr c3 (c8 q1) (fun j => ot 84 j (by omega) rfl) (fun j _ => ot 53 j (by omega) rfl) (Int.le_of_eq ?_) (ot 0 13 (by omega) rfl) (ot 0 14 (by omega) rfl)
            rw [e14, st_same, q2, t12 0 82 rfl]
        have b82 : (0 : Int) ≤ (S12 0 82).toInt ∧ (S12 0 82).toInt ≤ 20 := B12 0 82
        refine D_ite (fun c4' => ?_) (fun c4' => ?_)
        · have k4 := tq_le (b := 0) rfl (by decide) c4'
          exact fin _ b82.1 b82.2 (Or.inr ⟨by omega, rfl⟩)
        · exact fin 0 (by decide) (by decide) (Or.inl (by decide))
      · have k3 := tq_len rfl rfl c
        refine D_bd2 (t_X8_goOn T L 0 c3 c4 c5 (by decide) (show (T 62 0).toInt ≤ 20 by omega)) (fun S15 L16 _ q15 => ?_)
        refine D_lte (y := S15) rfl ?_
        refine D_lte (y := L16) rfl ?_
        obtain ⟨d1, d2, d3, d4, d5⟩ := q15
        have d2 : aG 0 T S15 := d2
        have d5 : (S15 62 0).toInt = (T 62 0).toInt + 1 := d5
        have f2 : (x2 + 1).toInt = x2.toInt + 1 := i_addK rfl (by decide) (by omega) (by omega)
        refine D_lt (fun y ey => ?_)
        exact ih y S15 L16 (by rw [ey]; omega) (by rw [ey]; omega) d1 d3 d4 (vI_fr c3 c6 (fun j => d2 86 j rfl) (fun j => d2 87 j rfl) (d2 0 84 rfl) (d2 0 13 rfl) (d2 0 14 rfl)) (zI_fr c7 (fun j => d2 81 j rfl)) (fun q => by rw [ey] at q; omega) (aW_tr c9 (aW_0 d2)) (by rw [ey]; omega) (by rw [ey]; omega)
  obtain ⟨h1, h2, h3, h4, h5, h6⟩ := g10
  exact go 2000 0 S10 L (by decide) (by show (0 : Int) ≤ _; omega) h1 h2 h3 h5 h6 (fun _ => h4) aW_rfl (by rw [e62]; show _ = _ + (0 : Int); omega) (by decide)
