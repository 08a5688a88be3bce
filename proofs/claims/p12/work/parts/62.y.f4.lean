theorem E2_any {α β γ : Type} {Q : α → β → Prop} {x : Option γ} {k : γ → Option α} {y : Option β} (h : ∀ a, E2 (k a) y Q) : E2 (bd x k) y Q := E2_bl (R := fun _ => True) (fun _ _ => trivial) (fun a _ => h a)
theorem e_piece {K R P T : Tr} (h : tkS K T) (hr : RD R P T) (h0 : R 0 1 = 0) : E2 (f_X3_readPiece K R P) (f_X8_pieceLine T) (lnQ K R T) := by
  unfold f_X3_readPiece f_X8_pieceLine
  obtain ⟨g1, g2, g3, g4, g5, g6⟩ := hr
  have hpe := g2
  have l1 := g1.1
  have l2 := g1.2.1
  obtain ⟨p1, p2, p3⟩ := g3
  refine E2_ltl (fun y ey => ?_)
  obtain ⟨n, hn⟩ : ∃ n : Nat, (T 0 18).toInt = n := ⟨(T 0 18).toInt.toNat, by omega⟩
  have hy : y.toInt = n := by rw [ey, p1]; exact hn
  by_cases c : n = 10
  · rw [if_pos (show T 0 18 = 10 from i_z (by rw [hn, c]; decide)), if_pos (show 10 ≤ y from Int32.le_iff_toInt_le.mpr (by rw [hy, c]; decide))]
    unfold fJ_X3_readPiece_J20
    rw [ex0, wrE]
    exact E2_p2l (E2_pl rfl (ln_fail h.2.2.2.1 (by decide) frK_r))
  · rw [if_neg (show ¬ T 0 18 = 10 from fun q => c (by rw [q] at hn; have : (10 : Int32).toInt = 10 := by decide
                                                       omega)), if_neg (show ¬ 10 ≤ y from fun q => by have := tq_le (a := 10) (by decide) hy q; omega)]
    unfold fJ_X3_readPiece_J20
    rw [ex1]
    refine E2_p2l (E2_ql (by decide) (E2_bd (e_advS h) (fun K2 T2 h2 => ?_)))
    obtain ⟨k2, k2f, t2f, k2p⟩ := h2
    have kk := k_name k2.2.2.2.2.1
    by_cases d1 : (T2 0 8).toInt = 2
    · rw [if_pos (show T2 0 8 = 2 from i_z (by rw [d1]; decide))]
      have nv := k2.2.2.2.2.2.1 d1
      have t218 : T2 0 18 = T 0 18 := t2f 0 18 (by omega)
      have hpe2 : rPe P T2 := rPe_of hpe (fun _ _ _ => rfl) (fun a j g => t2f a j (by omega))
      refine E2_bd (e_find hpe2 nv) (fun r r' hrr => ?_)
      obtain ⟨er, hrr⟩ := hrr
      subst er
      rw [if_pos (show K2 0 1 = 43 from i_z (by rw [kk.mpr d1]; decide))]
      unfold fJ_X3_readPiece_J69
      rw [ex1]
      refine E2_p2l (E2_ql (by decide) ?_)
      unfold fJ_X3_readPiece_J86
      rcases hrr with hm | hm
      · rw [if_neg (n_le hm), if_pos (show r < 0 from Int32.lt_iff_toInt_lt.mpr (by rw [hm]; decide)), ex0, wrE]
        exact E2_p2l (E2_pl rfl (ln_fail k2.2.2.2.1 (by decide) k2f))
      · rw [if_pos (show (0 : Int32) ≤ r from Int32.le_iff_toInt_le.mpr (by show (0 : Int) ≤ _; exact hm.1)), if_neg (show ¬ r < 0 from fun q => by have := tq_lt (b := 0) rfl (by decide) q; omega), ex1]
        refine E2_p2l (E2_ql (by decide) (E2_ltr (fun y10 ey10 => E2_ckr (fun _ => E2_ltr (fun T3 f3 => ?_)))))
        have i6 : y10.toInt = 10 + n := by rw [ey10, t218]; exact i_addK (by decide) hn (by omega) (by omega)
        have c6 : y10.toNatClampNeg = 10 + n := i_cn (by omega)
        rw [c6] at f3 ⊢
        have k3 : tkS K2 T3 := by rw [f3]; exact tkS_st k2 (by omega)
        refine E2_bd (e_advS k3) (fun K4 T4 h4 => ?_)
        obtain ⟨k4, k4f, t4f, k4p⟩ := h4
        refine E2_bd (e_nq k4 (lo := 1) (hi := 99) (by decide) (by decide)) (fun q q' hq => ?_)
        obtain ⟨r1, K5, R5⟩ := q
        obtain ⟨r1', T5⟩ := q'
        refine E2_v3l (E2_v2r ?_)
        have k24 := frK_t k2f k4f
        rcases nq_cs hq (by decide : (1 : Int32).toInt = 1) (by decide : (99 : Int32).toInt = 99) with ⟨rfl, rfl, q3, q4⟩ | ⟨rfl, q2, q3, q4, q5, rfl, q7, q8, q9⟩
        · unfold fJ_X3_readPiece_J125
          exact E2_ql (by decide) (E2_pr rfl (E2_ql (by decide) (E2_some (Or.inl ⟨rfl, rfl, q3, frK_t k24 q4⟩))))
        · have k25 := frK_t k24 q7
          refine E2_pl (Int32.le_iff_toInt_le.mpr (by show (0 : Int) ≤ _; omega)) (E2_qr (by decide) (E2_ltr (fun T6 f6 => ?_)))
          have k6 : tkS K5 T6 := by rw [f6]; exact tkS_st q5 (by omega)
          refine E2_bd (e_nq k6 (lo := 0) (hi := 9) (by decide) (by decide)) (fun q q' hq => ?_)
          obtain ⟨r2, K7, R7⟩ := q
          obtain ⟨r2', T7⟩ := q'
          refine E2_v3l (E2_v2r ?_)
          unfold fJ_X3_readPiece_J125
          rcases nq_cs hq (by decide : (0 : Int32).toInt = 0) (by decide : (9 : Int32).toInt = 9) with ⟨rfl, rfl, s3, s4⟩ | ⟨rfl, s2, s3, s4, s5, rfl, s7, s8, s9⟩
          · exact E2_ql (by decide) (E2_pr rfl (E2_some (Or.inl ⟨rfl, rfl, s3, frK_t k25 s4⟩)))
          · have k27 := frK_t k25 s7
            refine E2_pl (Int32.le_iff_toInt_le.mpr (by show (0 : Int) ≤ _; omega)) (E2_qr (by decide) (E2_ltr (fun T8 f8 => E2_ltr (fun T9 f9 => ?_))))
            have k9 : tkS K7 T9 := by rw [f9, f8]; exact tkS_st (tkS_st s5 (by omega)) (by omega)
            have kn := k_num k9.2.2.2.2.1
            have fr9 : ∀ a j, ¬ ((a = 0 ∧ (4 ≤ j ∧ j ≤ 11)) ∨ (30 ≤ a ∧ a ≤ 33)) → T9 a j = T a j := fun a j hn => by
              rw [f9, st_no (by omega), f8, st_no (by omega), s8 a j (by omega), f6, st_no (by omega), q8 a j (by omega), t4f a j (by omega), f3, st_no (by omega), t2f a j (by omega)]
            have old9 : ∀ a j, (30 ≤ a ∧ a ≤ 33) → ¬ j = 10 + n → T9 a j = T a j := fun a j ha hj => by
              rw [f9, st_no (by omega), f8, st_no (by omega), s8 a j (by omega), f6, st_no (by omega), q8 a j (by omega), t4f a j (by omega), f3, st_no (by omega), t2f a j (by omega)]
            have v30 : T9 30 (10 + n) = r := by rw [f9, st_no (by omega), f8, st_no (by omega), s8 _ _ (by omega), f6, st_no (by omega), q8 _ _ (by omega), t4f _ _ (by omega), f3, st_same]
            have v31 : T9 31 (10 + n) = r1 := by rw [f9, st_no (by omega), f8, st_no (by omega), s8 _ _ (by omega), f6, st_same, q4]
            have v32 : T9 32 (10 + n) = r2 := by rw [f9, st_no (by omega), f8, st_same, s4]
            have v33 : T9 33 (10 + n) = -1 := by rw [f9, st_same]
            have pr9 : (T 0 7).toInt ≤ (T9 0 10).toInt ∧ (T 0 7).toInt ≤ (T9 0 7).toInt := by
              have x1 := tk_on k2
              have x2 := tk_on k4
              have x3 := tk_on q5
              have x4 := tk_on s5
              have y1 : T3 0 7 = T2 0 7 := by rw [f3, st_no (by omega)]
              have y2 : T6 0 7 = T5 0 7 := by rw [f6, st_no (by omega)]
              rw [y1] at k4p
              rw [y2] at s9
              rw [f9, st_no (by omega), f8, st_no (by omega), st_no (by omega), st_no (by omega)]
              omega
            have yn : y.toNatClampNeg = n := i_cn hy
            have fin : ∀ (KA TA : Tr) (x5 : Int32), tkS KA TA → frK K KA → (∀ a j, ¬ ((a = 0 ∧ (7 ≤ j ∧ j ≤ 10)) ∨ (a = 33 ∧ j = 10 + n)) → TA a j = T9 a j) → TA 33 (10 + n) = x5 → (T 0 7).toInt ≤ (TA 0 10).toInt → E2 (fJ_X3_readPiece_J192 y r r1 r2 x5 KA R7 P) (fJ_X8_pieceLine_J170 TA) (lnQ K R7 T) := by
              intro KA TA x5 kA kf tf v5 pA
              unfold fJ_X3_readPiece_J192 fJ_X8_pieceLine_J170
              refine E2_ckl (fun _ => E2_ltl (fun P1 e1 => E2_ltl (fun P2 e2 => E2_ltl (fun P3 e3 => E2_ltl (fun P4 e4 => E2_ltl (fun P5 e5 => E2_ltr (fun TB fB => E2_some ?_)))))))
              rw [yn] at e1 e2 e3 e4
              have frP : ∀ a j, ¬ ((a = 0 ∧ j = 2) ∨ (14 ≤ a ∧ a ≤ 17)) → P5 a j = P a j := fun a j hn => by
                rw [e5, st_no (by omega), e4, st_no (by omega), e3, st_no (by omega), e2, st_no (by omega), e1, st_no (by omega)]
              have oldP : ∀ a j, (14 ≤ a ∧ a ≤ 17) → ¬ j = n → P5 a j = P a j := fun a j ha hj => by
                rw [e5, st_no (by omega), e4, st_no (by omega), e3, st_no (by omega), e2, st_no (by omega), e1, st_no (by omega)]
              have fr : ∀ a j, ¬ ((a = 0 ∧ (4 ≤ j ∧ j ≤ 11 ∨ j = 18)) ∨ (30 ≤ a ∧ a ≤ 33)) → TB a j = T a j := fun a j hn => by
                rw [fB, st_no (by omega), tf a j (by omega), fr9 a j (by omega)]
              have old : ∀ a j, (30 ≤ a ∧ a ≤ 33) → ¬ j = 10 + n → TB a j = T a j := fun a j ha hj => by
                rw [fB, st_no (by omega), tf a j (by omega), old9 a j ha hj]
              have s18 : TB 0 18 = T 0 18 + 1 := by rw [fB, st_same, tf 0 18 (by omega), fr9 0 18 (by omega)]
              have s18i : (TB 0 18).toInt = n + 1 := by rw [s18]; exact i_addK hn (by decide) (by omega) (by omega)
              refine Or.inr ⟨rfl, rfl, ?_, ⟨?_, ?_, ⟨?_, ?_, fun i hi => ?_⟩, ?_, ?_, ?_⟩, h0, rfl, kf, ?_⟩
              · show tkS KA TB
                rw [fB]; exact tkS_st kA (by omega)
              · exact rPl_of g1 (fun a j g => frP a j (by omega)) (fun a j g => fr a j (by omega))
              · exact rPe_of g2 (fun a j g => frP a j (by omega)) (fun a j g => fr a j (by omega))
              · show P5 0 2 = TB 0 18
                rw [s18, e5, st_same, e4, st_no (by omega), e3, st_no (by omega), e2, st_no (by omega), e1, st_no (by omega), p1]
              · show 0 ≤ (TB 0 18).toInt ∧ (TB 0 18).toInt ≤ 10
                omega
              · have hi : (i : Int) < (TB 0 18).toInt := hi
                show P5 14 i = TB 30 (10 + i) ∧ P5 15 i = TB 31 (10 + i) ∧ P5 16 i = TB 32 (10 + i) ∧ P5 17 i = TB 33 (10 + i)
                by_cases e : i = n
                · subst e
                  refine ⟨?_, ?_, ?_, ?_⟩
                  · rw [e5, st_no (by omega), e4, st_no (by omega), e3, st_no (by omega), e2, st_no (by omega), e1, st_same, fB, st_no (by omega), tf _ _ (by omega), v30]
                  · rw [e5, st_no (by omega), e4, st_no (by omega), e3, st_no (by omega), e2, st_same, fB, st_no (by omega), tf _ _ (by omega), v31]
                  · rw [e5, st_no (by omega), e4, st_no (by omega), e3, st_same, fB, st_no (by omega), tf _ _ (by omega), v32]
                  · rw [e5, st_no (by omega), e4, st_same, fB, st_no (by omega), v5]
                · rw [oldP 14 i (by omega) e, oldP 15 i (by omega) e, oldP 16 i (by omega) e, oldP 17 i (by omega) e, old 30 _ (by omega) (by omega), old 31 _ (by omega) (by omega), old 32 _ (by omega) (by omega), old 33 _ (by omega) (by omega)]
                  exact p3 i (by omega)
              · exact rW_of g4 rfl (fun j => frP 18 j (by omega)) (fun a j g => fr a j (by omega))
              · exact rO_of g5 rfl (fun j _ _ => frP 0 j (by omega)) (fun a j g => fr a j (by omega))
              · exact rL_of g6 (fun a j g => frP a j (by omega)) (fun a j g => fr a j (by omega))
              · show (T 0 7).toInt ≤ (TB 0 10).toInt
                rw [fB, st_no (by omega)]; exact pA
            by_cases d3 : (T9 0 8).toInt = 3
            · rw [if_pos (show T9 0 8 = 3 from i_z (by rw [d3]; decide)), if_pos (show K7 0 1 = 42 from i_z (by rw [kn.mpr d3]; decide))]
              refine E2_ltl (fun y48 ey48 => ?_)
              have nr := k9.2.2.2.2.2.2.1 d3
              have t916 : T9 0 16 = T 0 16 := fr9 0 16 (by omega)
              rw [l1, t916]
              by_cases d4 : (T9 0 9).toInt < (T 0 16).toInt
              · have ev : y48 = T9 0 9 := by
                  rcases nr with ⟨z, _⟩ | ⟨_, _, z, _⟩
                  · rw [ey48]; exact z
                  · omega
                rw [if_pos (show T9 0 9 < T 0 16 from Int32.lt_iff_toInt_lt.mpr d4), if_neg (show ¬ T 0 16 ≤ y48 from fun q => by rw [ev] at q; have := tq_le rfl rfl q; omega)]
                unfold fJ_X3_readPiece_J176
                rw [ex1]
                refine E2_p2l (E2_ql (by decide) (E2_ltr (fun TC fC => ?_)))
                have kC : tkS K7 TC := by rw [fC]; exact tkS_st k9 (by omega)
                refine E2_bd (e_advS kC) (fun KA TA hA => ?_)
                refine fin KA TA y48 hA.1 (frK_t k27 hA.2.1) (fun a j hn => by rw [hA.2.2.1 a j (by omega), fC, st_no (by omega)]) (by rw [hA.2.2.1 _ _ (by omega), fC, st_same, ev]) ?_
                have z := hA.2.2.2
                rw [fC, st_no (by omega)] at z
                omega
              · have nl : T 0 16 ≤ y48 := Int32.le_iff_toInt_le.mpr (by
                  rw [ey48]
                  rcases nr with ⟨z, _⟩ | ⟨z, _⟩
                  · rw [z]; omega
                  · omega)
                rw [if_neg (show ¬ T9 0 9 < T 0 16 from fun q => d4 (tq_lt rfl rfl q)), if_pos nl]
                unfold fJ_X3_readPiece_J176
                rw [ex0, wrE]
                exact E2_p2l (E2_pl rfl (ln_fail k9.2.2.2.1 (by decide) k27))
            · rw [if_neg (show ¬ T9 0 8 = 3 from fun q => d3 (by rw [q]; decide)), if_neg (show ¬ K7 0 1 = 42 from fun q => d3 (kn.mp (by rw [q]; decide)))]
              exact fin K7 T9 (-1) k9 k27 (fun _ _ _ => rfl) v33 pr9.1
    · rw [if_neg (show ¬ T2 0 8 = 2 from fun q => d1 (by rw [q]; decide))]
      refine E2_any (fun r11 => ?_)
      rw [if_neg (show ¬ K2 0 1 = 43 from fun q => d1 (kk.mp (by rw [q]; decide)))]
      unfold fJ_X3_readPiece_J69
      rw [ex0, wrE]
      exact E2_p2l (E2_pl rfl (ln_fail k2.2.2.2.1 (by decide) k2f))
