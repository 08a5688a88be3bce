theorem nq_cs {K R T K1 R1 T1 : Tr} {lo hi r r' : Int32} {l u : Int} (hq : nqQ K R T lo hi (r, K1, R1) (r', T1)) (hl : lo.toInt = l) (hu : hi.toInt = u) : (r = -1 ∧ r' = 0 ∧ flt R1 T1 ∧ frK K K1) ∨ (r' = 1 ∧ l ≤ r.toInt ∧ r.toInt ≤ u ∧ T1 0 11 = r ∧ tkS K1 T1 ∧ R1 = R ∧ frK K K1 ∧ frR T T1 ∧ (T 0 7).toInt ≤ (T1 0 10).toInt) := by
  subst hl; subst hu; exact hq
theorem e_person {K R P T : Tr} (h : tkS K T) (hr : RD R P T) (h0 : R 0 1 = 0) : E2 (f_X3_readPerson K R P) (f_X8_personLine T) (lnQ K R T) := by
  unfold f_X3_readPerson f_X8_personLine
  obtain ⟨g1, g2, g3, g4, g5, g6⟩ := hr
  have hpe := g2
  obtain ⟨p1, p2, p3⟩ := g2
  refine E2_ltl (fun y ey => ?_)
  obtain ⟨n, hn⟩ : ∃ n : Nat, (T 0 17).toInt = n := ⟨(T 0 17).toInt.toNat, by omega⟩
  have hy : y.toInt = n := by rw [ey, p1]; exact hn
  by_cases c : n = 6
  · rw [if_pos (show T 0 17 = 6 from i_z (by rw [hn, c]; decide)), if_pos (show 6 ≤ y from Int32.le_iff_toInt_le.mpr (by rw [hy, c]; decide))]
    unfold fJ_X3_readPerson_J20
    rw [ex0, wrE]
    exact E2_p2l (E2_pl rfl (ln_fail h.2.2.2.1 (by decide) frK_r))
  · rw [if_neg (show ¬ T 0 17 = 6 from fun q => c (by rw [q] at hn; have : (6 : Int32).toInt = 6 := by decide
                                                      omega)), if_neg (show ¬ 6 ≤ y from fun q => by have := tq_le (a := 6) (by decide) hy q; omega)]
    unfold fJ_X3_readPerson_J20
    rw [ex1]
    refine E2_p2l (E2_ql (by decide) (E2_bd (e_advS h) (fun K2 T2 h2 => E2_ltl (fun x2 ex2 => ?_))))
    obtain ⟨k2, k2f, t2f, k2p⟩ := h2
    have kk := k_name k2.2.2.2.2.1
    by_cases d1 : (T2 0 8).toInt = 2
    · rw [if_pos (show T2 0 8 = 2 from i_z (by rw [d1]; decide)), if_pos (show K2 0 1 = 43 from i_z (by rw [kk.mpr d1]; decide))]
      unfold fJ_X3_readPerson_J62
      rw [ex1]
      have nv := k2.2.2.2.2.2.1 d1
      have t217 : T2 0 17 = T 0 17 := t2f 0 17 (by omega)
      have hpe2 : rPe P T2 := rPe_of hpe (fun _ _ _ => rfl) (fun a j g => t2f a j (by omega))
      refine E2_p2l (E2_ql (by decide) (E2_bd (e_find hpe2 (ex2.trans nv)) (fun r r' hrr => ?_)))
      obtain ⟨er, hrr⟩ := hrr
      subst er
      unfold fJ_X3_readPerson_J86
      rcases hrr with hm | hm
      · rw [if_neg (n_le hm), if_pos (show r < 0 from Int32.lt_iff_toInt_lt.mpr (by rw [hm]; decide)), ex1]
        refine E2_p2l (E2_ql (by decide) (E2_ltr (fun y10 ey10 => E2_ckr (fun _ => E2_ltr (fun T3 f3 => ?_)))))
        have i6 : y10.toInt = 6 + n := by rw [ey10, t217]; exact i_addK (by decide) hn (by omega) (by omega)
        have c6 : y10.toNatClampNeg = 6 + n := i_cn (by omega)
        rw [c6] at f3 ⊢
        have k3 : tkS K2 T3 := by rw [f3]; exact tkS_st k2 (by omega)
        refine E2_bd (e_advS k3) (fun K4 T4 h4 => ?_)
        obtain ⟨k4, k4f, t4f, k4p⟩ := h4
        refine E2_bd (e_nq k4 (lo := 0) (hi := 19) (by decide) (by decide)) (fun q q' hq => ?_)
        obtain ⟨r1, K5, R5⟩ := q
        obtain ⟨r1', T5⟩ := q'
        refine E2_v3l (E2_v2r ?_)
        have fail : ∀ (K' R' T' : Tr) (a b c : Int32), flt R' T' → frK K K' → E2 (fJ_X3_readPerson_J127 y a b (-1) K' R' P) (some ((0 : Int32), T')) (lnQ K R T) := fun K' R' T' a b c hf hk => by
          unfold fJ_X3_readPerson_J127 fJ_X3_readPerson_J145
          exact E2_ql (by decide) (E2_ql (by decide) (E2_some (Or.inl ⟨rfl, rfl, hf, hk⟩)))
        have k24 := frK_t k2f k4f
        rcases nq_cs hq (by decide : (0 : Int32).toInt = 0) (by decide : (19 : Int32).toInt = 19) with ⟨rfl, rfl, q3, q4⟩ | ⟨rfl, q2, q3, q4, q5, rfl, q7, q8, q9⟩
        · exact E2_ql (by decide) (E2_pr rfl (fail _ _ _ _ _ 0 q3 (frK_t k24 q4)))
        · have k25 := frK_t k24 q7
          have p11 : (r1 + 1).toInt = r1.toInt + 1 := i_addK rfl (by decide) (by omega) (by omega)
          refine E2_pl (Int32.le_iff_toInt_le.mpr (by show (0 : Int) ≤ _; exact q2)) (E2_qr (by decide) (E2_ltr (fun T6 f6 => ?_)))
          have k6 : tkS K5 T6 := by rw [f6]; exact tkS_st q5 (by omega)
          have v27 : T6 27 (6 + n) = r1 := by rw [f6, st_same, q4]
          rw [v27]
          refine E2_bd (e_nq k6 (lo := r1 + 1) (hi := 20) (by omega) (by decide)) (fun q q' hq => ?_)
          obtain ⟨r2, K7, R7⟩ := q
          obtain ⟨r2', T7⟩ := q'
          refine E2_v3l (E2_v2r ?_)
          rcases nq_cs hq p11 (by decide : (20 : Int32).toInt = 20) with ⟨rfl, rfl, s3, s4⟩ | ⟨rfl, s2, s3, s4, s5, rfl, s7, s8, s9⟩
          · exact E2_pr rfl (fail _ _ _ _ _ 0 s3 (frK_t k25 s4))
          · have k27 := frK_t k25 s7
            unfold fJ_X3_readPerson_J127
            refine E2_pl (Int32.le_iff_toInt_le.mpr (by show (0 : Int) ≤ _; omega)) (E2_qr (by decide) (E2_ltr (fun T8 f8 => ?_)))
            have k8 : tkS K7 T8 := by rw [f8]; exact tkS_st s5 (by omega)
            refine E2_bd (e_nq k8 (lo := 1) (hi := 99) (by decide) (by decide)) (fun q q' hq => ?_)
            obtain ⟨r3, K9, R9⟩ := q
            obtain ⟨r3', T9⟩ := q'
            refine E2_v3l (E2_v2r ?_)
            unfold fJ_X3_readPerson_J145
            rcases nq_cs hq (by decide : (1 : Int32).toInt = 1) (by decide : (99 : Int32).toInt = 99) with ⟨rfl, rfl, u3, u4⟩ | ⟨rfl, u2, u3, u4, u5, rfl, u7, u8, u9⟩
            · exact E2_ql (by decide) (E2_pr rfl (E2_some (Or.inl ⟨rfl, rfl, u3, frK_t k27 u4⟩)))
            · refine E2_pl (Int32.le_iff_toInt_le.mpr (by show (0 : Int) ≤ _; omega)) (E2_qr (by decide) (E2_ckl (fun _ => E2_ltl (fun P1 e1 => E2_ltl (fun P2 e2 => E2_ltl (fun P3 e3 => E2_ltl (fun P4 e4 => E2_ltl (fun P5 e5 => E2_ltr (fun TA fA => E2_ltr (fun TB fB => E2_some ?_))))))))))
              have yn : y.toNatClampNeg = n := i_cn hy
              rw [yn] at e1 e2 e3 e4
              have fr : ∀ a j, ¬ ((a = 0 ∧ (4 ≤ j ∧ j ≤ 11 ∨ j = 17)) ∨ (26 ≤ a ∧ a ≤ 29)) → TB a j = T a j := fun a j hn => by
                rw [fB, st_no (by omega), fA, st_no (by omega), u8 a j (by omega), f8, st_no (by omega), s8 a j (by omega), f6, st_no (by omega), q8 a j (by omega), t4f a j (by omega), f3, st_no (by omega), t2f a j (by omega)]
              have frP : ∀ a j, ¬ ((a = 0 ∧ j = 1) ∨ (10 ≤ a ∧ a ≤ 13)) → P5 a j = P a j := fun a j hn => by
                rw [e5, st_no (by omega), e4, st_no (by omega), e3, st_no (by omega), e2, st_no (by omega), e1, st_no (by omega)]
              have t917 : T9 0 17 = T 0 17 := by rw [u8 0 17 (by omega), f8, st_no (by omega), s8 0 17 (by omega), f6, st_no (by omega), q8 0 17 (by omega), t4f 0 17 (by omega), f3, st_no (by omega), t217]
              have s17 : TB 0 17 = T 0 17 + 1 := by rw [fB, st_same, fA, st_no (by omega), t917]
              have s17i : (TB 0 17).toInt = n + 1 := by rw [s17]; exact i_addK hn (by decide) (by omega) (by omega)
              have old : ∀ a j, (26 ≤ a ∧ a ≤ 29) → ¬ j = 6 + n → TB a j = T a j := fun a j ha hj => by
                rw [fB, st_no (by omega), fA, st_no (by omega), u8 a j (by omega), f8, st_no (by omega), s8 a j (by omega), f6, st_no (by omega), q8 a j (by omega), t4f a j (by omega), f3, st_no (by omega), t2f a j (by omega)]
              have oldP : ∀ a j, (10 ≤ a ∧ a ≤ 13) → ¬ j = n → P5 a j = P a j := fun a j ha hj => by
                rw [e5, st_no (by omega), e4, st_no (by omega), e3, st_no (by omega), e2, st_no (by omega), e1, st_no (by omega)]
              refine Or.inr ⟨rfl, rfl, ?_, ⟨?_, ⟨?_, ?_, fun i hi => ?_⟩, ?_, ?_, ?_, ?_⟩, h0, rfl, frK_t k27 u7, ?_⟩
              · show tkS K9 TB
                rw [fB, fA]; exact tkS_st (tkS_st u5 (by omega)) (by omega)
              · exact rPl_of g1 (fun a j g => frP a j (by omega)) (fun a j g => fr a j (by omega))
              · show P5 0 1 = TB 0 17
                rw [s17, e5, st_same, e4, st_no (by omega), e3, st_no (by omega), e2, st_no (by omega), e1, st_no (by omega), p1]
              · show 0 ≤ (TB 0 17).toInt ∧ (TB 0 17).toInt ≤ 6
                omega
              · have hi : (i : Int) < (TB 0 17).toInt := hi
                show P5 10 i = TB 26 (6 + i) ∧ P5 11 i = TB 27 (6 + i) ∧ P5 12 i = TB 28 (6 + i) ∧ P5 13 i = TB 29 (6 + i)
                by_cases e : i = n
                · subst e
                  refine ⟨?_, ?_, ?_, ?_⟩
                  · rw [e5, st_no (by omega), e4, st_no (by omega), e3, st_no (by omega), e2, st_no (by omega), e1, st_same, fB, st_no (by omega), fA, st_no (by omega), u8 _ _ (by omega), f8, st_no (by omega), s8 _ _ (by omega), f6, st_no (by omega), q8 _ _ (by omega), t4f _ _ (by omega), f3, st_same, ex2, nv]
                  · rw [e5, st_no (by omega), e4, st_no (by omega), e3, st_no (by omega), e2, st_same, fB, st_no (by omega), fA, st_no (by omega), u8 _ _ (by omega), f8, st_no (by omega), s8 _ _ (by omega), v27]
                  · rw [e5, st_no (by omega), e4, st_no (by omega), e3, st_same, fB, st_no (by omega), fA, st_no (by omega), u8 _ _ (by omega), f8, st_same, s4]
                  · rw [e5, st_no (by omega), e4, st_same, fB, st_no (by omega), fA, st_same, u4]
                · rw [oldP 10 i (by omega) e, oldP 11 i (by omega) e, oldP 12 i (by omega) e, oldP 13 i (by omega) e, old 26 _ (by omega) (by omega), old 27 _ (by omega) (by omega), old 28 _ (by omega) (by omega), old 29 _ (by omega) (by omega)]
                  exact p3 i (by omega)
              · exact rPi_of g3 (fun a j g => frP a j (by omega)) (fun a j g => fr a j (by omega))
              · exact rW_of g4 rfl (fun j => frP 18 j (by omega)) (fun a j g => fr a j (by omega))
              · exact rO_of g5 rfl (fun j _ _ => frP 0 j (by omega)) (fun a j g => fr a j (by omega))
              · exact rL_of g6 (fun a j g => frP a j (by omega)) (fun a j g => fr a j (by omega))
              · show (T 0 7).toInt ≤ (TB 0 10).toInt
                have x1 := tk_on k2
                have x2 := tk_on k4
                have x3 := tk_on q5
                have x4 := tk_on s5
                have y1 : T3 0 7 = T2 0 7 := by rw [f3, st_no (by omega)]
                have y2 : T6 0 7 = T5 0 7 := by rw [f6, st_no (by omega)]
                have y3 : T8 0 7 = T7 0 7 := by rw [f8, st_no (by omega)]
                rw [y1] at k4p
                rw [y2] at s9
                rw [y3] at u9
                rw [fB, st_no (by omega), fA, st_no (by omega)]
                omega
      · rw [if_pos (show (0 : Int32) ≤ r from Int32.le_iff_toInt_le.mpr (by show (0 : Int) ≤ _; exact hm.1)), if_neg (show ¬ r < 0 from fun q => by have := tq_lt (b := 0) rfl (by decide) q; omega), ex0, wrE]
        exact E2_p2l (E2_pl rfl (ln_fail k2.2.2.2.1 (by decide) k2f))
    · rw [if_neg (show ¬ T2 0 8 = 2 from fun q => d1 (by rw [q]; decide)), if_neg (show ¬ K2 0 1 = 43 from fun q => d1 (kk.mp (by rw [q]; decide)))]
      unfold fJ_X3_readPerson_J62
      rw [ex0, wrE]
      exact E2_p2l (E2_pl rfl (ln_fail k2.2.2.2.1 (by decide) k2f))
