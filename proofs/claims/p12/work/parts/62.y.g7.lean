/-! a law's line; any line -/
theorem e_law {K R P T : Tr} (h : tkS K T) (hr : RD R P T) (h0 : R 0 1 = 0) : E2 (bd (f_X3_readLaw K R P) fun q => lt q.1 fun r3 => lt q.2.1 fun K_4 => lt q.2.2.1 fun R_5 => lt q.2.2.2 fun P_6 => ck (okB r3) (some (r3, K_4, R_5, P_6))) (bd (f_X8_token T) fun S_86 => if (S_86 0 8) = 1 then (if (S_86 0 9) < 16 then (fJ_X8_lineRead_J276  S_86) else (if (S_86 0 9) ≤ 18 then (lt (((3 : Int32) + (S_86 0 9)) - 16) fun y97 => ck (okI y97 6) (if (S_86 36 y97.toNatClampNeg) = 0 then (lt (st S_86 36 y97.toNatClampNeg (vp_nar .boolean 1)) fun S_100 => bd (f_X8_token S_100) fun S_101 => lt (st S_101 37 y97.toNatClampNeg (S_101 0 19)) fun S_104 => bd (f_X8_sumRead S_104) fun q => lt q.1 fun r105 => lt q.2 fun S_106 => lt (st S_106 38 y97.toNatClampNeg (S_106 0 19)) fun S_109 => fJ_X8_lineRead_J343  r105 S_109) else (bd (f_X8_wrong S_86 (3 : Int32)) fun q => lt q.1 fun r110 => lt q.2 fun S_111 => ck (okB r110) (some (r110, S_111))))) else (fJ_X8_lineRead_J276  S_86))) else (fJ_X8_lineRead_J276  S_86)) (lsQ K R T) := by
  unfold f_X3_readLaw
  rw [bd_bd]
  refine E2_bd (e_advS h) (fun K1 T1 h1 => ?_)
  obtain ⟨k1, k1f, t1f, k1p⟩ := h1
  obtain ⟨g1, g2, g3, g4, g5, g6⟩ := hr
  have kk := k1.2.2.2.2.1
  have kw := k_word kk (a := 16) (b := 18) (by omega) (by omega)
  rw [bd_lt]
  refine E2_ltl (fun y ey => ?_)
  have kb : -1 ≤ (K1 0 1).toInt ∧ (K1 0 1).toInt ≤ 45 := by unfold kI at kk; omega
  have hy : y.toInt = (K1 0 1).toInt - 16 := by rw [ey]; exact i_subK rfl (by decide) (by omega) (by omega)
  have nofit : ¬ (16 ≤ (K1 0 1).toInt ∧ (K1 0 1).toInt ≤ 18) → E2 (bd (if y < 0 then (fJ_X3_readLaw_J32  y K1 R P) else (if 2 < y then (fJ_X3_readLaw_J32  y K1 R P) else (fJ_X3_readLaw_J33  y 1 K1 R P))) fun q => lt q.1 fun r3 => lt q.2.1 fun K_4 => lt q.2.2.1 fun R_5 => lt q.2.2.2 fun P_6 => ck (okB r3) (some (r3, K_4, R_5, P_6))) (fJ_X8_lineRead_J276 T1) (lsQ K R T) := by
    intro hno
    have e : (if y < 0 then (fJ_X3_readLaw_J32  y K1 R P) else (if 2 < y then (fJ_X3_readLaw_J32  y K1 R P) else (fJ_X3_readLaw_J33  y 1 K1 R P))) = some (0, K1, st (st R 0 1 1) 0 2 (K1 0 2), P) := by
      have j32 : fJ_X3_readLaw_J32 y K1 R P = some (0, K1, st (st R 0 1 1) 0 2 (K1 0 2), P) := by
        unfold fJ_X3_readLaw_J32 fJ_X3_readLaw_J33
        rw [ex0]; rfl
      by_cases c : y < 0
      · rw [if_pos c, j32]
      · have := tq_ltn (b := 0) hy (by decide) c
        rw [if_neg c, if_pos (Int32.lt_iff_toInt_lt.mpr (by rw [hy]; show (2 : Int) < _; omega)), j32]
    unfold fJ_X8_lineRead_J276
    rw [e, wrE]
    exact E2_sl (E2_v4l (E2_ckl (fun _ => E2_some (Or.inl ⟨rfl, rfl, flt_of k1.2.2.2.1 (by decide), k1f⟩))))
  by_cases d1 : (T1 0 8).toInt = 1
  · rw [if_pos (show T1 0 8 = 1 from i_z (by rw [d1]; decide))]
    by_cases d2 : (T1 0 9).toInt < 16
    · rw [if_pos (show T1 0 9 < 16 from Int32.lt_iff_toInt_lt.mpr (by show _ < (16 : Int); exact d2))]
      exact nofit (by omega)
    · rw [if_neg (show ¬ T1 0 9 < 16 from fun q => d2 (tq_lt rfl (b := 16) (by decide) q))]
      by_cases d3 : (T1 0 9).toInt ≤ 18
      · rw [if_pos (show T1 0 9 ≤ 18 from Int32.le_iff_toInt_le.mpr (by show _ ≤ (18 : Int); exact d3))]
        have kq := kw.mpr ⟨d1, by omega, d3⟩
        have kv := k_weq kk d1 (by omega)
        obtain ⟨k, hk⟩ : ∃ k : Nat, y.toInt = k := ⟨y.toInt.toNat, by omega⟩
        have hk3 : k < 3 := by omega
        refine E2_ltr (fun y97 e97 => E2_ckr (fun _ => ?_))
        have i97 : y97.toInt = ((3 + k : Nat) : Int) := by
          have z1 : ((3 : Int32) + T1 0 9).toInt = 3 + (T1 0 9).toInt := i_addK (by decide) rfl (by omega) (by omega)
          rw [e97, i_subK z1 (y := 16) (by decide) (by omega) (by omega)]; omega
        rw [i_cn i97, if_neg (neg1 (by omega)), if_neg (fun q => by have := tq_lt (a := 2) (by decide) rfl q; omega)]
        unfold fJ_X3_readLaw_J33
        rw [ex1]
        have hl : lwR P T k := by
          rcases (by omega : k = 0 ∨ k = 1 ∨ k = 2) with q | q | q
          · rw [q]; exact g6.2.2.2.1
          · rw [q]; exact g6.2.2.2.2.1
          · rw [q]; exact g6.2.2.2.2.2
        show E2 (bd (ck (okI y 3) (if (P (30 + 3 * y.toNatClampNeg) 1) = 0 then (fJ_X3_readLaw_J61  y 1 K1 R P) else (fJ_X3_readLaw_J61  y 0 K1 R P))) _) _ _
        rw [bd_ck, i_cn hk]
        refine E2_ckl (fun _ => ?_)
        have t36 : T1 36 (3 + k) = T 36 (3 + k) := t1f _ _ (by omega)
        rw [t36]
        rcases hl with ⟨l1, l2⟩ | ⟨l1, F, s, l2, l3, l4, l5, l6, l7, l8⟩
        · rw [if_pos l1, if_pos l2, nar1]
          unfold fJ_X3_readLaw_J61
          rw [ex1]
          show E2 (bd (bd (f_X5_advance K1) fun K_18 => ck (okI y 3) (bd (f_X3_readFormula y.toNatClampNeg K_18 R P) fun q => lt q.1 fun r22 => lt q.2.1 fun K_23 => lt q.2.2.1 fun R_24 => lt q.2.2.2 fun P_25 => ck (okB r22) (some (r22, K_23, R_24, P_25)))) _) _ _
          rw [bd_bd]
          refine E2_ltr (fun T2 f2 => ?_)
          have k2 : tkS K1 T2 := by rw [f2]; exact tkS_st k1 (by omega)
          refine E2_bd (e_advS k2) (fun K3 T3 h3 => ?_)
          obtain ⟨k3, k3f, t3f, k3p⟩ := h3
          rw [bd_ck, i_cn hk]
          refine E2_ckl (fun _ => E2_ltr (fun T4 f4 => ?_))
          have k4 : tkS K3 T4 := by rw [f4]; exact tkS_st k3 (by omega)
          obtain ⟨f, hf⟩ : ∃ f : Nat, (T 0 19).toInt = f := ⟨(T 0 19).toInt.toNat, by rw [g6.2.1]; have := g6.2.2.1; omega⟩
          have T4f : ∀ a i, ¬ ((a = 0 ∧ 7 ≤ i ∧ i ≤ 10) ∨ (a = 36 ∧ i = 3 + k) ∨ (a = 37 ∧ i = 3 + k)) → T4 a i = T a i := fun a i hn => by rw [f4, st_no (by omega), t3f a i (by omega), f2, st_no (by omega), t1f a i (by omega)]
          have t319 : T3 0 19 = T 0 19 := by rw [t3f 0 19 (by omega), f2, st_no (by omega), t1f 0 19 (by omega)]
          have v36 : T4 36 (3 + k) = 1 := by rw [f4, st_no (by omega), t3f _ _ (by omega), f2, st_same]
          have v37 : T4 37 (3 + k) = T 0 19 := by rw [f4, st_same, t319]
          unfold f_X3_readFormula f_X8_sumRead fL_X3_readFormula_L17 fL_X8_sumRead_L25
          simp only [bd_lt]
          refine E2_ltl (fun R1 r1 => E2_ltl (fun R2 r2 => E2_ltr (fun A1 a1 => E2_ltr (fun A2 a2 => E2_ltr (fun A3 a3 => E2_ltr (fun A4 a4 => E2_ltr (fun A5 a5 => ?_)))))))
          have A5f : ∀ a i, ¬ (a = 0 ∧ 43 ≤ i ∧ i ≤ 48) → A5 a i = T4 a i := fun a i hn => by rw [a5, st_no (by omega), a4, st_no (by omega), a3, st_no (by omega), a2, st_no (by omega), a1, st_no (by omega)]
          have R2f : ∀ a i, ¬ (a = 0 ∧ (i = 8 ∨ i = 9)) → R2 a i = R a i := fun a i hn => by rw [r2, st_no (by omega), r1, st_no (by omega)]
          have x43 : A5 0 43 = 0 := by rw [a5, st_no (by omega), a4, st_no (by omega), a3, st_no (by omega), a2, st_no (by omega), a1, st_same]
          have x44 : A5 0 44 = 0 := by rw [a5, st_no (by omega), a4, st_no (by omega), a3, st_no (by omega), a2, st_same]
          have x45 : A5 0 45 = 0 := by rw [a5, st_no (by omega), a4, st_no (by omega), a3, st_same]
          have x47 : A5 0 47 = 1 := by rw [a5, st_no (by omega), a4, st_same]
          have x48 : A5 0 48 = 1 := by rw [a5, st_same]
          have x46 : A5 0 46 = T 0 46 := by rw [a5, st_no (by omega), a4, st_no (by omega), a3, st_no (by omega), a2, st_no (by omega), a1, st_no (by omega), T4f 0 46 (by omega)]
          have x19 : A5 0 19 = T 0 19 := by rw [A5f 0 19 (by omega), T4f 0 19 (by omega)]
          have z0 : (0 : Int32).toInt = 0 := by decide
          have k5 : tkS K3 A5 := tkS_T k4 (fun i h1 h2 => A5f 0 i (by omega)) (funext fun i => A5f 1 i (by omega)) (funext fun i => A5f 4 i (by omega))
          have r28 : R2 0 8 = 0 := by rw [r2, st_no (by omega), r1, st_same]
          have r29 : R2 0 9 = 0 := by rw [r2, st_same]
          have hf46 : (T 0 46).toInt = f := by rw [← g6.2.1]; exact hf
          have FS : fmS k f 1 K3 R2 P A5 := by
            refine ⟨k5, ⟨0, 0, 0, Or.inr ⟨rfl, rfl⟩, ⟨⟨⟨by rw [r28]; exact z0, by rw [x43]; exact z0, by omega, fun i hi => absurd hi (Nat.not_lt_zero i)⟩, by rw [r29, x45], by rw [x45]; exact z0, Nat.zero_le _⟩, ⟨by rw [l1]; exact z0, by rw [x19, hf]; omega, fun i hi => absurd hi (Nat.not_lt_zero i)⟩, ⟨by rw [x44]; exact z0, trivial⟩, rfl, by rw [x46]; exact g6.1, by rw [x46]; exact g6.2.2.1.2, by rw [x46, x45, z0]; omega⟩, fun _ => ?_⟩, x47, by rw [R2f 0 1 (by omega)]; exact h0⟩
            constructor
            · intro q; rw [x48] at q; exact absurd q (by decide)
            · rintro ⟨m, q, _⟩; omega
          have pos : 0 ≤ (A5 0 10).toInt := k5.2.2.2.2.2.2.2.1
          rw [bd_bd]
          refine E2_bd (e_fm hk3 2000 1 0 K3 R2 P A5 FS (Or.inr rfl) (by decide) (by rw [z0]; exact pos)) (fun q q' hq => ?_)
          obtain ⟨r, K6, R6, P6⟩ := q
          obtain ⟨r', T6⟩ := q'
          have k13 := frK_t k1f k3f
          refine E2_v2r ?_
          have hq : (r = 0 ∧ r' = 0 ∧ flt R6 T6 ∧ frK K3 K6) ∨ (r = 1 ∧ ¬ K6 0 1 = 41 ∧ r' = 0 ∧ T6 0 4 = 1 ∧ T6 0 5 = K6 0 2 ∧ frK K3 K6 ∧ R6 0 1 = 0) ∨ (r = 1 ∧ K6 0 1 = 41 ∧ r' = 1 ∧ tkS K6 T6 ∧ (∃ s, qC k f 1 0 0 s R6 P6 T6) ∧ R6 0 1 = 0 ∧ frK K3 K6 ∧ qF k f R2 P A5 R6 P6 T6 ∧ (A5 0 10).toInt ≤ (T6 0 10).toInt) := hq
          rcases hq with ⟨rfl, rfl, u1, u2⟩ | ⟨rfl, u1, rfl, u2, u3, u4, u5⟩ | ⟨rfl, u1, rfl, u2, ⟨s, u3⟩, u4, u5, u6, u7⟩
          · refine E2_ltr (fun T7 f7 => ?_)
            show E2 (some ((0 : Int32), K6, R6, P6)) _ _
            refine e_semiF ⟨?_, ?_, u1.2.2⟩ (frK_t k13 u2)
            · rw [f7, st_no (by omega)]; exact u1.1
            · rw [f7, st_no (by omega)]; exact u1.2.1
          · refine E2_ltr (fun T7 f7 => ?_)
            show E2 (some ((1 : Int32), K6, R6, P6)) _ _
            unfold fJ_X8_lineRead_J343
            refine E2_pr rfl (E2_some (Or.inr (Or.inl ⟨rfl, u1, rfl, ?_, ?_, frK_t k13 u4, u5⟩)))
            · show T7 0 4 = 1
              rw [f7, st_no (by omega)]; exact u2
            · show T7 0 5 = K6 0 2
              rw [f7, st_no (by omega)]; exact u3
          · refine E2_ltr (fun T7 f7 => ?_)
            show E2 (some ((1 : Int32), K6, R6, P6)) _ _
            obtain ⟨⟨⟨m1, m2, m3, m4⟩, m5, m6, m7⟩, ⟨n1, n2, n3⟩, ⟨o1, o2⟩, p1, c1, c2, c3⟩ := u3
            obtain ⟨w1, w2, w3⟩ := u6
            have hz : zc (T6 42) 0 = 0 := rfl
            have hb : b2 (T6 42) 0 = 0 := rfl
            have T7f : ∀ a i, ¬ ((a = 0 ∧ ((4 ≤ i ∧ i ≤ 11) ∨ i = 19 ∨ (43 ≤ i ∧ i ≤ 48))) ∨ (36 ≤ a ∧ a ≤ 38 ∧ i = 3 + k) ∨ (39 ≤ a ∧ a ≤ 41 ∧ 64 + f ≤ i) ∨ a = 42 ∨ a = 43) → T7 a i = T a i := fun a i hn => by
              rw [f7, st_no (by omega), w3 a i (by omega), A5f a i (by omega), T4f a i (by omega)]
            have P6f : ∀ a i, ¬ ((a = 0 ∧ i = 3) ∨ (a = 30 + 3 * k ∧ i = 1) ∨ a = 31 + 3 * k) → P6 a i = P a i := w2
            have R6f : ∀ a i, ¬ ((a = 0 ∧ (i = 1 ∨ i = 2 ∨ i = 8 ∨ i = 9)) ∨ a = 8) → R6 a i = R a i := fun a i hn => by rw [w1 a i hn, R2f a i (by omega)]
            have y19 : T7 0 19 = T6 0 19 := by rw [f7, st_no (by omega)]
            have y46 : T7 0 46 = T6 0 46 := by rw [f7, st_no (by omega)]
            have s1 : 1 ≤ s := by
              rcases s with _ | s
              · have : (hs (P6 (31 + 3 * k)) 0).length = 0 := rfl
                omega
              · omega
            have e46 : (T6 0 46).toInt = f + s := by rw [hz] at m6; omega
            have other : ∀ i, i < 3 → ¬ i = k → lwR P T i → lwR P6 T7 i := fun i hi hne hl => by
              refine lwR_of hl (fun u => P6f _ u (by omega)) (fun u => P6f _ u (by omega)) (fun a ha => T7f a _ (by omega)) (by rw [y19, n2, hf]; omega) (fun a u ha hu => T7f a u (by omega))
            have mine : lwR P6 T7 k := by
              refine Or.inr ⟨?_, f, s, s1, n1, ?_, ?_, by rw [y19, n2]; exact Int.le_refl _, by rw [p1, hb], fun i hi => nd_of (n3 i hi) (fun _ _ => rfl) ?_ ?_ ?_⟩
              · rw [f7, st_no (by omega), w3 _ _ (by omega), A5f _ _ (by omega)]; exact v36
              · rw [f7, st_no (by omega), w3 _ _ (by omega), A5f _ _ (by omega), v37]; exact hf
              · rw [f7, st_same]; exact n2
              · unfold sh64; rw [f7, st_no (by omega)]
              · unfold sh64; rw [f7, st_no (by omega)]
              · unfold sh64; rw [f7, st_no (by omega)]
            have rd : RD R6 P6 T7 := by
              refine ⟨rPl_of g1 (fun a i g => P6f a i (by omega)) (fun a i g => T7f a i (by omega)), rPe_of g2 (fun a i g => P6f a i (by omega)) (fun a i g => T7f a i (by omega)), rPi_of g3 (fun a i g => P6f a i (by omega)) (fun a i g => T7f a i (by omega)), rW_of g4 (R6f 0 6 (by omega)) (fun i => P6f 18 i (by omega)) (fun a i g => T7f a i (by omega)), rO_of g5 (R6f 0 5 (by omega)) (fun i _ _ => P6f 0 i (by omega)) (fun a i g => T7f a i (by omega)), by rw [y46]; exact c1, by rw [y19, y46]; exact i_z (by rw [n2, e46]), by rw [y46]; exact ⟨by omega, c2⟩, ?_, ?_, ?_⟩
              · by_cases q : k = 0
                · rw [q] at mine; exact mine
                · exact other 0 (by omega) (fun e => q e.symm) g6.2.2.2.1
              · by_cases q : k = 1
                · rw [q] at mine; exact mine
                · exact other 1 (by omega) (fun e => q e.symm) g6.2.2.2.2.1
              · by_cases q : k = 2
                · rw [q] at mine; exact mine
                · exact other 2 (by omega) (fun e => q e.symm) g6.2.2.2.2.2
            have k7 : tkS K6 T7 := by rw [f7]; exact tkS_st u2 (by omega)
            refine e_semi k7 rd u4 (R6f 0 3 (by omega)) (frK_t k13 u5) ?_
            have x1 := tk_on k1
            have x2 := tk_on k3
            rw [f2, st_no (by omega)] at k3p
            have q10 : A5 0 10 = T3 0 10 := by rw [A5f 0 10 (by omega), f4, st_no (by omega)]
            rw [q10] at u7
            rw [f7, st_no (by omega)]
            omega
        · have np : ¬ P (30 + 3 * k) 1 = 0 := fun q => by
            rw [q, show (0 : Int32).toInt = 0 from by decide] at l3
            omega
          have nt : ¬ T 36 (3 + k) = 0 := fun q => by
            rw [q] at l1
            exact absurd l1 (by decide)
          rw [if_neg np, if_neg nt]
          unfold fJ_X3_readLaw_J61
          rw [ex0, wrE]
          show E2 (bd (some ((0 : Int32), K1, st (st R 0 1 3) 0 2 (K1 0 2), P)) _) _ _
          exact E2_sl (E2_v4l (E2_ckl (fun _ => E2_some (Or.inl ⟨rfl, rfl, flt_of k1.2.2.2.1 (by decide), k1f⟩))))
      · rw [if_neg (show ¬ T1 0 9 ≤ 18 from fun q => d3 (tq_le rfl (b := 18) (by decide) q))]
        exact nofit (by omega)
  · rw [if_neg (show ¬ T1 0 8 = 1 from fun q => d1 (by rw [q]; decide))]
    exact nofit (by omega)
