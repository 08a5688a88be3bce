-- 62.y.f4
theorem E2_any {α β γ : Type} {Q : α → β → Prop} {x : Option γ} {k : γ → Option α} {y : Option β} (h : ∀ a, E2 (k a) y Q) : E2 (bd x k) y Q := E2_bl (R := fun _ => True) (fun _ _ => trivial) (fun a _ => h a)
theorem e_piece {K R P T : Tr} (h : tkS K T) (hr : RD R P T) (h0 : R 0 1 = 0) : E2 (f_X3_readPiece K R P) (f_X8_pieceLine T) (lnQ K R T) := by
  unfold f_X3_readPiece f_X8_pieceLine
  obtain ⟨g1, g2, g3, g4, g5, g6⟩ := hr
  have hpe := g2
  have l1 := g1.1
  have l2 := g1.2.1
  obtain ⟨p1, p2, p3⟩ := g3
  refine E2_ltl (fun y ey => ?_)
  obtain ⟨n, hn⟩ : ∃ n : Nat, (T 0 18).toInt = n := ⟨(T 0 18).toInt.toNat, by omega⟩
  have hy : y.toInt = n := by rw [ey, p1]; exact hn
  by_cases c : n = 10
  · rw [if_pos (show T 0 18 = 10 from i_z (by rw [hn, c]; decide)), if_pos (show 10 ≤ y from Int32.le_iff_toInt_le.mpr (by rw [hy, c]; decide))]
    unfold fJ_X3_readPiece_J20
    rw [ex0, wrE]
    exact E2_p2l (E2_pl rfl (ln_fail h.2.2.2.1 (by decide) frK_r))
  · rw [if_neg (show ¬ T 0 18 = 10 from fun q => c (by rw [q] at hn; have : (10 : Int32).toInt = 10 := by decide
                                                       omega)), if_neg (show ¬ 10 ≤ y from fun q => by have := tq_le (a := 10) (by decide) hy q; omega)]
    unfold fJ_X3_readPiece_J20
    rw [ex1]
    refine E2_p2l (E2_ql (by decide) (E2_bd (e_advS h) (fun K2 T2 h2 => ?_)))
    obtain ⟨k2, k2f, t2f, k2p⟩ := h2
    have kk := k_name k2.2.2.2.2.1
    by_cases d1 : (T2 0 8).toInt = 2
    · rw [if_pos (show T2 0 8 = 2 from i_z (by rw [d1]; decide))]
      have nv := k2.2.2.2.2.2.1 d1
      have t218 : T2 0 18 = T 0 18 := t2f 0 18 (by omega)
      have hpe2 : rPe P T2 := rPe_of hpe (fun _ _ _ => rfl) (fun a j g => t2f a j (by omega))
      refine E2_bd (e_find hpe2 nv) (fun r r' hrr => ?_)
      obtain ⟨er, hrr⟩ := hrr
      subst er
      rw [if_pos (show K2 0 1 = 43 from i_z (by rw [kk.mpr d1]; decide))]
      unfold fJ_X3_readPiece_J69
      rw [ex1]
      refine E2_p2l (E2_ql (by decide) ?_)
      unfold fJ_X3_readPiece_J86
      rcases hrr with hm | hm
      · rw [if_neg (n_le hm), if_pos (show r < 0 from Int32.lt_iff_toInt_lt.mpr (by rw [hm]; decide)), ex0, wrE]
        exact E2_p2l (E2_pl rfl (ln_fail k2.2.2.2.1 (by decide) k2f))
      · rw [if_pos (show (0 : Int32) ≤ r from Int32.le_iff_toInt_le.mpr (by show (0 : Int) ≤ _; exact hm.1)), if_neg (show ¬ r < 0 from fun q => by have := tq_lt (b := 0) rfl (by decide) q; omega), ex1]
        refine E2_p2l (E2_ql (by decide) (E2_ltr (fun y10 ey10 => E2_ckr (fun _ => E2_ltr (fun T3 f3 => ?_)))))
        have i6 : y10.toInt = 10 + n := by rw [ey10, t218]; exact i_addK (by decide) hn (by omega) (by omega)
        have c6 : y10.toNatClampNeg = 10 + n := i_cn (by omega)
        rw [c6] at f3 ⊢
        have k3 : tkS K2 T3 := by rw [f3]; exact tkS_st k2 (by omega)
        refine E2_bd (e_advS k3) (fun K4 T4 h4 => ?_)
        obtain ⟨k4, k4f, t4f, k4p⟩ := h4
        refine E2_bd (e_nq k4 (lo := 1) (hi := 99) (by decide) (by decide)) (fun q q' hq => ?_)
        obtain ⟨r1, K5, R5⟩ := q
        obtain ⟨r1', T5⟩ := q'
        refine E2_v3l (E2_v2r ?_)
        have k24 := frK_t k2f k4f
        rcases nq_cs hq (by decide : (1 : Int32).toInt = 1) (by decide : (99 : Int32).toInt = 99) with ⟨rfl, rfl, q3, q4⟩ | ⟨rfl, q2, q3, q4, q5, rfl, q7, q8, q9⟩
        · unfold fJ_X3_readPiece_J125
          exact E2_ql (by decide) (E2_pr rfl (E2_ql (by decide) (E2_some (Or.inl ⟨rfl, rfl, q3, frK_t k24 q4⟩))))
        · have k25 := frK_t k24 q7
          refine E2_pl (Int32.le_iff_toInt_le.mpr (by show (0 : Int) ≤ _; omega)) (E2_qr (by decide) (E2_ltr (fun T6 f6 => ?_)))
          have k6 : tkS K5 T6 := by rw [f6]; exact tkS_st q5 (by omega)
          refine E2_bd (e_nq k6 (lo := 0) (hi := 9) (by decide) (by decide)) (fun q q' hq => ?_)
          obtain ⟨r2, K7, R7⟩ := q
          obtain ⟨r2', T7⟩ := q'
          refine E2_v3l (E2_v2r ?_)
          unfold fJ_X3_readPiece_J125
          rcases nq_cs hq (by decide : (0 : Int32).toInt = 0) (by decide : (9 : Int32).toInt = 9) with ⟨rfl, rfl, s3, s4⟩ | ⟨rfl, s2, s3, s4, s5, rfl, s7, s8, s9⟩
          · exact E2_ql (by decide) (E2_pr rfl (E2_some (Or.inl ⟨rfl, rfl, s3, frK_t k25 s4⟩)))
          · have k27 := frK_t k25 s7
            refine E2_pl (Int32.le_iff_toInt_le.mpr (by show (0 : Int) ≤ _; omega)) (E2_qr (by decide) (E2_ltr (fun T8 f8 => E2_ltr (fun T9 f9 => ?_))))
            have k9 : tkS K7 T9 := by rw [f9, f8]; exact tkS_st (tkS_st s5 (by omega)) (by omega)
            have kn := k_num k9.2.2.2.2.1
            have fr9 : ∀ a j, ¬ ((a = 0 ∧ (4 ≤ j ∧ j ≤ 11)) ∨ (30 ≤ a ∧ a ≤ 33)) → T9 a j = T a j := fun a j hn => by
              rw [f9, st_no (by omega), f8, st_no (by omega), s8 a j (by omega), f6, st_no (by omega), q8 a j (by omega), t4f a j (by omega), f3, st_no (by omega), t2f a j (by omega)]
            have old9 : ∀ a j, (30 ≤ a ∧ a ≤ 33) → ¬ j = 10 + n → T9 a j = T a j := fun a j ha hj => by
              rw [f9, st_no (by omega), f8, st_no (by omega), s8 a j (by omega), f6, st_no (by omega), q8 a j (by omega), t4f a j (by omega), f3, st_no (by omega), t2f a j (by omega)]
            have v30 : T9 30 (10 + n) = r := by rw [f9, st_no (by omega), f8, st_no (by omega), s8 _ _ (by omega), f6, st_no (by omega), q8 _ _ (by omega), t4f _ _ (by omega), f3, st_same]
            have v31 : T9 31 (10 + n) = r1 := by rw [f9, st_no (by omega), f8, st_no (by omega), s8 _ _ (by omega), f6, st_same, q4]
            have v32 : T9 32 (10 + n) = r2 := by rw [f9, st_no (by omega), f8, st_same, s4]
            have v33 : T9 33 (10 + n) = -1 := by rw [f9, st_same]
            have pr9 : (T 0 7).toInt ≤ (T9 0 10).toInt ∧ (T 0 7).toInt ≤ (T9 0 7).toInt := by
              have x1 := tk_on k2
              have x2 := tk_on k4
              have x3 := tk_on q5
              have x4 := tk_on s5
              have y1 : T3 0 7 = T2 0 7 := by rw [f3, st_no (by omega)]
              have y2 : T6 0 7 = T5 0 7 := by rw [f6, st_no (by omega)]
              rw [y1] at k4p
              rw [y2] at s9
              rw [f9, st_no (by omega), f8, st_no (by omega), st_no (by omega), st_no (by omega)]
              omega
            have yn : y.toNatClampNeg = n := i_cn hy
            have fin : ∀ (KA TA : Tr) (x5 : Int32), tkS KA TA → frK K KA → (∀ a j, ¬ ((a = 0 ∧ (7 ≤ j ∧ j ≤ 10)) ∨ (a = 33 ∧ j = 10 + n)) → TA a j = T9 a j) → TA 33 (10 + n) = x5 → (T 0 7).toInt ≤ (TA 0 10).toInt → E2 (fJ_X3_readPiece_J192 y r r1 r2 x5 KA R7 P) (fJ_X8_pieceLine_J170 TA) (lnQ K R7 T) := by
              intro KA TA x5 kA kf tf v5 pA
              unfold fJ_X3_readPiece_J192 fJ_X8_pieceLine_J170
              refine E2_ckl (fun _ => E2_ltl (fun P1 e1 => E2_ltl (fun P2 e2 => E2_ltl (fun P3 e3 => E2_ltl (fun P4 e4 => E2_ltl (fun P5 e5 => E2_ltr (fun TB fB => E2_some ?_)))))))
              rw [yn] at e1 e2 e3 e4
              have frP : ∀ a j, ¬ ((a = 0 ∧ j = 2) ∨ (14 ≤ a ∧ a ≤ 17)) → P5 a j = P a j := fun a j hn => by
                rw [e5, st_no (by omega), e4, st_no (by omega), e3, st_no (by omega), e2, st_no (by omega), e1, st_no (by omega)]
              have oldP : ∀ a j, (14 ≤ a ∧ a ≤ 17) → ¬ j = n → P5 a j = P a j := fun a j ha hj => by
                rw [e5, st_no (by omega), e4, st_no (by omega), e3, st_no (by omega), e2, st_no (by omega), e1, st_no (by omega)]
              have fr : ∀ a j, ¬ ((a = 0 ∧ (4 ≤ j ∧ j ≤ 11 ∨ j = 18)) ∨ (30 ≤ a ∧ a ≤ 33)) → TB a j = T a j := fun a j hn => by
                rw [fB, st_no (by omega), tf a j (by omega), fr9 a j (by omega)]
              have old : ∀ a j, (30 ≤ a ∧ a ≤ 33) → ¬ j = 10 + n → TB a j = T a j := fun a j ha hj => by
                rw [fB, st_no (by omega), tf a j (by omega), old9 a j ha hj]
              have s18 : TB 0 18 = T 0 18 + 1 := by rw [fB, st_same, tf 0 18 (by omega), fr9 0 18 (by omega)]
              have s18i : (TB 0 18).toInt = n + 1 := by rw [s18]; exact i_addK hn (by decide) (by omega) (by omega)
              refine Or.inr ⟨rfl, rfl, ?_, ⟨?_, ?_, ⟨?_, ?_, fun i hi => ?_⟩, ?_, ?_, ?_⟩, h0, rfl, kf, ?_⟩
              · show tkS KA TB
                rw [fB]; exact tkS_st kA (by omega)
              · exact rPl_of g1 (fun a j g => frP a j (by omega)) (fun a j g => fr a j (by omega))
              · exact rPe_of g2 (fun a j g => frP a j (by omega)) (fun a j g => fr a j (by omega))
              · show P5 0 2 = TB 0 18
                rw [s18, e5, st_same, e4, st_no (by omega), e3, st_no (by omega), e2, st_no (by omega), e1, st_no (by omega), p1]
              · show 0 ≤ (TB 0 18).toInt ∧ (TB 0 18).toInt ≤ 10
                omega
              · have hi : (i : Int) < (TB 0 18).toInt := hi
                show P5 14 i = TB 30 (10 + i) ∧ P5 15 i = TB 31 (10 + i) ∧ P5 16 i = TB 32 (10 + i) ∧ P5 17 i = TB 33 (10 + i)
                by_cases e : i = n
                · subst e
                  refine ⟨?_, ?_, ?_, ?_⟩
                  · rw [e5, st_no (by omega), e4, st_no (by omega), e3, st_no (by omega), e2, st_no (by omega), e1, st_same, fB, st_no (by omega), tf _ _ (by omega), v30]
                  · rw [e5, st_no (by omega), e4, st_no (by omega), e3, st_no (by omega), e2, st_same, fB, st_no (by omega), tf _ _ (by omega), v31]
                  · rw [e5, st_no (by omega), e4, st_no (by omega), e3, st_same, fB, st_no (by omega), tf _ _ (by omega), v32]
                  · rw [e5, st_no (by omega), e4, st_same, fB, st_no (by omega), v5]
                · rw [oldP 14 i (by omega) e, oldP 15 i (by omega) e, oldP 16 i (by omega) e, oldP 17 i (by omega) e, old 30 _ (by omega) (by omega), old 31 _ (by omega) (by omega), old 32 _ (by omega) (by omega), old 33 _ (by omega) (by omega)]
                  exact p3 i (by omega)
              · exact rW_of g4 rfl (fun j => frP 18 j (by omega)) (fun a j g => fr a j (by omega))
              · exact rO_of g5 rfl (fun j _ _ => frP 0 j (by omega)) (fun a j g => fr a j (by omega))
              · exact rL_of g6 (fun a j g => frP a j (by omega)) (fun a j g => fr a j (by omega))
              · show (T 0 7).toInt ≤ (TB 0 10).toInt
                rw [fB, st_no (by omega)]; exact pA
            by_cases d3 : (T9 0 8).toInt = 3
            · rw [if_pos (show T9 0 8 = 3 from i_z (by rw [d3]; decide)), if_pos (show K7 0 1 = 42 from i_z (by rw [kn.mpr d3]; decide))]
              refine E2_ltl (fun y48 ey48 => ?_)
              have nr := k9.2.2.2.2.2.2.1 d3
              have t916 : T9 0 16 = T 0 16 := fr9 0 16 (by omega)
              rw [l1, t916]
              by_cases d4 : (T9 0 9).toInt < (T 0 16).toInt
              · have ev : y48 = T9 0 9 := by
                  rcases nr with ⟨z, _⟩ | ⟨_, _, z, _⟩
                  · rw [ey48]; exact z
                  · omega
                rw [if_pos (show T9 0 9 < T 0 16 from Int32.lt_iff_toInt_lt.mpr d4), if_neg (show ¬ T 0 16 ≤ y48 from fun q => by rw [ev] at q; have := tq_le rfl rfl q; omega)]
                unfold fJ_X3_readPiece_J176
                rw [ex1]
                refine E2_p2l (E2_ql (by decide) (E2_ltr (fun TC fC => ?_)))
                have kC : tkS K7 TC := by rw [fC]; exact tkS_st k9 (by omega)
                refine E2_bd (e_advS kC) (fun KA TA hA => ?_)
                refine fin KA TA y48 hA.1 (frK_t k27 hA.2.1) (fun a j hn => by rw [hA.2.2.1 a j (by omega), fC, st_no (by omega)]) (by rw [hA.2.2.1 _ _ (by omega), fC, st_same, ev]) ?_
                have z := hA.2.2.2
                rw [fC, st_no (by omega)] at z
                omega
              · have nl : T 0 16 ≤ y48 := Int32.le_iff_toInt_le.mpr (by
                  rw [ey48]
                  rcases nr with ⟨z, _⟩ | ⟨z, _⟩
                  · rw [z]; omega
                  · omega)
                rw [if_neg (show ¬ T9 0 9 < T 0 16 from fun q => d4 (tq_lt rfl rfl q)), if_pos nl]
                unfold fJ_X3_readPiece_J176
                rw [ex0, wrE]
                exact E2_p2l (E2_pl rfl (ln_fail k9.2.2.2.1 (by decide) k27))
            · rw [if_neg (show ¬ T9 0 8 = 3 from fun q => d3 (by rw [q]; decide)), if_neg (show ¬ K7 0 1 = 42 from fun q => d3 (kn.mp (by rw [q]; decide)))]
              exact fin K7 T9 (-1) k9 k27 (fun _ _ _ => rfl) v33 pr9.1
    · rw [if_neg (show ¬ T2 0 8 = 2 from fun q => d1 (by rw [q]; decide))]
      refine E2_any (fun r11 => ?_)
      rw [if_neg (show ¬ K2 0 1 = 43 from fun q => d1 (kk.mp (by rw [q]; decide)))]
      unfold fJ_X3_readPiece_J69
      rw [ex0, wrE]
      exact E2_p2l (E2_pl rfl (ln_fail k2.2.2.2.1 (by decide) k2f))
-- 62.y.f5
/-! how many bits: as numbers -/
theorem and256 {a b c d : Nat} (ha : a < 256) (hc : c < 256) : (a + 256 * b) &&& (c + 256 * d) = (a &&& c) + 256 * (b &&& d) := by
  have m : ((a + 256 * b) &&& (c + 256 * d)) % 256 = a &&& c := by
    have := Nat.and_mod_two_pow (a := a + 256 * b) (b := c + 256 * d) (n := 8)
    rw [show 2 ^ 8 = 256 from rfl] at this
    rw [this, show (a + 256 * b) % 256 = a by omega, show (c + 256 * d) % 256 = c by omega]
  have q : ((a + 256 * b) &&& (c + 256 * d)) / 256 = b &&& d := by
    have := Nat.and_div_two_pow (a := a + 256 * b) (b := c + 256 * d) (n := 8)
    rw [show 2 ^ 8 = 256 from rfl] at this
    rw [this, show (a + 256 * b) / 256 = b by omega, show (c + 256 * d) / 256 = d by omega]
  have := Nat.div_add_mod ((a + 256 * b) &&& (c + 256 * d)) 256
  rw [m, q] at this
  omega
def pA1 (a : Nat) : Nat := a - ((a / 2) &&& 85)
def pA2 (a : Nat) : Nat := (pA1 a &&& 51) + ((pA1 a / 4) &&& 51)
def pA3 (a : Nat) : Nat := (pA2 a + pA2 a / 16) % 16
def pM1 (m : Nat) : Nat := m - ((m / 2) &&& 5592405)
def pM2 (m : Nat) : Nat := (pM1 m &&& 3355443) + ((pM1 m / 4) &&& 3355443)
def pM3 (m : Nat) : Nat := (pM2 m + pM2 m / 16) &&& 986895
def pH (m : Nat) : Nat := pM3 m % 256 + pM3 m / 256
def pc1 (n : Nat) : Nat := n - ((n / 2) &&& 1431655765)
def pc2 (n : Nat) : Nat := (pc1 n &&& 858993459) + ((pc1 n / 4) &&& 858993459)
def pc3 (n : Nat) : Nat := (pc2 n + pc2 n / 16) &&& 252645135
def pc4 (n : Nat) : Nat := pc3 n + pc3 n / 256
def pc5 (n : Nat) : Nat := pc4 n + pc4 n / 65536
theorem pA_0 : ∀ x, x < 16 → ∀ y, y < 16 → ∀ e, e < 2 → ((x + 16 * y) / 2 + 128 * e) &&& 85 = ((x + 16 * y) / 2) &&& 85 := by decide +kernel
theorem pA_1 : ∀ x, x < 16 → ∀ y, y < 16 → pA1 (x + 16 * y) < 256 ∧ ((x + 16 * y) / 2) &&& 85 ≤ x + 16 * y ∧ pA2 (x + 16 * y) ≤ 68 ∧ pA3 (x + 16 * y) ≤ 8 := by decide +kernel
theorem pA_2 : ∀ x, x < 16 → ∀ y, y < 16 → ∀ e, e < 4 → (pA1 (x + 16 * y) / 4 + 64 * e) &&& 51 = (pA1 (x + 16 * y) / 4) &&& 51 := by decide +kernel
theorem pM_1 : ∀ x, x < 64 → ∀ y, y < 64 → (((x + 64 * y) / 2) &&& 5592405) ≤ x + 64 * y ∧ pM2 (x + 64 * y) % 16 ≤ 4 ∧ pM3 (x + 64 * y) % 256 ≤ 8 ∧ pM3 (x + 64 * y) / 256 ≤ 8 ∧ pM2 (x + 64 * y) < 65536 ∧ pM1 (x + 64 * y) < 65536 := by decide +kernel
theorem pA_s : ∀ x, x < 16 → ∀ y, y < 16 → ∀ t, t < 8 → (x + 16 * y) / 2 ^ t % 2 = 0 → pA3 (x + 16 * y + 2 ^ t) = pA3 (x + 16 * y) + 1 ∧ x + 16 * y + 2 ^ t < 256 := by decide +kernel
theorem pM_s : ∀ x, x < 64 → ∀ y, y < 64 → ∀ t, t < 12 → (x + 64 * y) / 2 ^ t % 2 = 0 → pH (x + 64 * y + 2 ^ t) = pH (x + 64 * y) + 1 ∧ x + 64 * y + 2 ^ t < 4096 := by decide +kernel
theorem sp16 {a : Nat} (h : a < 256) : ∃ x y, x < 16 ∧ y < 16 ∧ a = x + 16 * y := ⟨a % 16, a / 16, by omega, by omega, by omega⟩
theorem sp64 {a : Nat} (h : a < 4096) : ∃ x y, x < 64 ∧ y < 64 ∧ a = x + 64 * y := ⟨a % 64, a / 64, by omega, by omega, by omega⟩
theorem pc_sp {a m : Nat} (ha : a < 256) (hm : m < 4096) : pc1 (a + 256 * m) = pA1 a + 256 * pM1 m ∧ pc2 (a + 256 * m) = pA2 a + 256 * pM2 m ∧ pc3 (a + 256 * m) = pA3 a + 256 * pM3 m ∧ pc5 (a + 256 * m) &&& 63 = pA3 a + pH m := by
  obtain ⟨x, y, hx, hy, rfl⟩ := sp16 ha
  obtain ⟨u, v, hu, hv, rfl⟩ := sp64 hm
  have a1 := pA_1 x hx y hy
  have m1 := pM_1 u hu v hv
  have a0 := pA_0 x hx y hy ((u + 64 * v) % 2) (by omega)
  have a2 := pA_2 x hx y hy (pM1 (u + 64 * v) % 4) (by omega)
  generalize x + 16 * y = a at *
  generalize u + 64 * v = m at *
  have e1 : pc1 (a + 256 * m) = pA1 a + 256 * pM1 m := by
    have z : ((a + 256 * m) / 2) &&& 1431655765 = ((a / 2) &&& 85) + 256 * ((m / 2) &&& 5592405) := by
      rw [show (a + 256 * m) / 2 = (a / 2 + 128 * (m % 2)) + 256 * (m / 2) by omega, show 1431655765 = 85 + 256 * 5592405 by omega, and256 (by omega) (by omega), a0]
    unfold pc1 pA1 pM1
    rw [z]
    omega
  have e2 : pc2 (a + 256 * m) = pA2 a + 256 * pM2 m := by
    have z : ((pA1 a + 256 * pM1 m) / 4) &&& 858993459 = ((pA1 a / 4) &&& 51) + 256 * ((pM1 m / 4) &&& 3355443) := by
      rw [show (pA1 a + 256 * pM1 m) / 4 = (pA1 a / 4 + 64 * (pM1 m % 4)) + 256 * (pM1 m / 4) by omega, show 858993459 = 51 + 256 * 3355443 by omega, and256 (by omega) (by omega), a2]
    have w : (pA1 a + 256 * pM1 m) &&& 858993459 = (pA1 a &&& 51) + 256 * (pM1 m &&& 3355443) := by
      rw [show 858993459 = 51 + 256 * 3355443 by omega, and256 (by omega) (by omega)]
    unfold pc2 pA2 pM2
    rw [e1, z, w]
    omega
  have e3 : pc3 (a + 256 * m) = pA3 a + 256 * pM3 m := by
    unfold pc3
    rw [e2, show pA2 a + 256 * pM2 m + (pA2 a + 256 * pM2 m) / 16 = (pA2 a + pA2 a / 16 + 16 * (pM2 m % 16)) + 256 * (pM2 m + pM2 m / 16) by omega, show 252645135 = 15 + 256 * 986895 by omega, and256 (by omega) (by omega)]
    have z : (pA2 a + pA2 a / 16 + 16 * (pM2 m % 16)) &&& 15 = pA3 a := by
      have := Nat.and_two_pow_sub_one_eq_mod (pA2 a + pA2 a / 16 + 16 * (pM2 m % 16)) 4
      rw [show 2 ^ 4 - 1 = 15 from rfl, show 2 ^ 4 = 16 from rfl] at this
      rw [this]
      unfold pA3
      omega
    rw [z]
    rfl
  refine ⟨e1, e2, e3, ?_⟩
  have := Nat.and_two_pow_sub_one_eq_mod (pc5 (a + 256 * m)) 6
  rw [show 2 ^ 6 - 1 = 63 from rfl, show 2 ^ 6 = 64 from rfl] at this
  rw [this]
  unfold pc5 pc4 pH
  rw [e3]
  obtain ⟨p0, p1, hp, h0, h1⟩ : ∃ p0 p1, pM3 m = p0 + 256 * p1 ∧ p0 ≤ 8 ∧ p1 ≤ 8 := ⟨pM3 m % 256, pM3 m / 256, by omega, by omega, by omega⟩
  have hA : pA3 a ≤ 8 := by omega
  rw [hp]
  generalize pA3 a = A at hA ⊢
  rw [show (A + 256 * (p0 + 256 * p1)) / 256 = p0 + 256 * p1 by omega, show (A + 256 * (p0 + 256 * p1) + (p0 + 256 * p1)) / 65536 = p1 by omega, show A + 256 * (p0 + 256 * p1) + (p0 + 256 * p1) + p1 = (A + p0 + p1) + 64 * (4 * p0 + 1028 * p1) by omega, Nat.add_mul_mod_self_left, Nat.mod_eq_of_lt (by omega), show (p0 + 256 * p1) % 256 = p0 by omega, show (p0 + 256 * p1) / 256 = p1 by omega]
  omega
/-- a bit more -/
theorem pc_set {n t : Nat} (hn : n < 1048576) (ht : t < 20) (hb : n / 2 ^ t % 2 = 0) : pc5 (n + 2 ^ t) &&& 63 = (pc5 n &&& 63) + 1 ∧ n + 2 ^ t < 1048576 := by
  obtain ⟨a, m, ha, hm, rfl⟩ : ∃ a m, a < 256 ∧ m < 4096 ∧ n = a + 256 * m := ⟨n % 256, n / 256, by omega, by omega, by omega⟩
  rw [(pc_sp ha hm).2.2.2]
  by_cases c : t < 8
  · obtain ⟨x, y, hx, hy, rfl⟩ := sp16 ha
    have hb2 : (x + 16 * y) / 2 ^ t % 2 = 0 := by
      rcases (by omega : t = 0 ∨ t = 1 ∨ t = 2 ∨ t = 3 ∨ t = 4 ∨ t = 5 ∨ t = 6 ∨ t = 7) with rfl | rfl | rfl | rfl | rfl | rfl | rfl | rfl <;> omega
    obtain ⟨s1, s2⟩ := pA_s x hx y hy t c hb2
    rw [show x + 16 * y + 256 * m + 2 ^ t = (x + 16 * y + 2 ^ t) + 256 * m by omega, (pc_sp s2 hm).2.2.2, s1]
    omega
  · obtain ⟨u, v, hu, hv, rfl⟩ := sp64 hm
    obtain ⟨s, rfl⟩ : ∃ s, t = 8 + s := ⟨t - 8, by omega⟩
    have h8 : 2 ^ (8 + s) = 256 * 2 ^ s := by rw [Nat.pow_add]
    have hb2 : (u + 64 * v) / 2 ^ s % 2 = 0 := by
      rw [h8, ← Nat.div_div_eq_div_mul, show (a + 256 * (u + 64 * v)) / 256 = u + 64 * v by omega] at hb
      exact hb
    obtain ⟨s1, s2⟩ := pM_s u hu v hv s (by omega) hb2
    rw [h8, show a + 256 * (u + 64 * v) + 256 * 2 ^ s = a + 256 * (u + 64 * v + 2 ^ s) by omega, (pc_sp ha s2).2.2.2, s1]
    omega
/-! and as the machine has it -/
theorem nn_of {x : Int32} {n : Nat} (h : x.toBitVec.toNat = n) (hn : n < 2147483648) : x.toInt = n := i_of h hn
theorem sr_n {x : Int32} {k : Nat} {s : UInt32} (hs : s.toBitVec % 32 = BitVec.ofNat 32 k) (hk : k < 32) : ((x.toUInt32 >>> s).toInt32).toBitVec.toNat = x.toBitVec.toNat / 2 ^ k := by
  have : ((x.toUInt32 >>> s).toInt32).toBitVec = x.toBitVec >>> (s.toBitVec % 32) := rfl
  rw [this, hs, BitVec.ushiftRight_eq', BitVec.toNat_ushiftRight, BitVec.toNat_ofNat, Nat.mod_eq_of_lt (show k < 2 ^ 32 by omega), Nat.shiftRight_eq_div_pow]
theorem an_n {x y : Int32} : (x &&& y).toBitVec.toNat = x.toBitVec.toNat &&& y.toBitVec.toNat := by rw [Int32.toBitVec_and, BitVec.toNat_and]
theorem ad_n {x y : Int32} (h : x.toBitVec.toNat + y.toBitVec.toNat < 4294967296) : (x + y).toBitVec.toNat = x.toBitVec.toNat + y.toBitVec.toNat := by
  rw [Int32.toBitVec_add, BitVec.toNat_add, Nat.mod_eq_of_lt h]
theorem su_n {x y : Int32} (h : y.toBitVec.toNat ≤ x.toBitVec.toNat) : (x - y).toBitVec.toNat = x.toBitVec.toNat - y.toBitVec.toNat := by
  rw [Int32.toBitVec_sub, BitVec.toNat_sub_of_le (BitVec.le_def.mpr h)]
theorem bc_n {x : Int32} {n : Nat} (h : x.toInt = n) (hn : n < 1048576) : bcN x = ((pc5 n &&& 63 : Nat) : Int) ∧ ∃ r, f_J6_bitCount_0f7a4 x = some r ∧ r.toInt = bcN x := by
  have hx : x.toBitVec.toNat = n := by have := i_nn (x := x) (by omega); omega
  obtain ⟨a, m, ha, hm, rfl⟩ : ∃ a m, a < 256 ∧ m < 4096 ∧ n = a + 256 * m := ⟨n % 256, n / 256, by omega, by omega, by omega⟩
  obtain ⟨s1, s2, s3, s4⟩ := pc_sp ha hm
  obtain ⟨b1, b2, b3⟩ : pc1 (a + 256 * m) < 16777216 ∧ pc2 (a + 256 * m) < 16777216 ∧ pc3 (a + 256 * m) < 16777216 := by
    obtain ⟨x0, y0, hx0, hy0, e0⟩ := sp16 ha
    obtain ⟨u, v, hu, hv, e1⟩ := sp64 hm
    have a1 := pA_1 x0 hx0 y0 hy0
    have m1 := pM_1 u hu v hv
    rw [← e0] at a1
    rw [← e1] at m1
    rw [s1, s2, s3]
    omega
  generalize a + 256 * m = n at *
  have key : ∀ y1 y2 y3 y4 y5 : Int32, y1 = (x - (((x.toUInt32 >>> ((1 : Int32).toUInt32 &&& Int32.toUInt32 31)).toInt32) &&& 1431655765)) → y2 = ((y1 &&& 858993459) + (((y1.toUInt32 >>> ((2 : Int32).toUInt32 &&& Int32.toUInt32 31)).toInt32) &&& 858993459)) → y3 = ((y2 + ((y2.toUInt32 >>> ((4 : Int32).toUInt32 &&& Int32.toUInt32 31)).toInt32)) &&& 252645135) → y4 = (y3 + ((y3.toUInt32 >>> ((8 : Int32).toUInt32 &&& Int32.toUInt32 31)).toInt32)) → y5 = (y4 + ((y4.toUInt32 >>> ((16 : Int32).toUInt32 &&& Int32.toUInt32 31)).toInt32)) → (y5 &&& 63).toInt = ((pc5 n &&& 63 : Nat) : Int) := by
    intro y1 y2 y3 y4 y5 e1 e2 e3 e4 e5
    have n1 : y1.toBitVec.toNat = pc1 n := by
      have z : (((x.toUInt32 >>> ((1 : Int32).toUInt32 &&& Int32.toUInt32 31)).toInt32) &&& 1431655765).toBitVec.toNat = (n / 2) &&& 1431655765 := by
        rw [an_n, sr_n (k := 1) (by decide) (by omega), hx]; rfl
      have zl : (n / 2) &&& 1431655765 ≤ n / 2 := Nat.and_le_left
      rw [e1, su_n (by rw [z, hx]; omega), z, hx]; rfl
    have n2 : y2.toBitVec.toNat = pc2 n := by
      have z : (((y1.toUInt32 >>> ((2 : Int32).toUInt32 &&& Int32.toUInt32 31)).toInt32) &&& 858993459).toBitVec.toNat = (pc1 n / 4) &&& 858993459 := by
        rw [an_n, sr_n (k := 2) (by decide) (by omega), n1]; rfl
      have w : (y1 &&& 858993459).toBitVec.toNat = pc1 n &&& 858993459 := by rw [an_n, n1]; rfl
      have zl : (pc1 n / 4) &&& 858993459 ≤ pc1 n / 4 := Nat.and_le_left
      have wl : pc1 n &&& 858993459 ≤ pc1 n := Nat.and_le_left
      rw [e2, ad_n (by rw [z, w]; omega), z, w]; rfl
    have n3 : y3.toBitVec.toNat = pc3 n := by
      have z : ((y2.toUInt32 >>> ((4 : Int32).toUInt32 &&& Int32.toUInt32 31)).toInt32).toBitVec.toNat = pc2 n / 16 := by
        rw [sr_n (k := 4) (by decide) (by omega), n2]
      rw [e3, an_n, ad_n (by rw [z, n2]; omega), z, n2]; rfl
    have n4 : y4.toBitVec.toNat = pc4 n := by
      have z : ((y3.toUInt32 >>> ((8 : Int32).toUInt32 &&& Int32.toUInt32 31)).toInt32).toBitVec.toNat = pc3 n / 256 := by
        rw [sr_n (k := 8) (by decide) (by omega), n3]
      rw [e4, ad_n (by rw [z, n3]; omega), z, n3]; rfl
    have b4 : pc4 n < 33554432 := by unfold pc4; omega
    have n5 : y5.toBitVec.toNat = pc5 n := by
      have z : ((y4.toUInt32 >>> ((16 : Int32).toUInt32 &&& Int32.toUInt32 31)).toInt32).toBitVec.toNat = pc4 n / 65536 := by
        rw [sr_n (k := 16) (by decide) (by omega), n4]
      rw [e5, ad_n (by rw [z, n4]; omega), z, n4]; rfl
    have wl : pc5 n &&& 63 ≤ 63 := Nat.and_le_right
    exact nn_of (by rw [an_n, n5]; rfl) (by omega)
  have k := key _ _ _ _ _ rfl rfl rfl rfl rfl
  exact ⟨k, _, rfl, rfl⟩
-- 62.y.f6
/-! a line of a wait -/
theorem sa_n {x s : Int32} {k : Nat} (hx : 0 ≤ x.toInt) (hs : s.toBitVec.smod 32 = BitVec.ofNat 32 k) (hk : k < 32) : (x >>> s).toBitVec.toNat = x.toBitVec.toNat / 2 ^ k := by
  obtain ⟨e1, e2⟩ := i_nn hx
  have hm : x.toBitVec.msb = false := by
    rw [BitVec.msb_eq_decide]
    exact decide_eq_false (by show ¬ 2147483648 ≤ _; omega)
  rw [Int32.toBitVec_shiftRight, hs, BitVec.sshiftRight_eq', BitVec.toNat_ofNat, Nat.mod_eq_of_lt (show k < 2 ^ 32 by omega), BitVec.toNat_sshiftRight_of_msb_false hm, Nat.shiftRight_eq_div_pow]
theorem sm_t {t : Nat} (ht : t < 20) : ((Int32.ofNat t) &&& 31).toBitVec.smod 32 = BitVec.ofNat 32 t := by
  have : ∀ t : Fin 20, ((Int32.ofNat t.val) &&& 31).toBitVec.smod 32 = BitVec.ofNat 32 t.val := by decide
  exact this ⟨t, ht⟩
theorem bit_n {x : Int32} {n t : Nat} (h : x.toInt = n) (ht : t < 20) : ((x >>> ((Int32.ofNat t) &&& 31)) &&& 1 = 0) ↔ n / 2 ^ t % 2 = 0 := by
  have hx : x.toBitVec.toNat = n := by have := i_nn (x := x) (by omega); omega
  have e : ((x >>> ((Int32.ofNat t) &&& 31)) &&& 1).toBitVec.toNat = n / 2 ^ t % 2 := by
    rw [an_n, sa_n (by omega) (sm_t ht) (by omega), hx]
    exact Nat.and_one_is_mod _
  constructor
  · intro g
    rw [g] at e
    exact e.symm
  · intro g
    apply Int32.toBitVec_inj.mp
    apply BitVec.eq_of_toNat_eq
    rw [e, g]; rfl
theorem one_t {t : Nat} (ht : t < 20) : ((1 : Int32) <<< ((Int32.ofNat t) &&& 31)).toBitVec = BitVec.twoPow 32 t := by
  have : ∀ t : Fin 20, ((1 : Int32) <<< ((Int32.ofNat t.val) &&& 31)).toBitVec = BitVec.twoPow 32 t.val := by decide
  exact this ⟨t, ht⟩
theorem tp_n {t : Nat} (ht : t < 20) : (BitVec.twoPow 32 t).toNat = 2 ^ t := by
  have : ∀ t : Fin 20, (BitVec.twoPow 32 t.val).toNat = 2 ^ t.val := by decide
  exact this ⟨t, ht⟩
theorem tp_b {t : Nat} (ht : t < 20) : 2 ^ t < 1048576 := by
  have : ∀ t : Fin 20, 2 ^ t.val < 1048576 := by decide
  exact this ⟨t, ht⟩
theorem bit_set {x : Int32} {n t : Nat} (h : x.toInt = n) (hn : n < 1048576) (ht : t < 20) (hb : n / 2 ^ t % 2 = 0) : (x ||| ((1 : Int32) <<< ((Int32.ofNat t) &&& 31))).toInt = ((n + 2 ^ t : Nat) : Int) ∧ ∀ u, u < 20 → ((n + 2 ^ t) / 2 ^ u % 2 = 0 ↔ (u ≠ t ∧ n / 2 ^ u % 2 = 0)) := by
  have hx : x.toBitVec.toNat = n := by have := i_nn (x := x) (by omega); omega
  have hz : x.toBitVec &&& BitVec.twoPow 32 t = 0#32 := by
    rw [BitVec.and_twoPow]
    have : x.toBitVec.getLsbD t = false := by
      show x.toBitVec.toNat.testBit t = false
      rw [hx, Nat.testBit_eq_decide_div_mod_eq]
      exact decide_eq_false (by omega)
    rw [this]; rfl
  have ho := BitVec.add_eq_or_of_and_eq_zero _ _ hz
  have tb := tp_b ht
  have e : n ||| 2 ^ t = n + 2 ^ t := by
    have z := congrArg BitVec.toNat ho
    rw [BitVec.toNat_add, BitVec.toNat_or, hx, tp_n ht, Nat.mod_eq_of_lt (by omega)] at z
    exact z.symm
  constructor
  · refine i_of ?_ (by omega)
    rw [Int32.toBitVec_or, one_t ht, BitVec.toNat_or, hx, tp_n ht, e]
  · intro u hu
    have z : (n ||| 2 ^ t).testBit u = (n.testBit u || (2 ^ t).testBit u) := Nat.testBit_or _ _ _
    rw [e, Nat.testBit_two_pow, Nat.testBit_eq_decide_div_mod_eq, Nat.testBit_eq_decide_div_mod_eq] at z
    by_cases c : t = u
    · subst c
      simp at z
      constructor
      · intro g; omega
      · intro g; exact absurd rfl g.1
    · simp [c] at z
      constructor
      · intro g; exact ⟨fun q => c q.symm, by omega⟩
      · intro g; omega
theorem of_t {x : Int32} {t : Nat} (h : x.toInt = t) (ht : t < 100) : x = Int32.ofNat t := i_z (by rw [h, Int32.toInt_ofNat_of_lt (by omega)])
theorem nm_yes {T : Tr} {lo hi : Int32} (h8 : T 0 8 = 3) (h1 : lo.toInt ≤ (T 0 9).toInt) (h2 : (T 0 9).toInt ≤ hi.toInt) : f_X8_number T lo hi = bd (f_X8_token (st T 0 11 (T 0 9))) fun S7 => some (1, S7) := by
  unfold f_X8_number f_X8_isIn
  rw [if_pos h8, if_neg (fun q => by have := tq_lt rfl rfl q; omega), if_neg (fun q => by have := tq_lt rfl rfl q; omega)]
  rfl
theorem nm_no2 {T : Tr} {lo hi : Int32} (h8 : T 0 8 = 3) (h : ¬ (lo.toInt ≤ (T 0 9).toInt ∧ (T 0 9).toInt ≤ hi.toInt)) : f_X8_number T lo hi = some (0, st (st T 0 4 2) 0 5 (T 0 10)) := by
  unfold f_X8_number f_X8_isIn
  rw [if_pos h8, wrE]
  by_cases c : T 0 9 < lo
  · rw [if_pos c]; rfl
  · have := tq_ltn rfl rfl c
    rw [if_neg c, if_pos (Int32.lt_iff_toInt_lt.mpr (by omega))]; rfl
theorem nm_no1 {T : Tr} {lo hi : Int32} (h8 : ¬ T 0 8 = 3) : f_X8_number T lo hi = some (0, st (st T 0 4 1) 0 5 (T 0 10)) := by
  unfold f_X8_number
  rw [if_neg h8, wrE]
theorem nar1 : vp_nar .boolean 1 = 1 := rfl
theorem nar0 : vp_nar .boolean 0 = 0 := rfl
theorem e_wait {K R P T : Tr} (h : tkS K T) (hr : RD R P T) (h0 : R 0 1 = 0) : E2 (f_X3_readWait K R P) (f_X8_waitLine T) (lnQ K R T) := by
  unfold f_X3_readWait f_X8_waitLine
  obtain ⟨g1, g2, g3, g4, g5, g6⟩ := hr
  obtain ⟨w0, w1, w2, w3, w4⟩ := g4
  obtain ⟨nb, hnb⟩ : ∃ n : Nat, (R 0 6).toInt = n := ⟨(R 0 6).toInt.toNat, by omega⟩
  obtain ⟨bc1, rb, er1, er2⟩ := bc_n hnb (by omega)
  rw [er1]
  rw [w1] at er2
  refine E2_sl ?_
  by_cases c : (T 0 20).toInt = 10
  · rw [if_pos (show T 0 20 = 10 from i_z (by rw [c]; decide)), if_pos (show 10 ≤ rb from Int32.le_iff_toInt_le.mpr (by rw [er2, c]; decide))]
    unfold fJ_X3_readWait_J18
    rw [ex0, wrE]
    exact E2_p2l (E2_pl rfl (ln_fail h.2.2.2.1 (by decide) frK_r))
  · rw [if_neg (show ¬ T 0 20 = 10 from fun q => c (by rw [q]; decide)), if_neg (show ¬ 10 ≤ rb from fun q => by have := tq_le (a := 10) (by decide) er2 q; omega)]
    unfold fJ_X3_readWait_J18
    rw [ex1]
    refine E2_p2l (E2_ql (by decide) (E2_bd (e_advS h) (fun K2 T2 h2 => E2_ltl (fun x1 ex => E2_ltr (fun y5 e5 => ?_)))))
    obtain ⟨k2, k2f, t2f, k2p⟩ := h2
    have kk := k_num k2.2.2.2.2.1
    have t2r : ∀ a j, ¬ (a = 0 ∧ 7 ≤ j ∧ j ≤ 10) → T2 a j = T a j := t2f
    by_cases d1 : (T2 0 8).toInt = 3
    · have d8 : T2 0 8 = 3 := i_z (by rw [d1]; decide)
      rw [if_pos (show K2 0 1 = 42 from i_z (by rw [kk.mpr d1]; decide))]
      unfold fJ_X3_readWait_J60
      rw [ex1]
      refine E2_p2l (E2_ql (by decide) ?_)
      have nr := k2.2.2.2.2.2.2.1 d1
      unfold fJ_X3_readWait_J79
      by_cases d2 : (T2 0 9).toInt ≤ 19
      · have ev : x1 = T2 0 9 := by
          rcases nr with ⟨z, _⟩ | ⟨_, _, z, _⟩
          · rw [ex]; exact z
          · omega
        have nn : 0 ≤ (T2 0 9).toInt := by
          rcases nr with ⟨_, z, _⟩ | ⟨_, _, z, _⟩ <;> omega
        obtain ⟨t, ht⟩ : ∃ t : Nat, x1.toInt = t := ⟨x1.toInt.toNat, by rw [ev]; omega⟩
        have ht9 : (T2 0 9).toInt = t := by rw [← ev]; exact ht
        have t20 : t < 20 := by omega
        have et := of_t ht (by omega)
        rw [if_neg (show ¬ 20 ≤ x1 from fun q => by have := tq_le (a := 20) (by decide) ht q; omega), ex1, nm_yes d8 (by show (0 : Int) ≤ _; omega) (by show _ ≤ (19 : Int); exact d2), bd_bd]
        refine E2_p2l (E2_ql (by decide) ?_)
        unfold fJ_X3_readWait_J103
        have k3 : tkS K2 (st T2 0 11 (T2 0 9)) := tkS_st k2 (by omega)
        have hbit := w3 t t20
        rw [← et] at hbit
        have v11 : ∀ S7, frT (st T2 0 11 (T2 0 9)) S7 → S7 0 11 = x1 ∧ S7 35 t = T 35 t := fun S7 f => by
          rw [f 0 11 (by omega), st_same, f 35 t (by omega), st_no (by omega), t2r 35 t (by omega)]
          exact ⟨ev.symm, rfl⟩
        by_cases d3 : T 35 t = 0
        · rw [if_pos (hbit.mp d3), ex1]
          refine E2_p2l (E2_ql (by decide) (E2_bd (e_advS k3) (fun K4 T4 h4 => ?_)))
          obtain ⟨k4, k4f, t4f, k4p⟩ := h4
          obtain ⟨v1, v2⟩ := v11 T4 t4f
          refine E2_sr (E2_v2r (E2_qr (by decide) (E2_ltr (fun y11 e11 => E2_ckr (fun _ => ?_)))))
          rw [v1] at e11
          have c11 : y11.toNatClampNeg = t := i_cn (by rw [e11]; exact ht)
          rw [c11, v2]
          refine E2_pr d3 (E2_ltr (fun T5 f5 => ?_))
          have k5 : tkS K4 T5 := by rw [f5]; exact tkS_st k4 (by omega)
          have k24 := frK_t k2f k4f
          refine E2_bd (e_nq k5 (lo := 0) (hi := 999) (by decide) (by decide)) (fun q q' hq => ?_)
          obtain ⟨r1, K6, R6⟩ := q
          obtain ⟨r1', T6⟩ := q'
          refine E2_v3l (E2_v2r ?_)
          rcases nq_cs hq (by decide : (0 : Int32).toInt = 0) (by decide : (999 : Int32).toInt = 999) with ⟨rfl, rfl, q3, q4⟩ | ⟨rfl, q2, q3, q4, q5, rfl, q7, q8, q9⟩
          · exact E2_ql (by decide) (E2_pr rfl (E2_some (Or.inl ⟨rfl, rfl, q3, frK_t k24 q4⟩)))
          · refine E2_pl (Int32.le_iff_toInt_le.mpr (by show (0 : Int) ≤ _; omega)) (E2_qr (by decide) (E2_ltl (fun R7 e7 => E2_ckl (fun _ => E2_ltl (fun P7 p7 => E2_ckr (fun _ => E2_ltr (fun T7 f7 => E2_ltr (fun T8 f8 => E2_some ?_))))))))
            have c21 : ((21 : Int32) + y11).toNatClampNeg = 21 + t := i_cn (by rw [i_addK (x := 21) (y := t) (by decide) (by rw [e11]; exact ht) (by omega) (by omega)]; omega)
            rw [c21] at f7
            rw [i_cn ht] at p7
            have fr : ∀ a j, ¬ ((a = 0 ∧ (4 ≤ j ∧ j ≤ 11 ∨ j = 20)) ∨ a = 34 ∨ a = 35) → T8 a j = T a j := fun a j hn => by
              rw [f8, st_no (by omega), f7, st_no (by omega), q8 a j (by omega), f5, st_no (by omega), t4f a j (by omega), st_no (by omega), t2r a j (by omega)]
            have frP : ∀ a j, ¬ (a = 18) → P7 a j = P a j := fun a j hn => by rw [p7, st_no (by omega)]
            have s20 : T8 0 20 = T 0 20 + 1 := by rw [f8, st_same, f7, st_no (by omega), q8 0 20 (by omega), f5, st_no (by omega), t4f 0 20 (by omega), st_no (by omega), t2r 0 20 (by omega)]
            have s20i : (T8 0 20).toInt = (T 0 20).toInt + 1 := by rw [s20]; exact i_addK rfl (by decide) (by omega) (by omega)
            have hb0 : nb / 2 ^ t % 2 = 0 := (bit_n hnb t20).mp (by rw [← et]; exact hbit.mp d3)
            obtain ⟨b1, b2⟩ := bit_set hnb (by omega) t20 hb0
            obtain ⟨b3, b4⟩ := pc_set (n := nb) (by omega) t20 hb0
            have r6 : (R7 0 6).toInt = ((nb + 2 ^ t : Nat) : Int) := by rw [e7, st_same, et]; exact b1
            have r6c := (bc_n r6 b4).1
            refine Or.inr ⟨rfl, rfl, ?_, ⟨?_, ?_, ?_, ⟨?_, ?_, ?_, fun u hu => ?_, fun u hu => ?_⟩, ?_, ?_⟩, ?_, ?_, frK_t k24 q7, ?_⟩
            · show tkS K6 T8
              rw [f8, f7]; exact tkS_st (tkS_st q5 (by omega)) (by omega)
            · exact rPl_of g1 (fun a j g => frP a j (by omega)) (fun a j g => fr a j (by omega))
            · exact rPe_of g2 (fun a j g => frP a j (by omega)) (fun a j g => fr a j (by omega))
            · exact rPi_of g3 (fun a j g => frP a j (by omega)) (fun a j g => fr a j (by omega))
            · show 0 ≤ (R7 0 6).toInt ∧ (R7 0 6).toInt < 1048576
              rw [r6]
              clear b3 r6c r6 b2 b1
              generalize nb + 2 ^ t = z at b4 ⊢
              omega
            · show bcN (R7 0 6) = (T8 0 20).toInt
              rw [r6c, b3, s20i, ← w1, bc1]; omega
            · show 0 ≤ (T8 0 20).toInt ∧ (T8 0 20).toInt ≤ 10
              omega
            · show T8 35 u = 0 ↔ ((R7 0 6) >>> ((Int32.ofNat u) &&& 31)) &&& 1 = 0
              rw [bit_n r6 hu, b2 u hu]
              have e8 : T8 35 u = T5 35 u := by rw [f8, st_no (by omega), f7, st_no (by omega), q8 35 u (by omega)]
              rw [e8, f5]
              by_cases c : u = t
              · subst c
                rw [st_same, nar1]
                constructor
                · intro g; exact absurd g (by decide)
                · intro g; exact absurd rfl g.1
              · rw [st_no (by omega), t4f 35 u (by omega), st_no (by omega), t2r 35 u (by omega), w3 u hu, bit_n hnb hu]
                exact ⟨fun g => ⟨c, g⟩, fun g => g.2⟩
            · show P7 18 u = T8 34 (21 + u)
              by_cases c : u = t
              · subst c
                rw [p7, st_same, f8, st_no (by omega), f7, st_same, q4]
              · rw [p7, st_no (by omega), f8, st_no (by omega), f7, st_no (by omega), q8 34 _ (by omega), f5, st_no (by omega), t4f 34 _ (by omega), st_no (by omega), t2r 34 _ (by omega)]
                exact w4 u hu
            · exact rO_of g5 (by show R7 0 5 = _; rw [e7, st_no (by omega)]) (fun j _ _ => frP 0 j (by omega)) (fun a j g => fr a j (by omega))
            · exact rL_of g6 (fun a j g => frP a j (by omega)) (fun a j g => fr a j (by omega))
            · show R7 0 1 = 0
              rw [e7, st_no (by omega)]; exact h0
            · show R7 0 3 = _
              rw [e7, st_no (by omega)]
            · show (T 0 7).toInt ≤ (T8 0 10).toInt
              have x1 := tk_on k2
              have x2 := tk_on k4
              rw [st_no (by omega)] at k4p
              have y2 : T5 0 7 = T4 0 7 := by rw [f5, st_no (by omega)]
              rw [y2] at q9
              rw [f8, st_no (by omega), f7, st_no (by omega)]
              omega
        · rw [if_neg (fun q => d3 (hbit.mpr q)), ex0]
          refine E2_p2l (E2_pl rfl (E2_br frT_tok (fun T4 t4f => ?_)))
          obtain ⟨v1, v2⟩ := v11 T4 t4f
          refine E2_sr (E2_v2r (E2_qr (by decide) (E2_ltr (fun y11 e11 => E2_ckr (fun _ => ?_)))))
          rw [v1] at e11
          have c11 : y11.toNatClampNeg = t := i_cn (by rw [e11]; exact ht)
          rw [c11, v2]
          refine E2_qr d3 (E2_ltr (fun T5 f5 => ?_))
          rw [wrE]
          exact ln_fail (by rw [f5, st_same, e5]; exact k2.2.2.2.1) (by decide) k2f
      · have nl : 20 ≤ x1 := Int32.le_iff_toInt_le.mpr (by
          show (20 : Int) ≤ _
          rw [ex]
          rcases nr with ⟨z, _⟩ | ⟨z, _⟩
          · rw [z]; omega
          · omega)
        rw [if_pos nl, ex0, nm_no2 d8 (fun q => d2 (by have := q.2; exact this))]
        exact E2_p2l (E2_pl rfl (E2_p2r (E2_pr rfl (ln_fail k2.2.2.2.1 (by decide) k2f))))
    · rw [if_neg (show ¬ K2 0 1 = 42 from fun q => d1 (kk.mp (by rw [q]; decide))), nm_no1 (fun q => d1 (by rw [q]; decide))]
      unfold fJ_X3_readWait_J60
      rw [ex0]
      exact E2_p2l (E2_pl rfl (E2_p2r (E2_pr rfl (ln_fail k2.2.2.2.1 (by decide) k2f))))
-- 62.y.f7
/-! what stands once; a line with its semicolon -/
theorem v8 {v : Int32} (h : 0 ≤ v.toInt ∧ v.toInt < 8) : v = 0 ∨ v = 1 ∨ v = 2 ∨ v = 3 ∨ v = 4 ∨ v = 5 ∨ v = 6 ∨ v = 7 := by
  rcases (by omega : v.toInt = 0 ∨ v.toInt = 1 ∨ v.toInt = 2 ∨ v.toInt = 3 ∨ v.toInt = 4 ∨ v.toInt = 5 ∨ v.toInt = 6 ∨ v.toInt = 7) with g | g | g | g | g | g | g | g
  · exact Or.inl (i_z (by rw [g]; decide))
  · exact Or.inr (Or.inl (i_z (by rw [g]; decide)))
  · exact Or.inr (Or.inr (Or.inl (i_z (by rw [g]; decide))))
  · exact Or.inr (Or.inr (Or.inr (Or.inl (i_z (by rw [g]; decide)))))
  · exact Or.inr (Or.inr (Or.inr (Or.inr (Or.inl (i_z (by rw [g]; decide))))))
  · exact Or.inr (Or.inr (Or.inr (Or.inr (Or.inr (Or.inl (i_z (by rw [g]; decide)))))))
  · exact Or.inr (Or.inr (Or.inr (Or.inr (Or.inr (Or.inr (Or.inl (i_z (by rw [g]; decide))))))))
  · exact Or.inr (Or.inr (Or.inr (Or.inr (Or.inr (Or.inr (Or.inr (i_z (by rw [g]; decide))))))))
theorem or8 {v : Int32} (h : 0 ≤ v.toInt ∧ v.toInt < 8) : (∀ y : Int32, y = 1 ∨ y = 2 ∨ y = 4 → (0 ≤ (v ||| y).toInt ∧ (v ||| y).toInt < 8) ∧ ((v ||| y) &&& 1 = 0 ↔ (¬ y = 1 ∧ v &&& 1 = 0)) ∧ ((v ||| y) &&& 2 = 0 ↔ (¬ y = 2 ∧ v &&& 2 = 0)) ∧ ((v ||| y) &&& 4 = 0 ↔ (¬ y = 4 ∧ v &&& 4 = 0))) := by
  intro y hy
  rcases v8 h with rfl | rfl | rfl | rfl | rfl | rfl | rfl | rfl <;> rcases hy with rfl | rfl | rfl <;> decide
def onQ (K R P T : Tr) (q : Int32 × Tr × Tr) (q' : Int32 × Tr) : Prop := (q.1 = 0 ∧ q'.1 = 0 ∧ flt q.2.2 q'.2 ∧ frK K q.2.1) ∨ (q.1 = 1 ∧ q'.1 = 1 ∧ tkS q.2.1 q'.2 ∧ RD q.2.2 P q'.2 ∧ q.2.2 0 1 = 0 ∧ q.2.2 0 3 = R 0 3 ∧ frK K q.2.1 ∧ (T 0 7).toInt ≤ (q'.2 0 10).toInt)
theorem e_once {K R P T : Tr} (h : tkS K T) (hr : RD R P T) (h0 : R 0 1 = 0) {k : Nat} (hk : k < 3) (hc : (K 0 1).toInt = 4 + k) {x : Int32} (hx : x.toInt = k) : E2 (f_X3_startOnce K R) (f_X8_isOnce T x) (onQ K R P T) := by
  unfold f_X3_startOnce f_X8_isOnce
  refine E2_ltl (fun y ey => E2_ckr (fun _ => ?_))
  obtain ⟨g1, g2, g3, g4, g5, g6⟩ := hr
  obtain ⟨o0, o1, o2, o3, o4⟩ := g5
  have hy : (k = 0 ∧ y = 1) ∨ (k = 1 ∧ y = 2) ∨ (k = 2 ∧ y = 4) := by
    rcases (by omega : k = 0 ∨ k = 1 ∨ k = 2) with rfl | rfl | rfl
    · left; refine ⟨rfl, ?_⟩; rw [ey, show K 0 1 = 4 from i_z (by rw [hc]; decide)]; decide
    · right; left; refine ⟨rfl, ?_⟩; rw [ey, show K 0 1 = 5 from i_z (by rw [hc]; decide)]; decide
    · right; right; refine ⟨rfl, ?_⟩; rw [ey, show K 0 1 = 6 from i_z (by rw [hc]; decide)]; decide
  rw [i_cn hx]
  have hb : T 22 k = 0 ↔ (R 0 5) &&& y = 0 := by
    rcases hy with ⟨rfl, rfl⟩ | ⟨rfl, rfl⟩ | ⟨rfl, rfl⟩
    · exact o1
    · exact o2
    · exact o3
  by_cases c : T 22 k = 0
  · rw [if_pos c, if_pos (hb.mp c)]
    unfold fJ_X3_startOnce_J27
    rw [ex1, nar1]
    refine E2_p2l (E2_ql (by decide) (E2_ltl (fun R1 e1 => E2_ltr (fun T1 f1 => ?_))))
    have k1 : tkS K T1 := by rw [f1]; exact tkS_st h (by omega)
    refine E2_bd (e_advS k1) (fun K2 T2 h2 => E2_some (Or.inr ?_))
    obtain ⟨k2, k2f, t2f, k2p⟩ := h2
    have fr : ∀ a j, ¬ ((a = 0 ∧ 7 ≤ j ∧ j ≤ 10) ∨ a = 22) → T2 a j = T a j := fun a j hn => by rw [t2f a j (by omega), f1, st_no (by omega)]
    have b := or8 o0 y (by rcases hy with ⟨_, g⟩ | ⟨_, g⟩ | ⟨_, g⟩ <;> simp [g])
    have r5 : R1 0 5 = (R 0 5) ||| y := by rw [e1, st_same]
    have t22 : ∀ i, T2 22 i = 0 ↔ (¬ i = k ∧ T 22 i = 0) := fun i => by
      rw [t2f 22 i (by omega), f1]
      by_cases q : i = k
      · subst q
        rw [st_same]
        exact ⟨fun g => absurd g (by decide), fun g => absurd rfl g.1⟩
      · rw [st_no (by omega)]
        exact ⟨fun g => ⟨q, g⟩, fun g => g.2⟩
    refine ⟨rfl, rfl, k2, ⟨?_, ?_, ?_, ?_, ⟨?_, ?_, ?_, ?_, ?_⟩, ?_⟩, ?_, ?_, k2f, ?_⟩
    · exact rPl_of g1 (fun _ _ _ => rfl) (fun a j g => fr a j (by omega))
    · exact rPe_of g2 (fun _ _ _ => rfl) (fun a j g => fr a j (by omega))
    · exact rPi_of g3 (fun _ _ _ => rfl) (fun a j g => fr a j (by omega))
    · exact rW_of g4 (by show R1 0 6 = _; rw [e1, st_no (by omega)]) (fun _ => rfl) (fun a j g => fr a j (by omega))
    · show 0 ≤ (R1 0 5).toInt ∧ (R1 0 5).toInt < 8
      rw [r5]; exact b.1
    · show T2 22 0 = 0 ↔ (R1 0 5) &&& 1 = 0
      rw [t22, r5, b.2.1, o1]
      rcases hy with ⟨rfl, rfl⟩ | ⟨rfl, rfl⟩ | ⟨rfl, rfl⟩ <;> simp
    · show T2 22 1 = 0 ↔ (R1 0 5) &&& 2 = 0
      rw [t22, r5, b.2.2.1, o2]
      rcases hy with ⟨rfl, rfl⟩ | ⟨rfl, rfl⟩ | ⟨rfl, rfl⟩ <;> simp
    · show T2 22 2 = 0 ↔ (R1 0 5) &&& 4 = 0
      rw [t22, r5, b.2.2.2, o3]
      rcases hy with ⟨rfl, rfl⟩ | ⟨rfl, rfl⟩ | ⟨rfl, rfl⟩ <;> simp
    · show P 0 4 = T2 23 3 ∧ P 0 5 = T2 23 4 ∧ P 0 6 = T2 23 5
      rw [fr 23 3 (by omega), fr 23 4 (by omega), fr 23 5 (by omega)]; exact o4
    · exact rL_of g6 (fun _ _ _ => rfl) (fun a j g => fr a j (by omega))
    · show R1 0 1 = 0
      rw [e1, st_no (by omega)]; exact h0
    · show R1 0 3 = R 0 3
      rw [e1, st_no (by omega)]
    · show (T 0 7).toInt ≤ (T2 0 10).toInt
      rw [f1, st_no (by omega)] at k2p; exact k2p
  · rw [if_neg c, if_neg (fun q => c (hb.mpr q))]
    unfold fJ_X3_startOnce_J27
    rw [ex0, wrE]
    exact E2_p2l (E2_pl rfl (E2_some (Or.inl ⟨rfl, rfl, flt_of h.2.2.2.1 (by decide), frK_r⟩)))
/-- a line ahead of its semicolon (class), behind it (reference) -/
def lsQ (K R T : Tr) (q : Int32 × Tr × Tr × Tr) (q' : Int32 × Tr) : Prop := (q.1 = 0 ∧ q'.1 = 0 ∧ flt q.2.2.1 q'.2 ∧ frK K q.2.1) ∨ (q.1 = 1 ∧ ¬ q.2.1 0 1 = 41 ∧ q'.1 = 0 ∧ q'.2 0 4 = 1 ∧ q'.2 0 5 = q.2.1 0 2 ∧ frK K q.2.1 ∧ q.2.2.1 0 1 = 0) ∨ (q.1 = 1 ∧ q.2.1 0 1 = 41 ∧ q'.1 = 1 ∧ ∃ T0, f_X8_token T0 = some q'.2 ∧ tkS q.2.1 T0 ∧ RD q.2.2.1 q.2.2.2 T0 ∧ q.2.2.1 0 1 = 0 ∧ q.2.2.1 0 3 = R 0 3 ∧ frK K q.2.1 ∧ (T 0 7).toInt ≤ (T0 0 10).toInt)
theorem e_semi {K R T K1 R1 P1 T1 : Tr} (k : tkS K1 T1) (hr : RD R1 P1 T1) (h0 : R1 0 1 = 0) (h3 : R1 0 3 = R 0 3) (hf : frK K K1) (hp : (T 0 7).toInt ≤ (T1 0 10).toInt) : E2 (some ((1 : Int32), K1, R1, P1)) (fJ_X8_lineRead_J343 1 T1) (lsQ K R T) := by
  unfold fJ_X8_lineRead_J343 f_X8_isSign
  refine E2_qr (by decide) ?_
  have ks := k_semi k.2.2.2.2.1
  by_cases c : (T1 0 8).toInt = 4 ∧ (T1 0 9).toInt = 59
  · rw [if_pos (show T1 0 8 = 4 from i_z (by rw [c.1]; decide)), if_pos (show T1 0 9 = 59 from i_z (by rw [c.2]; decide))]
    refine E2_sr (E2_qr (by decide) ?_)
    intro a b e1 e2
    obtain ⟨T2, y1, y2⟩ := tx_bd e2
    have y2 := tx_1 y2
    have e1 := tx_1 e1
    subst y2; subst e1
    exact Or.inr (Or.inr ⟨rfl, i_z (by rw [ks.mpr c]; decide), rfl, T1, y1, k, hr, h0, h3, hf, hp⟩)
  · have no : (if T1 0 8 = 4 then (if T1 0 9 = 59 then some (1 : Int32) else some 0) else some 0) = some 0 := by
      by_cases c1 : T1 0 8 = 4
      · rw [if_pos c1, if_neg (fun q => c ⟨by rw [c1]; decide, by rw [q]; decide⟩)]
      · rw [if_neg c1]
    rw [no, wrE]
    refine E2_sr (E2_pr rfl (E2_some (Or.inr (Or.inl ⟨rfl, fun q => c (ks.mp (by rw [show K1 0 1 = 41 from q]; decide)), rfl, ?_, ?_, hf, h0⟩))))
    · show st (st T1 0 4 1) 0 5 (T1 0 10) 0 4 = 1
      rw [st_no (by omega), st_same]
    · show st (st T1 0 4 1) 0 5 (T1 0 10) 0 5 = K1 0 2
      rw [st_same]; exact k.2.2.2.1.symm
theorem e_semiF {K R T K1 R1 P1 T1 : Tr} (hf : flt R1 T1) (hk : frK K K1) : E2 (some ((0 : Int32), K1, R1, P1)) (fJ_X8_lineRead_J343 0 T1) (lsQ K R T) := by
  unfold fJ_X8_lineRead_J343
  exact E2_pr rfl (E2_some (Or.inl ⟨rfl, rfl, hf, hk⟩))
theorem e_ln {K R P T : Tr} {x : Option (Int32 × Tr × Tr × Tr)} {y : Option (Int32 × Tr)} (h : E2 x y (lnQ K R T)) : E2 (bd x fun q => lt q.1 fun r3 => lt q.2.1 fun K_4 => lt q.2.2.1 fun R_5 => lt q.2.2.2 fun P_6 => ck (okB r3) (some (r3, K_4, R_5, P_6))) (bd y fun q => lt q.1 fun r10 => lt q.2 fun S_11 => fJ_X8_lineRead_J343 r10 S_11) (lsQ K R T) := by
  refine E2_bd h (fun q q' hq => ?_)
  obtain ⟨r, K1, R1, P1⟩ := q
  obtain ⟨r', T1⟩ := q'
  refine E2_v4l (E2_v2r (E2_ckl (fun _ => ?_)))
  have hq : (r = 0 ∧ r' = 0 ∧ flt R1 T1 ∧ frK K K1) ∨ (r = 1 ∧ r' = 1 ∧ tkS K1 T1 ∧ RD R1 P1 T1 ∧ R1 0 1 = 0 ∧ R1 0 3 = R 0 3 ∧ frK K K1 ∧ (T 0 7).toInt ≤ (T1 0 10).toInt) := hq
  rcases hq with ⟨rfl, rfl, a1, a2⟩ | ⟨rfl, rfl, a1, a2, a3, a4, a5, a6⟩
  · exact e_semiF a1 a2
  · exact e_semi a1 a2 a3 a4 a5 a6
/-- numbers that stand once: curve, seed -/
theorem rO_set {R P T : Tr} {i : Nat} (h : rO R P T) (hi : i = 4 ∨ i = 5 ∨ i = 6) {v : Int32} : rO R (st P 0 i v) (st T 23 (i - 1) v) := by
  obtain ⟨o0, o1, o2, o3, o4, o5, o6⟩ := h
  refine ⟨o0, ?_, ?_, ?_, ?_, ?_, ?_⟩
  · rw [st_no (by omega)]; exact o1
  · rw [st_no (by omega)]; exact o2
  · rw [st_no (by omega)]; exact o3
  · rcases hi with rfl | rfl | rfl
    · rw [st_same, st_same]
    · rw [st_no (by omega), st_no (by omega)]; exact o4
    · rw [st_no (by omega), st_no (by omega)]; exact o4
  · rcases hi with rfl | rfl | rfl
    · rw [st_no (by omega), st_no (by omega)]; exact o5
    · rw [st_same, st_same]
    · rw [st_no (by omega), st_no (by omega)]; exact o5
  · rcases hi with rfl | rfl | rfl
    · rw [st_no (by omega), st_no (by omega)]; exact o6
    · rw [st_no (by omega), st_no (by omega)]; exact o6
    · rw [st_same, st_same]
theorem RD_set {R P T : Tr} {i : Nat} (h : RD R P T) (hi : i = 4 ∨ i = 5 ∨ i = 6) {v : Int32} : RD R (st P 0 i v) (st T 23 (i - 1) v) :=
  ⟨rPl_of h.1 (fun a j g => st_no (by omega)) (fun a j g => st_no (by omega)), rPe_of h.2.1 (fun a j g => st_no (by omega)) (fun a j g => st_no (by omega)), rPi_of h.2.2.1 (fun a j g => st_no (by omega)) (fun a j g => st_no (by omega)), rW_of h.2.2.2.1 rfl (fun j => st_no (by omega)) (fun a j g => st_no (by omega)), rO_set h.2.2.2.2.1 hi, rL_of h.2.2.2.2.2 (fun a j g => st_no (by omega)) (fun a j g => st_no (by omega))⟩
theorem on_cs {K R P T K1 R1 T1 : Tr} {r r' : Int32} (h : onQ K R P T (r, K1, R1) (r', T1)) : (r = 0 ∧ r' = 0 ∧ flt R1 T1 ∧ frK K K1) ∨ (r = 1 ∧ r' = 1 ∧ tkS K1 T1 ∧ RD R1 P T1 ∧ R1 0 1 = 0 ∧ R1 0 3 = R 0 3 ∧ frK K K1 ∧ (T 0 7).toInt ≤ (T1 0 10).toInt) := h
theorem neg1 {v : Int32} (h : 0 ≤ v.toInt) : ¬ v < 0 := fun q => by have := tq_lt (b := 0) rfl (by decide) q; omega
theorem e_curve {K R P T : Tr} (h : tkS K T) (hr : RD R P T) (h0 : R 0 1 = 0) (hc : (K 0 1).toInt = 5) : E2 (bd (f_X3_readCurve K R P) fun q => lt q.1 fun r3 => lt q.2.1 fun K_4 => lt q.2.2.1 fun R_5 => lt q.2.2.2 fun P_6 => ck (okB r3) (some (r3, K_4, R_5, P_6))) (bd (f_X8_isOnce T (1 : Int32)) fun q => lt q.1 fun r61 => lt q.2 fun S_62 => if r61 = 0 then (fJ_X8_lineRead_J186  S_62) else (bd (f_X8_number S_62 (0 : Int32) (99 : Int32)) fun q => lt q.1 fun r68 => lt q.2 fun S_69 => if r68 = 0 then (fJ_X8_lineRead_J186  S_69) else (fJ_X8_lineRead_J187  1 S_69))) (lsQ K R T) := by
  unfold f_X3_readCurve
  rw [bd_bd]
  refine E2_bd (e_once h hr h0 (k := 1) (by omega) hc (by decide)) (fun q q' hq => ?_)
  obtain ⟨r, K1, R1⟩ := q
  obtain ⟨r', T1⟩ := q'
  refine E2_v2r ?_
  unfold fJ_X8_lineRead_J186 fJ_X8_lineRead_J187
  rcases on_cs hq with ⟨rfl, rfl, a1, a2⟩ | ⟨rfl, rfl, a1, a2, a3, a4, a5, a6⟩
  · refine E2_pr rfl (E2_pr rfl ?_)
    show E2 (bd (some ((0 : Int32), K1, R1, P)) _) _ _
    exact E2_sl (E2_v4l (E2_ckl (fun _ => e_semiF a1 a2)))
  · show E2 (bd (bd (f_X3_takeNumber K1 R1 (0 : Int32) (99 : Int32)) fun q => lt q.1 fun r7 => lt q.2.1 fun K_8 => lt q.2.2 fun R_9 => lt (st P 0 5 r7) fun P_12 => if (P_12 0 5) < 0 then (some ((0 : Int32), K_8, R_9, P_12)) else (some (1, K_8, R_9, P_12))) _) _ _
    rw [bd_bd]
    refine E2_qr (by decide) (E2_bd (e_nq a1 (lo := 0) (hi := 99) (by decide) (by decide)) (fun q q' hq => ?_))
    obtain ⟨v, K2, R2⟩ := q
    obtain ⟨v', T2⟩ := q'
    refine E2_v2r ?_
    rcases nq_cs hq (by decide : (0 : Int32).toInt = 0) (by decide : (99 : Int32).toInt = 99) with ⟨rfl, rfl, q3, q4⟩ | ⟨rfl, q2, q3, q4, q5, rfl, q7, q8, q9⟩
    · refine E2_pr rfl (E2_pr rfl ?_)
      show E2 (bd (some ((0 : Int32), K2, R2, st P 0 5 (-1))) _) _ _
      exact E2_sl (E2_v4l (E2_ckl (fun _ => e_semiF q3 (frK_t a5 q4))))
    · refine E2_qr (by decide) (E2_qr (by decide) (E2_ltr (fun T3 f3 => ?_)))
      show E2 (bd (if (st P 0 5 v) 0 5 < 0 then (some ((0 : Int32), K2, R2, st P 0 5 v)) else (some (1, K2, R2, st P 0 5 v))) _) _ _
      rw [st_same, if_neg (neg1 q2)]
      refine E2_sl (E2_v4l (E2_ckl (fun _ => ?_)))
      have k3 : tkS K2 T3 := by rw [f3]; exact tkS_st q5 (by omega)
      refine e_semi k3 ?_ a3 a4 (frK_t a5 q7) ?_
      · have rd := RD_of (R1 := R2) a2 rfl rfl (T1 := T2) (fun a j hn => q8 a j (by omega))
        rw [f3, q4]
        exact RD_set (i := 5) rd (by omega)
      · have := tk_on a1
        rw [f3, st_no (by omega)]; omega
theorem e_seed {K R P T : Tr} (h : tkS K T) (hr : RD R P T) (h0 : R 0 1 = 0) (hc : (K 0 1).toInt = 6) : E2 (bd (f_X3_readSeed K R P) fun q => lt q.1 fun r3 => lt q.2.1 fun K_4 => lt q.2.2.1 fun R_5 => lt q.2.2.2 fun P_6 => ck (okB r3) (some (r3, K_4, R_5, P_6))) (bd (f_X8_isOnce T (2 : Int32)) fun q => lt q.1 fun r61 => lt q.2 fun S_62 => if r61 = 0 then (fJ_X8_lineRead_J227  S_62) else (bd (f_X8_number S_62 (0 : Int32) (99999 : Int32)) fun q => lt q.1 fun r68 => lt q.2 fun S_69 => if r68 = 0 then (fJ_X8_lineRead_J227  S_69) else (fJ_X8_lineRead_J228  1 S_69))) (lsQ K R T) := by
  unfold f_X3_readSeed
  rw [bd_bd]
  refine E2_bd (e_once h hr h0 (k := 2) (by omega) hc (by decide)) (fun q q' hq => ?_)
  obtain ⟨r, K1, R1⟩ := q
  obtain ⟨r', T1⟩ := q'
  refine E2_v2r ?_
  unfold fJ_X8_lineRead_J227 fJ_X8_lineRead_J228
  rcases on_cs hq with ⟨rfl, rfl, a1, a2⟩ | ⟨rfl, rfl, a1, a2, a3, a4, a5, a6⟩
  · refine E2_pr rfl (E2_pr rfl ?_)
    show E2 (bd (some ((0 : Int32), K1, R1, P)) _) _ _
    exact E2_sl (E2_v4l (E2_ckl (fun _ => e_semiF a1 a2)))
  · show E2 (bd (bd (f_X3_takeNumber K1 R1 (0 : Int32) (99999 : Int32)) fun q => lt q.1 fun r7 => lt q.2.1 fun K_8 => lt q.2.2 fun R_9 => lt (st P 0 6 r7) fun P_12 => if (P_12 0 6) < 0 then (some ((0 : Int32), K_8, R_9, P_12)) else (some (1, K_8, R_9, P_12))) _) _ _
    rw [bd_bd]
    refine E2_qr (by decide) (E2_bd (e_nq a1 (lo := 0) (hi := 99999) (by decide) (by decide)) (fun q q' hq => ?_))
    obtain ⟨v, K2, R2⟩ := q
    obtain ⟨v', T2⟩ := q'
    refine E2_v2r ?_
    rcases nq_cs hq (by decide : (0 : Int32).toInt = 0) (by decide : (99999 : Int32).toInt = 99999) with ⟨rfl, rfl, q3, q4⟩ | ⟨rfl, q2, q3, q4, q5, rfl, q7, q8, q9⟩
    · refine E2_pr rfl (E2_pr rfl ?_)
      show E2 (bd (some ((0 : Int32), K2, R2, st P 0 6 (-1))) _) _ _
      exact E2_sl (E2_v4l (E2_ckl (fun _ => e_semiF q3 (frK_t a5 q4))))
    · refine E2_qr (by decide) (E2_qr (by decide) (E2_ltr (fun T3 f3 => ?_)))
      show E2 (bd (if (st P 0 6 v) 0 6 < 0 then (some ((0 : Int32), K2, R2, st P 0 6 v)) else (some (1, K2, R2, st P 0 6 v))) _) _ _
      rw [st_same, if_neg (neg1 q2)]
      refine E2_sl (E2_v4l (E2_ckl (fun _ => ?_)))
      have k3 : tkS K2 T3 := by rw [f3]; exact tkS_st q5 (by omega)
      refine e_semi k3 ?_ a3 a4 (frK_t a5 q7) ?_
      · have rd := RD_of (R1 := R2) a2 rfl rfl (T1 := T2) (fun a j hn => q8 a j (by omega))
        rw [f3, q4]
        exact RD_set (i := 6) rd (by omega)
      · have := tk_on a1
        rw [f3, st_no (by omega)]; omega
theorem e_rule {K R P T : Tr} (h : tkS K T) (hr : RD R P T) (h0 : R 0 1 = 0) (hc : (K 0 1).toInt = 4) : E2 (bd (f_X3_readRule K R P) fun q => lt q.1 fun r3 => lt q.2.1 fun K_4 => lt q.2.2.1 fun R_5 => lt q.2.2.2 fun P_6 => ck (okB r3) (some (r3, K_4, R_5, P_6))) (bd (f_X8_isOnce T (0 : Int32)) fun q => lt q.1 fun r43 => lt q.2 fun S_44 => if r43 = 0 then (some (0, S_44)) else (if (S_44 0 8) = 1 then (if (S_44 0 9) < 13 then (fJ_X8_lineRead_J136  S_44) else (if (S_44 0 9) ≤ 15 then (lt (st S_44 23 3 ((S_44 0 9) - 13)) fun S_56 => bd (f_X8_token S_56) fun S_57 => fJ_X8_lineRead_J343  1 S_57) else (fJ_X8_lineRead_J136  S_44))) else (fJ_X8_lineRead_J136  S_44))) (lsQ K R T) := by
  unfold f_X3_readRule
  rw [bd_bd]
  refine E2_bd (e_once h hr h0 (k := 0) (by omega) hc (by decide)) (fun q q' hq => ?_)
  obtain ⟨r, K1, R1⟩ := q
  obtain ⟨r', T1⟩ := q'
  refine E2_v2r ?_
  rcases on_cs hq with ⟨rfl, rfl, a1, a2⟩ | ⟨rfl, rfl, a1, a2, a3, a4, a5, a6⟩
  · refine E2_pr rfl ?_
    show E2 (bd (some ((0 : Int32), K1, R1, P)) _) _ _
    exact E2_sl (E2_v4l (E2_ckl (fun _ => E2_some (Or.inl ⟨rfl, rfl, a1, a2⟩))))
  · show E2 (bd (bd (f_X3_takeWord K1 R1 (13 : Int32) (15 : Int32)) fun q => lt q.1 fun r7 => lt q.2.1 fun K_8 => lt q.2.2 fun R_9 => lt (st P 0 4 r7) fun P_12 => if (P_12 0 4) < 0 then (some ((0 : Int32), K_8, R_9, P_12)) else (some (1, K_8, R_9, P_12))) _) _ _
    refine E2_qr (by decide) ?_
    have kk := a1.2.2.2.2.1
    have kw := k_word kk (a := 13) (b := 15) (by omega) (by omega)
    have nofit : ¬ (13 ≤ (K1 0 1).toInt ∧ (K1 0 1).toInt ≤ 15) → E2 (bd (bd (f_X3_takeWord K1 R1 (13 : Int32) (15 : Int32)) fun q => lt q.1 fun r7 => lt q.2.1 fun K_8 => lt q.2.2 fun R_9 => lt (st P 0 4 r7) fun P_12 => if (P_12 0 4) < 0 then (some ((0 : Int32), K_8, R_9, P_12)) else (some (1, K_8, R_9, P_12))) fun q => lt q.1 fun r3 => lt q.2.1 fun K_4 => lt q.2.2.1 fun R_5 => lt q.2.2.2 fun P_6 => ck (okB r3) (some (r3, K_4, R_5, P_6))) (fJ_X8_lineRead_J136 T1) (lsQ K R T) := by
      intro hno
      unfold fJ_X8_lineRead_J136
      rw [tw_no (lo := 13) (hi := 15) hno, wrE]
      show E2 (bd (some ((0 : Int32), K1, st (st R1 0 1 1) 0 2 (K1 0 2), st P 0 4 (-1))) _) _ _
      exact E2_sl (E2_v4l (E2_ckl (fun _ => E2_some (Or.inl ⟨rfl, rfl, flt_of a1.2.2.2.1 (by decide), a5⟩))))
    by_cases d1 : (T1 0 8).toInt = 1
    · rw [if_pos (show T1 0 8 = 1 from i_z (by rw [d1]; decide))]
      by_cases d2 : (T1 0 9).toInt < 13
      · rw [if_pos (show T1 0 9 < 13 from Int32.lt_iff_toInt_lt.mpr (by show _ < (13 : Int); exact d2))]
        exact nofit (by omega)
      · rw [if_neg (show ¬ T1 0 9 < 13 from fun q => d2 (tq_lt rfl (b := 13) (by decide) q))]
        by_cases d3 : (T1 0 9).toInt ≤ 15
        · rw [if_pos (show T1 0 9 ≤ 15 from Int32.le_iff_toInt_le.mpr (by show _ ≤ (15 : Int); exact d3))]
          have kq := kw.mpr ⟨d1, by omega, d3⟩
          have kv : K1 0 1 = T1 0 9 := i_z (k_weq kk d1 (by omega))
          rw [tw_yes (show (13 : Int32).toInt ≤ _ from kq.1) (show _ ≤ (15 : Int32).toInt from kq.2), bd_bd, bd_bd]
          refine E2_ltr (fun T3 f3 => ?_)
          have k3 : tkS K1 T3 := by rw [f3]; exact tkS_st a1 (by omega)
          refine E2_bd (e_advS k3) (fun K4 T4 h4 => ?_)
          obtain ⟨k4, k4f, t4f, k4p⟩ := h4
          have e8 : (K1 0 1 - 13).toInt = (K1 0 1).toInt - 13 := i_subK rfl (by decide) (by omega) (by omega)
          show E2 (bd (if (st P 0 4 (K1 0 1 - 13)) 0 4 < 0 then some ((0 : Int32), K4, R1, st P 0 4 (K1 0 1 - 13)) else some (1, K4, R1, st P 0 4 (K1 0 1 - 13))) _) _ _
          rw [st_same, if_neg (neg1 (by omega))]
          refine E2_sl (E2_v4l (E2_ckl (fun _ => ?_)))
          refine e_semi k4 ?_ a3 a4 (frK_t a5 k4f) ?_
          · have rd := RD_set (i := 4) (v := K1 0 1 - 13) a2 (by omega)
            refine RD_of rd rfl rfl (fun a j hn => ?_)
            rw [t4f a j (by omega), f3, kv]
          · have := tk_on a1
            rw [f3, st_no (by omega)] at k4p
            omega
        · rw [if_neg (show ¬ T1 0 9 ≤ 15 from fun q => d3 (tq_le rfl (b := 15) (by decide) q))]
          exact nofit (by omega)
    · rw [if_neg (show ¬ T1 0 8 = 1 from fun q => d1 (by rw [q]; decide))]
      exact nofit (by omega)
-- 62.y.f8
/-! a formula: the signs that wait, the knots that are held -/
def zc (u : Nat → Int32) : Nat → Nat
  | 0 => 0
  | n + 1 => zc u n + (bif decide ((u n).toInt = 0) then 1 else 0)
def b2 (u : Nat → Int32) : Nat → Nat
  | 0 => 0
  | n + 1 => b2 u n + (bif decide (3 ≤ (u n).toInt) then 1 else 0)
def hV (f : Nat) (u : Nat → Int32) : List Nat → Prop
  | [] => True
  | a :: r => (u r.length).toInt = f + a ∧ hV f u r
theorem zc_s {u : Nat → Int32} {n : Nat} (h : ¬ (u n).toInt = 0) : zc u (n + 1) = zc u n := by
  show zc u n + (bif decide ((u n).toInt = 0) then 1 else 0) = _
  rw [decide_eq_false h]; rfl
theorem zc_z {u : Nat → Int32} {n : Nat} (h : (u n).toInt = 0) : zc u (n + 1) = zc u n + 1 := by
  show zc u n + (bif decide ((u n).toInt = 0) then 1 else 0) = _
  rw [decide_eq_true h]; rfl
theorem b2_s {u : Nat → Int32} {n : Nat} (h : ¬ 3 ≤ (u n).toInt) : b2 u (n + 1) = b2 u n := by
  show b2 u n + (bif decide (3 ≤ (u n).toInt) then 1 else 0) = _
  rw [decide_eq_false h]; rfl
theorem b2_z {u : Nat → Int32} {n : Nat} (h : 3 ≤ (u n).toInt) : b2 u (n + 1) = b2 u n + 1 := by
  show b2 u n + (bif decide (3 ≤ (u n).toInt) then 1 else 0) = _
  rw [decide_eq_true h]; rfl
theorem zc_cg {u v : Nat → Int32} : ∀ {n : Nat}, (∀ i, i < n → v i = u i) → zc v n = zc u n
  | 0, _ => rfl
  | n + 1, h => by
    show zc v n + (bif decide ((v n).toInt = 0) then 1 else 0) = zc u n + (bif decide ((u n).toInt = 0) then 1 else 0)
    rw [zc_cg (fun i hi => h i (by omega)), h n (by omega)]
theorem b2_cg {u v : Nat → Int32} : ∀ {n : Nat}, (∀ i, i < n → v i = u i) → b2 v n = b2 u n
  | 0, _ => rfl
  | n + 1, h => by
    show b2 v n + (bif decide (3 ≤ (v n).toInt) then 1 else 0) = b2 u n + (bif decide (3 ≤ (u n).toInt) then 1 else 0)
    rw [b2_cg (fun i hi => h i (by omega)), h n (by omega)]
theorem hV_cg {f : Nat} {u v : Nat → Int32} : ∀ {l : List Nat}, (∀ i, i < l.length → v i = u i) → hV f u l → hV f v l
  | [], _, _ => trivial
  | a :: r, h, g => ⟨by rw [h r.length (by simp)]; exact g.1, hV_cg (fun i hi => h i (by simp; omega)) g.2⟩
def qS (n : Nat) (R T : Tr) : Prop := ((R 0 8).toInt = n ∧ (T 0 43).toInt = n ∧ n ≤ 72 ∧ ∀ i, i < n → sg2 (R 8 i).toInt (T 42 i).toInt) ∧ R 0 9 = T 0 45 ∧ (T 0 45).toInt = zc (T 42) n ∧ zc (T 42) n ≤ 8
def qN (j f s : Nat) (P T : Tr) : Prop := (P (30 + 3 * j) 1).toInt = s ∧ (T 0 19).toInt = f + s ∧ ∀ i, i < s → nd (P (31 + 3 * j)) (sh64 (T 39)) (sh64 (T 40)) (sh64 (T 41)) f i
def qH (f : Nat) (l : List Nat) (T : Tr) : Prop := (T 0 44).toInt = l.length ∧ hV f (T 43) l
def qC (j f e d n s : Nat) (R P T : Tr) : Prop := qS n R T ∧ qN j f s P T ∧ qH f (hs (P (31 + 3 * j)) s) T ∧ (hs (P (31 + 3 * j)) s).length = b2 (T 42) n + e ∧ P 0 3 = T 0 46 ∧ (T 0 46).toInt ≤ 64 ∧ (n : Int) + s + f + d = (T 0 46).toInt + (T 0 45).toInt
theorem okI_d {x : Int32} {n : Nat} (h : okI x n = true) : 0 ≤ x.toInt ∧ x.toInt < n := by
  simp only [okI, Bool.and_eq_true, decide_eq_true_eq] at h
  exact h
def grQ (j f s m : Nat) (c k a b : Int32) (P T P1 T1 : Tr) : Prop := (∀ x i, ¬ ((x = 30 + 3 * j ∧ i = 1) ∨ (x = 31 + 3 * j ∧ i = s)) → P1 x i = P x i) ∧ P1 (31 + 3 * j) s = c ∧ (P1 (30 + 3 * j) 1).toInt = s + 1 ∧ (∀ x i, ¬ ((x = 0 ∧ (i = 19 ∨ i = 44)) ∨ (39 ≤ x ∧ x ≤ 41 ∧ i = 64 + (f + s)) ∨ (x = 43 ∧ i = m)) → T1 x i = T x i) ∧ (T1 39 (64 + (f + s)) = k ∧ T1 40 (64 + (f + s)) = a ∧ T1 41 (64 + (f + s)) = b) ∧ (T1 43 m).toInt = f + s ∧ (T1 0 44).toInt = m + 1 ∧ (T1 0 19).toInt = f + s + 1
theorem e_grow {P T : Tr} {j f s m : Nat} {c k a b : Int32} (hP : (P (30 + 3 * j) 1).toInt = s) (hT : (T 0 19).toInt = f + s) (hm : (T 0 44).toInt = m) (hfs : f + s ≤ 100) : E2 (f_X1_append j P c) (f_X8_grown T k a b) (grQ j f s m c k a b P T) := by
  unfold f_X1_append f_X8_grown
  have i64 : ((64 : Int32) + T 0 19).toInt = ((64 + (f + s) : Nat) : Int) := by rw [i_addK (x := 64) (by decide) hT (by omega) (by omega)]; omega
  have c64 : ((64 : Int32) + T 0 19).toNatClampNeg = 64 + (f + s) := i_cn i64
  refine E2_ckr (fun h1 => E2_ltr (fun T2 e2 => ?_))
  have h1 := okI_d h1
  rw [c64] at e2
  have z2 : T2 0 19 = T 0 19 := by rw [e2, st_no (by omega)]
  rw [z2, c64]
  refine E2_ckr (fun _ => E2_ltr (fun T3 e3 => ?_))
  have z3 : T3 0 19 = T 0 19 := by rw [e3, st_no (by omega), z2]
  rw [z3, c64]
  refine E2_ckr (fun _ => E2_ltr (fun T4 e4 => ?_))
  have z4 : T4 0 19 = T 0 19 := by rw [e4, st_no (by omega), z3]
  have w4 : T4 0 44 = T 0 44 := by rw [e4, st_no (by omega), e3, st_no (by omega), e2, st_no (by omega)]
  rw [z4, w4, i_cn hm]
  refine E2_ckr (fun h96 => E2_ltr (fun T5 e5 => E2_ltr (fun T6 e6 => E2_ltr (fun T7 e7 => ?_))))
  have h96 := okI_d h96
  refine E2_ql (fun q => by have := tq_le (a := 64) (by decide) hP q; omega) (E2_ckl (fun _ => ?_))
  rw [i_cn hP]
  refine E2_ltl (fun P1 p1 => E2_ltl (fun P2 p2 => E2_some ?_))
  have q1 : P1 (30 + 3 * j) 1 = P (30 + 3 * j) 1 := by rw [p1, st_no (by omega)]
  have w5 : T5 0 44 = T 0 44 := by rw [e5, st_no (by omega), w4]
  have w6 : (T6 0 44).toInt = m + 1 := by rw [e6, st_same, w5]; exact i_addK hm (by decide) (by omega) (by omega)
  have z6 : T6 0 19 = T 0 19 := by rw [e6, st_no (by omega), e5, st_no (by omega), z4]
  refine ⟨fun x i hn => ?_, ?_, ?_, fun x i hn => ?_, ⟨?_, ?_, ?_⟩, ?_, ?_, ?_⟩
  · rw [p2, st_no (by omega), p1, st_no (by omega)]
  · rw [p2, st_no (by omega), p1, st_same]
  · rw [p2, st_same, q1]; exact i_addK hP (by decide) (by omega) (by omega)
  · rw [e7, st_no (by omega), e6, st_no (by omega), e5, st_no (by omega), e4, st_no (by omega), e3, st_no (by omega), e2, st_no (by omega)]
  · rw [e7, st_no (by omega), e6, st_no (by omega), e5, st_no (by omega), e4, st_no (by omega), e3, st_no (by omega), e2, st_same]
  · rw [e7, st_no (by omega), e6, st_no (by omega), e5, st_no (by omega), e4, st_no (by omega), e3, st_same]
  · rw [e7, st_no (by omega), e6, st_no (by omega), e5, st_no (by omega), e4, st_same]
  · rw [e7, st_no (by omega), e6, st_no (by omega), e5, st_same]; exact hT
  · rw [e7, st_no (by omega)]; exact w6
  · rw [e7, st_same, z6]; exact i_addK hT (by decide) (by omega) (by omega)
theorem qN_add {j f s m : Nat} {c k a b : Int32} {P T P1 T1 : Tr} (h : qN j f s P T) (q : grQ j f s m c k a b P T P1 T1) (hn : nd (P1 (31 + 3 * j)) (sh64 (T1 39)) (sh64 (T1 40)) (sh64 (T1 41)) f s) : qN j f (s + 1) P1 T1 := by
  obtain ⟨q1, q2, q3, q4, q5, q6, q7, q8⟩ := q
  refine ⟨by rw [q3]; omega, by rw [q8]; omega, fun i hi => ?_⟩
  rcases Nat.lt_succ_iff_lt_or_eq.mp hi with g | g
  · refine nd_of (h.2.2 i g) (fun u hu => q1 _ _ (by omega)) ?_ ?_ ?_ <;> (unfold sh64; exact q4 _ _ (by omega))
  · rw [g]; exact hn
theorem qH_add {j f s : Nat} {l : List Nat} {c k a b : Int32} {P T P1 T1 : Tr} (h : qH f l T) (q : grQ j f s l.length c k a b P T P1 T1) : qH f (s :: l) T1 := by
  obtain ⟨q1, q2, q3, q4, q5, q6, q7, q8⟩ := q
  refine ⟨by rw [q7]; simp, by rw [q6], hV_cg (fun i hi => q4 _ _ (by omega)) h.2⟩
/-- how tightly -/
def rkI (k : Int) : Int := if 13 ≤ k then 6 else if 11 ≤ k then 5 else if 5 ≤ k then 4 else if k = 2 then 3 else if k = 3 then 2 else if k = 4 then 1 else 0
theorem e_rank (x : Int32) : ∃ r, f_X8_rank x = some r ∧ r.toInt = rkI x.toInt := by
  unfold f_X8_rank
  by_cases c1 : x < 13
  · have k1 := tq_lt (b := 13) rfl (by decide) c1
    have n1 : ¬ 13 ≤ x.toInt := by omega
    rw [if_pos c1]
    by_cases c2 : x < 11
    · have k2 := tq_lt (b := 11) rfl (by decide) c2
      have n2 : ¬ 11 ≤ x.toInt := by omega
      rw [if_pos c2]
      by_cases c3 : x < 5
      · have k3 := tq_lt (b := 5) rfl (by decide) c3
        have n3 : ¬ 5 ≤ x.toInt := by omega
        rw [if_pos c3]
        by_cases c4 : x = 2
        · rw [if_pos c4, c4]; exact ⟨_, rfl, by decide⟩
        · rw [if_neg c4]
          by_cases c5 : x = 3
          · rw [if_pos c5, c5]; exact ⟨_, rfl, by decide⟩
          · rw [if_neg c5]
            by_cases c6 : x = 4
            · rw [if_pos c6, c6]; exact ⟨_, rfl, by decide⟩
            · rw [if_neg c6]
              refine ⟨_, rfl, ?_⟩
              unfold rkI
              rw [if_neg n1, if_neg n2, if_neg n3, if_neg (i_isn (by decide) c4), if_neg (i_isn (by decide) c5), if_neg (i_isn (by decide) c6)]; decide
      · have k3 := tq_ltn (b := 5) rfl (by decide) c3
        rw [if_neg c3]
        refine ⟨_, rfl, ?_⟩
        unfold rkI
        rw [if_neg n1, if_neg n2, if_pos k3]; decide
    · have k2 := tq_ltn (b := 11) rfl (by decide) c2
      rw [if_neg c2]
      refine ⟨_, rfl, ?_⟩
      unfold rkI
      rw [if_neg n1, if_pos k2]; decide
  · have k1 := tq_ltn (b := 13) rfl (by decide) c1
    rw [if_neg c1]
    refine ⟨_, rfl, ?_⟩
    unfold rkI
    rw [if_pos k1]; decide
theorem b_rank {c k : Int32} (h : sg2 c.toInt k.toInt) : (bindsF c.toNatClampNeg).toInt = rkI k.toInt := by
  have hc : ∃ n : Nat, c.toInt = n ∧ n ≤ 39 := ⟨c.toInt.toNat, by unfold sg2 at h; omega, by unfold sg2 at h; omega⟩
  obtain ⟨n, hn, hn2⟩ := hc
  rw [i_cn hn]
  rw [hn] at h
  generalize k.toInt = kk at h ⊢
  unfold sg2 at h
  rcases h with ⟨h1, rfl⟩ | ⟨h1, rfl⟩ | ⟨h1, rfl⟩ | ⟨h1, rfl⟩ | ⟨h1, h2, rfl⟩
  · rw [show n = 39 by omega]; decide
  · rw [show n = 21 by omega]; decide
  · rw [show n = 20 by omega]; decide
  · rw [show n = 19 by omega]; decide
  · have : n = 29 ∨ n = 30 ∨ n = 31 ∨ n = 32 ∨ n = 33 ∨ n = 34 ∨ n = 35 ∨ n = 36 ∨ n = 37 ∨ n = 38 := by omega
    rcases this with rfl | rfl | rfl | rfl | rfl | rfl | rfl | rfl | rfl | rfl <;> decide
theorem hs_nx {g g1 : Nat → Int32} {s : Nat} (h : ∀ i, i < s → g1 i = g i) : (((g1 s).toInt < 10000 ∨ (10022 ≤ (g1 s).toInt ∧ (g1 s).toInt ≤ 10028)) → hs g1 (s + 1) = s :: hs g s) ∧ ((g1 s).toInt = 10021 → hs g1 (s + 1) = s :: (hs g s).drop 1) ∧ (¬ ((g1 s).toInt < 10000 ∨ (10022 ≤ (g1 s).toInt ∧ (g1 s).toInt ≤ 10028)) → ¬ (g1 s).toInt = 10021 → hs g1 (s + 1) = s :: (hs g s).drop 2) := by
  have e := hs_cg h
  have u : hs g1 (s + 1) = bif decide ((g1 s).toInt < 10000) || decide (10022 ≤ (g1 s).toInt ∧ (g1 s).toInt ≤ 10028) then s :: hs g s else bif decide ((g1 s).toInt = 10021) then s :: (hs g s).drop 1 else s :: (hs g s).drop 2 := by rw [← e]; rfl
  refine ⟨fun c => ?_, fun c => ?_, fun c c2 => ?_⟩
  · have : (decide ((g1 s).toInt < 10000) || decide (10022 ≤ (g1 s).toInt ∧ (g1 s).toInt ≤ 10028)) = true := by simpa using c
    rw [u, this]; rfl
  · have : (decide ((g1 s).toInt < 10000) || decide (10022 ≤ (g1 s).toInt ∧ (g1 s).toInt ≤ 10028)) = false := by rw [c]; rfl
    rw [u, this, decide_eq_true c]; rfl
  · have : (decide ((g1 s).toInt < 10000) || decide (10022 ≤ (g1 s).toInt ∧ (g1 s).toInt ≤ 10028)) = false := by
      cases h : (decide ((g1 s).toInt < 10000) || decide (10022 ≤ (g1 s).toInt ∧ (g1 s).toInt ≤ 10028)) with
      | false => rfl
      | true => exact absurd (by simpa using h) c
    rw [u, this, decide_eq_false c2]; rfl
-- 62.y.f9
/-! signs are closed by both -/
def clQ (j f e d n s : Nat) (x2 : Int32) (R P T R1 P1 T1 : Tr) : Prop := ∃ n1 s1, qC j f e d n1 s1 R1 P1 T1 ∧ n1 ≤ n ∧ s ≤ s1 ∧ (n1 = 0 ∨ ∃ m, n1 = m + 1 ∧ rkI (T 42 m).toInt < x2.toInt) ∧ zc (T 42) n1 = zc (T 42) n ∧ (∀ a i, ¬ (a = 0 ∧ i = 8) → R1 a i = R a i) ∧ (∀ a i, ¬ ((a = 30 + 3 * j ∧ i = 1) ∨ a = 31 + 3 * j) → P1 a i = P a i) ∧ (∀ a i, ¬ ((a = 0 ∧ (i = 19 ∨ i = 43 ∨ i = 44)) ∨ (39 ≤ a ∧ a ≤ 41 ∧ 64 + f ≤ i) ∨ a = 43) → T1 a i = T a i)
theorem bd_lt {α β γ : Type} {v : α} {k : α → Option β} {g : β → Option γ} : bd (lt v k) g = lt v (fun a => bd (k a) g) := rfl
theorem bd_ck {β γ : Type} {c : Bool} {k : Option β} {g : β → Option γ} : bd (ck c k) g = ck c (bd k g) := by
  cases c <;> rfl
theorem sg_rk {c k : Int} (h : sg2 c k) {x : Int} (h1 : 1 ≤ x) (h2 : ¬ rkI k < x) : ¬ k = 0 := fun q => by
  rw [q] at h2
  exact h2 (by have : rkI 0 = 0 := by decide
               omega)
theorem e_close {j f : Nat} {x2 : Int32} (hj : j < 3) (hx : 1 ≤ x2.toInt) (N : Nat) : ∀ (e d n s : Nat) (R P T : Tr), qC j f e d n s R P T → E2 (lpF (fun _ _ => none) (fB_X3_closeSigns_L0 j x2) N R P) (lpF (fun _ => none) (fB_X8_bind_L0 x2) N T) (fun q T1 => clQ j f e d n s x2 R P T q.1 q.2 T1) := by
  induction N with
  | zero => intro e d n s R P T _; exact E2_nl
  | succ N ih =>
    intro e d n s R P T G
    show E2 (fB_X3_closeSigns_L0 j x2 (lpF (fun _ _ => none) (fB_X3_closeSigns_L0 j x2) N) R P) (fB_X8_bind_L0 x2 (lpF (fun _ => none) (fB_X8_bind_L0 x2) N) T) _
    generalize lpF (fun _ _ => none) (fB_X3_closeSigns_L0 j x2) N = k1 at ih ⊢
    generalize lpF (fun _ => none) (fB_X8_bind_L0 x2) N = k2 at ih ⊢
    unfold fB_X3_closeSigns_L0 fB_X8_bind_L0
    have G0 := G
    obtain ⟨⟨⟨s1, s2, s3, s4⟩, s5, s6, s7⟩, ⟨n1, n2, n3⟩, ⟨h1, h2⟩, l1, c1, c2, c3⟩ := G
    have stop : (n = 0 ∨ ∃ m, n = m + 1 ∧ rkI (T 42 m).toInt < x2.toInt) → clQ j f e d n s x2 R P T R P T := fun q => ⟨n, s, G0, by omega, by omega, q, rfl, fun _ _ _ => rfl, fun _ _ _ => rfl, fun _ _ _ => rfl⟩
    rcases n with _ | n
    · exact E2_pl (Int32.le_iff_toInt_le.mpr (by rw [s1]; decide)) (E2_pr (Int32.le_iff_toInt_le.mpr (by rw [s2]; decide)) (E2_some (stop (Or.inl rfl))))
    · have r8 : (R 0 8 - 1).toInt = n := by rw [i_subK s1 (y := 1) (by decide) (by omega) (by omega)]; omega
      have t43 : (T 0 43 - 1).toInt = n := by rw [i_subK s2 (y := 1) (by decide) (by omega) (by omega)]; omega
      refine E2_ql (fun q => by have := tq_le (b := 0) s1 (by decide) q; omega) (E2_qr (fun q => by have := tq_le (b := 0) s2 (by decide) q; omega) (E2_ckr (fun _ => ?_)))
      rw [i_cn t43]
      have hsg := s4 n (by omega)
      obtain ⟨r, er, hr⟩ := e_rank (T 42 n)
      rw [er]
      unfold f_X3_latestBinds
      rw [if_neg (show ¬ R 0 8 = 0 from fun q => by rw [q] at s1; have : (0 : Int32).toInt = 0 := by decide
                                                    omega), i_cn r8]
      have hb := b_rank hsg
      have eb : bindsF (R 8 n).toNatClampNeg = r := i_z (by rw [hb, hr])
      rw [eb]
      refine E2_sr ?_
      have unck : ∀ {g1 g2 : Bool} {k : Int32 → Option (Tr × Tr)} {y : Option Tr} {Q : Tr × Tr → Tr → Prop}, E2 (k r) y Q → E2 (bd (ck g1 (ck g2 (some r))) k) y Q := fun {g1 g2 k y Q} hk => by
        cases g1
        · exact E2_nl
        · cases g2
          · exact E2_nl
          · exact hk
      refine unck ?_
      by_cases cr : rkI (T 42 n).toInt < x2.toInt
      · have cl : r < x2 := Int32.lt_iff_toInt_lt.mpr (by rw [hr]; exact cr)
        exact E2_pl cl (E2_pr cl (E2_some (stop (Or.inr ⟨n, rfl, cr⟩))))
      · have cl : ¬ r < x2 := fun q => cr (by have := tq_lt rfl rfl q; rw [hr] at this; exact this)
        refine E2_ql cl (E2_qr cl (E2_ltl (fun R1 e1 => E2_ltr (fun T1 f1 => E2_ckl (fun _ => E2_ckr (fun _ => ?_))))))
        have R18 : R1 0 8 = R 0 8 - 1 := by rw [e1, st_same]
        have T143 : T1 0 43 = T 0 43 - 1 := by rw [f1, st_same]
        rw [R18, T143, i_cn r8, i_cn t43]
        have R8n : R1 8 n = R 8 n := by rw [e1, st_no (by omega)]
        have T42 : ∀ i, T1 42 i = T 42 i := fun i => by rw [f1, st_no (by omega)]
        rw [R8n, T42]
        refine E2_ltr (fun y ey => ?_)
        have hk0 := sg_rk hsg hx cr
        have hc : 19 ≤ (R 8 n).toInt ∧ (R 8 n).toInt ≤ 38 := by unfold sg2 at hsg; omega
        have hcode : ((10000 : Int32) + R 8 n).toInt = 10000 + (R 8 n).toInt := i_addK (by decide) rfl (by omega) (by omega)
        have hz : zc (T 42) (n + 1) = zc (T 42) n := zc_s hk0
        have T144 : T1 0 44 = T 0 44 := by rw [f1, st_no (by omega)]
        have T119 : T1 0 19 = T 0 19 := by rw [f1, st_no (by omega)]
        have T145 : T1 0 45 = T 0 45 := by rw [f1, st_no (by omega)]
        have T146 : T1 0 46 = T 0 46 := by rw [f1, st_no (by omega)]
        have T1f : ∀ a i, ¬ (a = 0 ∧ i = 43) → T1 a i = T a i := fun a i hn => by rw [f1, st_no (by omega)]
        have hfs : f + s ≤ 100 := by omega
        -- what is left once the knot has grown
        have fin : ∀ (l : List Nat) (T2 : Tr) (a b : Int32), (∀ x i, ¬ (x = 0 ∧ i = 44) → T2 x i = T1 x i) → qH f l T2 → l.length + 1 = b2 (T 42) n + e → (∀ P3 T3, grQ j f s l.length ((10000 : Int32) + R 8 n) y a b P T2 P3 T3 → nd (P3 (31 + 3 * j)) (sh64 (T3 39)) (sh64 (T3 40)) (sh64 (T3 41)) f s ∧ hs (P3 (31 + 3 * j)) (s + 1) = s :: l) → E2 (bd (f_X1_append j P ((10000 : Int32) + R 8 n)) fun P_8 => k1 R1 P_8) (bd (f_X8_grown T2 y a b) fun S_19 => k2 S_19) (fun q T9 => clQ j f e d (n + 1) s x2 R P T q.1 q.2 T9) := by
          intro l T2 a b hT2 hH hl hnew
          refine E2_bd (e_grow (f := f) (s := s) (m := l.length) n1 (by rw [hT2 0 19 (by omega), T119]; exact n2) hH.1 hfs) (fun P3 T3 q => ?_)
          obtain ⟨w1, w2⟩ := hnew P3 T3 q
          have qN2 : qN j f s P T2 := ⟨n1, by rw [hT2 0 19 (by omega), T119]; exact n2, fun i hi => nd_of (n3 i hi) (fun _ _ => rfl) (by unfold sh64; rw [hT2 _ _ (by omega), T1f _ _ (by omega)]) (by unfold sh64; rw [hT2 _ _ (by omega), T1f _ _ (by omega)]) (by unfold sh64; rw [hT2 _ _ (by omega), T1f _ _ (by omega)])⟩
          have N3 := qN_add qN2 q w1
          have H3 := qH_add hH q
          have q1 := q.1
          have q4 := q.2.2.2.1
          have all : ∀ a i, ¬ ((a = 0 ∧ (i = 19 ∨ i = 43 ∨ i = 44)) ∨ (39 ≤ a ∧ a ≤ 41 ∧ 64 + f ≤ i) ∨ a = 43) → T3 a i = T a i := fun a i hn => by
            rw [q4 a i (by omega), hT2 a i (by omega), T1f a i (by omega)]
          have t42 : ∀ i, T3 42 i = T 42 i := fun i => all 42 i (by omega)
          have G3 : qC j f e d n (s + 1) R1 P3 T3 := by
            refine ⟨⟨⟨by rw [R18]; exact r8, ?_, by omega, fun i hi => ?_⟩, ?_, ?_, ?_⟩, N3, ?_, ?_, ?_, ?_, ?_⟩
            · rw [q4 0 43 (by omega), hT2 0 43 (by omega), T143]; exact t43
            · rw [e1, st_no (by omega), t42]; exact s4 i (by omega)
            · rw [e1, st_no (by omega), all 0 45 (by omega)]; exact s5
            · rw [all 0 45 (by omega), zc_cg (fun i _ => t42 i), s6, hz]
            · rw [zc_cg (fun i _ => t42 i)]; omega
            · rw [w2]; exact H3
            · rw [w2, b2_cg (fun i _ => t42 i)]; show l.length + 1 = _; exact hl
            · rw [q1 0 3 (by omega), all 0 46 (by omega)]; exact c1
            · rw [all 0 46 (by omega)]; exact c2
            · rw [all 0 46 (by omega), all 0 45 (by omega)]; omega
          refine E2_mono (ih e d n (s + 1) R1 P3 T3 G3) (fun v T9 hv => ?_)
          obtain ⟨n', s', v1, v2, v3, v4, v5, v6, v7, v8⟩ := hv
          refine ⟨n', s', v1, by omega, by omega, ?_, ?_, fun a i hn => ?_, fun a i hn => ?_, fun a i hn => ?_⟩
          · rcases v4 with g | ⟨m, g1, g2⟩
            · exact Or.inl g
            · exact Or.inr ⟨m, g1, by rw [t42] at g2; exact g2⟩
          · rw [zc_cg (fun i _ => t42 i), zc_cg (fun i _ => t42 i)] at v5
            rw [v5, hz]
          · rw [v6 a i hn, e1, st_no (by omega)]
          · rw [v7 a i hn, q1 a i (by omega)]
          · rw [v8 a i hn, all a i hn]
        have hl := l1
        by_cases k22 : (T 42 n).toInt = 2
        · have ey2 : y = 2 := i_z (by rw [ey, k22]; decide)
          have hcc : (R 8 n).toInt = 21 := by unfold sg2 at hsg; omega
          refine E2_pr ey2 ?_
          unfold fJ_X8_bind_J58 f_X8_dropHeld
          simp only [bd_lt, bd_ck]
          refine E2_ltr (fun T2 f2 => E2_ckr (fun h44 => E2_p2r ?_))
          have h44 := okI_d h44
          have tl := (T 0 44).toInt_lt
          have T244 : (T2 0 44).toInt = (T 0 44).toInt - 1 := by rw [f2, st_same, T144]; exact i_subK rfl (by decide) (by omega) (by omega)
          rcases hhs : hs (P (31 + 3 * j)) s with _ | ⟨a, r0⟩
          · rw [hhs] at h1; have : (([] : List Nat).length : Int) = 0 := rfl
            omega
          · rw [hhs] at h1 h2 hl
            have hlen : (a :: r0).length = r0.length + 1 := rfl
            have e44 : (T2 0 44).toInt = r0.length := by omega
            rw [i_cn e44]
            have v43 : (T2 43 r0.length).toInt = f + a := by rw [f2, st_no (by omega), T1f _ _ (by omega)]; exact h2.1
            have fr2 : ∀ x i, ¬ (x = 0 ∧ i = 44) → T2 x i = T1 x i := fun x i hn => by rw [f2, st_no (by omega)]
            refine fin r0 T2 _ _ fr2 ⟨e44, hV_cg (fun i _ => by rw [f2, st_no (by omega), T1f _ _ (by omega)]) h2.2⟩ (by rw [b2_s (by omega)] at hl; omega) (fun P3 T3 q => ?_)
            obtain ⟨q1, q2, q3, q4, ⟨q5, q6, q7⟩, q8⟩ := q
            have hg : ∀ i, i < s → P3 (31 + 3 * j) i = P (31 + 3 * j) i := fun i hi => q1 _ _ (by omega)
            have hgs : (P3 (31 + 3 * j) s).toInt = 10021 := by rw [q2, hcode, hcc]; rfl
            refine ⟨Or.inr (Or.inr (Or.inl ⟨a, r0, hgs, ?_, ?_, ?_⟩)), ?_⟩
            · unfold sh64; rw [q5, ey2]; decide
            · rw [hs_cg hg]; exact hhs
            · unfold sh64; rw [q6]; exact v43
            · rw [(hs_nx hg).2.1 hgs, hhs]; rfl
        · have ey2 : ¬ y = 2 := fun q => k22 (by rw [← ey, q]; decide)
          have k3 : 3 ≤ (T 42 n).toInt := by unfold sg2 at hsg; omega
          refine E2_qr ey2 ?_
          unfold f_X8_dropHeld
          simp only [bd_lt, bd_ck]
          refine E2_ltr (fun T2 f2 => E2_ckr (fun h44 => E2_p2r ?_))
          have h44 := okI_d h44
          have tl := (T 0 44).toInt_lt
          have T244 : (T2 0 44).toInt = (T 0 44).toInt - 1 := by rw [f2, st_same, T144]; exact i_subK rfl (by decide) (by omega) (by omega)
          unfold fJ_X8_bind_J58 f_X8_dropHeld
          simp only [bd_lt, bd_ck]
          refine E2_ltr (fun T3 f3 => E2_ckr (fun h45 => E2_p2r ?_))
          have h45 := okI_d h45
          have T344 : (T3 0 44).toInt = (T2 0 44).toInt - 1 := by rw [f3, st_same]; exact i_subK rfl (by decide) (by omega) (by omega)
          rcases hhs : hs (P (31 + 3 * j)) s with _ | ⟨b, _ | ⟨a, r0⟩⟩
          · rw [hhs] at h1; have : (([] : List Nat).length : Int) = 0 := rfl
            omega
          · rw [hhs] at h1; have : (([b] : List Nat).length : Int) = 1 := rfl
            omega
          · rw [hhs] at h1 h2 hl
            have hlen : (b :: a :: r0).length = r0.length + 2 := rfl
            have e44 : (T2 0 44).toInt = (r0.length + 1 : Nat) := by omega
            have e45 : (T3 0 44).toInt = r0.length := by omega
            rw [i_cn e44, i_cn e45]
            have vb : (T2 43 (r0.length + 1)).toInt = f + b := by rw [f2, st_no (by omega), T1f _ _ (by omega)]; exact h2.1
            have va : (T3 43 r0.length).toInt = f + a := by rw [f3, st_no (by omega), f2, st_no (by omega), T1f _ _ (by omega)]; exact h2.2.1
            have fr2 : ∀ x i, ¬ (x = 0 ∧ i = 44) → T3 x i = T1 x i := fun x i hn => by rw [f3, st_no (by omega), f2, st_no (by omega)]
            refine fin r0 T3 _ _ fr2 ⟨e45, hV_cg (fun i _ => by rw [f3, st_no (by omega), f2, st_no (by omega), T1f _ _ (by omega)]) h2.2.2⟩ (by rw [b2_z k3] at hl; omega) (fun P3 T4 q => ?_)
            obtain ⟨q1, q2, q3, q4, ⟨q5, q6, q7⟩, q8⟩ := q
            have hg : ∀ i, i < s → P3 (31 + 3 * j) i = P (31 + 3 * j) i := fun i hi => q1 _ _ (by omega)
            have hgs : (P3 (31 + 3 * j) s).toInt = 10000 + (R 8 n).toInt := by rw [q2, hcode]
            have hcc : ¬ (R 8 n).toInt = 21 ∧ ¬ (22 ≤ (R 8 n).toInt ∧ (R 8 n).toInt ≤ 28) := by unfold sg2 at hsg; omega
            refine ⟨Or.inr (Or.inr (Or.inr ⟨a, b, r0, ?_, ?_, ?_, ?_, ?_⟩)), ?_⟩
            · unfold sh64; rw [q5, hgs, ey, show 10000 + (R 8 n).toInt - 10000 = (R 8 n).toInt by omega]; exact hsg
            · unfold sh64; rw [q5, ey]; exact k3
            · rw [hs_cg hg]; exact hhs
            · unfold sh64; rw [q6]; exact va
            · unfold sh64; rw [q7]; exact vb
            · rw [(hs_nx hg).2.2 (by omega) (by omega), hhs]; rfl
-- 62.y.g1
/-! operands of a formula -/
def qF (j f : Nat) (R0 P0 T0 R P T : Tr) : Prop := (∀ a i, ¬ ((a = 0 ∧ (i = 1 ∨ i = 2 ∨ i = 8 ∨ i = 9)) ∨ a = 8) → R a i = R0 a i) ∧ (∀ a i, ¬ ((a = 0 ∧ i = 3) ∨ (a = 30 + 3 * j ∧ i = 1) ∨ a = 31 + 3 * j) → P a i = P0 a i) ∧ (∀ a i, ¬ ((a = 0 ∧ ((4 ≤ i ∧ i ≤ 11) ∨ i = 19 ∨ (43 ≤ i ∧ i ≤ 48))) ∨ (39 ≤ a ∧ a ≤ 41 ∧ 64 + f ≤ i) ∨ a = 42 ∨ a = 43) → T a i = T0 a i)
theorem qF_t {j f : Nat} {R0 P0 T0 R1 P1 T1 R P T : Tr} (h1 : qF j f R0 P0 T0 R1 P1 T1) (h2 : qF j f R1 P1 T1 R P T) : qF j f R0 P0 T0 R P T := ⟨fun a i hn => (h2.1 a i hn).trans (h1.1 a i hn), fun a i hn => (h2.2.1 a i hn).trans (h1.2.1 a i hn), fun a i hn => (h2.2.2 a i hn).trans (h1.2.2 a i hn)⟩
theorem qF_r {j f : Nat} {R P T : Tr} : qF j f R P T R P T := ⟨fun _ _ _ => rfl, fun _ _ _ => rfl, fun _ _ _ => rfl⟩
/-- 'not' may stand here -/
def qM (w : Int32) (n : Nat) (T : Tr) : Prop := w = 1 → (T 0 48 = 0 ↔ ∃ m, n = m + 1 ∧ 3 < rkI (T 42 m).toInt)
def eOf (w : Int32) (e : Nat) : Prop := (w = 0 ∧ e = 1) ∨ (w = 1 ∧ e = 0)
def fmS (j f : Nat) (w : Int32) (K R P T : Tr) : Prop := tkS K T ∧ (∃ e n s, eOf w e ∧ qC j f e 0 n s R P T ∧ qM w n T) ∧ T 0 47 = w ∧ R 0 1 = 0
def opQ (j f : Nat) (w : Int32) (K R P T : Tr) (q : Int32 × Tr × Tr) (q' : Int32 × Tr) : Prop := (q.1 = 0 ∧ q'.1 = 0 ∧ flt q.2.1 q'.2) ∨ (q.1 = 1 ∧ q'.1 = 1 ∧ ¬ (K 0 1).toInt = 45 ∧ ∃ T1, f_X8_token T1 = some q'.2 ∧ fmS j f w K q.2.1 q.2.2 T1 ∧ qF j f R P T q.2.1 q.2.2 T1)
theorem cn_no {K R P T : Tr} (h : P 0 3 = T 0 46) (c : (T 0 46).toInt = 64) : f_X3_countKnot K R P = some (0, st (st R 0 1 2) 0 2 (K 0 2), P) ∧ f_X8_isCounted T = some (0, st (st T 0 4 2) 0 5 (T 0 10)) := by
  unfold f_X3_countKnot fJ_X3_countKnot_J18 f_X8_isCounted
  rw [h, if_pos (show 64 ≤ T 0 46 from Int32.le_iff_toInt_le.mpr (by rw [c]; decide)), if_pos (show T 0 46 = 64 from i_z (by rw [c]; decide)), ex0, wrE]
  exact ⟨rfl, rfl⟩
theorem cn_yes {K R P T : Tr} (h : P 0 3 = T 0 46) (c : (T 0 46).toInt < 64) : f_X3_countKnot K R P = some (1, R, st P 0 3 (P 0 3 + 1)) ∧ f_X8_isCounted T = some (1, st T 0 46 (T 0 46 + 1)) := by
  unfold f_X3_countKnot fJ_X3_countKnot_J18 f_X8_isCounted
  rw [if_neg (show ¬ 64 ≤ P 0 3 from fun q => by rw [h] at q; have := tq_le (a := 64) (by decide) rfl q; omega), if_neg (show ¬ T 0 46 = 64 from fun q => by rw [q] at c; exact absurd c (by decide)), ex1]
  exact ⟨rfl, rfl⟩
theorem os_n {R : Tr} {x : Int32} {n : Nat} (h : (R 0 8).toInt = n) (hn : n < 72) : f_X3_openSign R x = some (1, st (st R 8 n x) 0 8 (R 0 8 + 1)) := by
  unfold f_X3_openSign
  rw [if_neg (fun q => by have := tq_le (a := 72) (by decide) h q; omega), okI_of (by omega) (by omega), i_cn h]
  show some ((1 : Int32), st (st R 8 n x) 0 8 ((st R 8 n x) 0 8 + 1)) = _
  rw [st_no (by omega)]
theorem wf_n {T : Tr} {k : Int32} {n : Nat} (h : (T 0 43).toInt = n) (hn : n < 96) : f_X8_waitsFor T k = some (st (st T 42 n k) 0 43 (T 0 43 + 1)) := by
  unfold f_X8_waitsFor
  rw [okI_of (by omega) (by omega), i_cn h]
  show some (st (st T 42 n k) 0 43 ((st T 42 n k) 0 43 + 1)) = _
  rw [st_no (by omega)]
theorem qC_push {j f e d e' d' n s : Nat} {R P T R1 P1 T1 : Tr} (G : qC j f e d n s R P T) (hn : n < 72) {c k : Int32} (hsg : sg2 c.toInt k.toInt)
    (r8 : (R1 0 8).toInt = n + 1) (r8n : R1 8 n = c) (r8o : ∀ i, i < n → R1 8 i = R 8 i) (t43 : (T1 0 43).toInt = n + 1) (t42n : T1 42 n = k) (t42o : ∀ i, i < n → T1 42 i = T 42 i)
    (br : R1 0 9 = T1 0 45) (zz : (T1 0 45).toInt = zc (T1 42) (n + 1) ∧ zc (T1 42) (n + 1) ≤ 8) (pf : ∀ a i, 30 ≤ a ∧ a ≤ 38 → P1 a i = P a i) (hj : j < 3)
    (tf : ∀ a i, (a = 0 ∧ (i = 19 ∨ i = 44)) ∨ (39 ≤ a ∧ a ≤ 41) ∨ a = 43 → T1 a i = T a i) (he : b2 (T1 42) (n + 1) + e' = b2 (T 42) n + e) (pk : P1 0 3 = T1 0 46) (pl : (T1 0 46).toInt ≤ 64)
    (eq : (n : Int) + 1 + s + f + d' = (T1 0 46).toInt + (T1 0 45).toInt) : qC j f e' d' (n + 1) s R1 P1 T1 := by
  obtain ⟨⟨⟨s1, s2, s3, s4⟩, s5, s6, s7⟩, ⟨n1, n2, n3⟩, ⟨h1, h2⟩, l1, c1, c2, c3⟩ := G
  have pg : P1 (31 + 3 * j) = P (31 + 3 * j) := funext fun i => pf _ i (by omega)
  refine ⟨⟨⟨by rw [r8]; omega, by rw [t43]; omega, by omega, fun i hi => ?_⟩, br, zz.1, zz.2⟩, ⟨by rw [pf _ _ (by omega)]; exact n1, by rw [tf 0 19 (by omega)]; exact n2, fun i hi => ?_⟩, ?_, ?_, pk, pl, by omega⟩
  · rcases Nat.lt_succ_iff_lt_or_eq.mp hi with g | g
    · rw [r8o i g, t42o i g]; exact s4 i g
    · rw [g, r8n, t42n]; exact hsg
  · rw [pg]
    refine nd_of (n3 i hi) (fun _ _ => rfl) ?_ ?_ ?_ <;> (unfold sh64; exact tf _ _ (by omega))
  · rw [pg]
    exact ⟨by rw [tf 0 44 (by omega)]; exact h1, hV_cg (fun i _ => tf 43 i (by omega)) h2⟩
  · rw [pg, l1, ← he]
theorem qC_leaf {j f n s : Nat} {c k a b : Int32} {R P T P1 T1 : Tr} (G : qC j f 0 1 n s R P T) (q : grQ j f s (hs (P (31 + 3 * j)) s).length c k a b P T P1 T1) (hj : j < 3)
    (hc : (0 ≤ c.toInt ∧ c.toInt < 10000 ∧ k.toInt = 0 ∧ a = c) ∨ (∃ m : Nat, m ≤ 6 ∧ c.toInt = 10022 + (m : Int) ∧ k.toInt = 1 ∧ a.toInt = m)) : qC j f 1 0 n (s + 1) R P1 T1 := by
  obtain ⟨⟨⟨s1, s2, s3, s4⟩, s5, s6, s7⟩, N, H, l1, c1, c2, c3⟩ := G
  have q0 := q
  obtain ⟨q1, q2, q3, q4, ⟨q5, q6, q7⟩, q8⟩ := q
  have hg : ∀ i, i < s → P1 (31 + 3 * j) i = P (31 + 3 * j) i := fun i hi => q1 _ _ (by omega)
  have hh : hs (P1 (31 + 3 * j)) (s + 1) = s :: hs (P (31 + 3 * j)) s := (hs_nx hg).1 (by
    rw [q2]
    rcases hc with g | ⟨m, g1, g2, _⟩
    · exact Or.inl g.2.1
    · exact Or.inr (by omega))
  have hnd : nd (P1 (31 + 3 * j)) (sh64 (T1 39)) (sh64 (T1 40)) (sh64 (T1 41)) f s := by
    rcases hc with g | ⟨m, g1, g2, g3, g4⟩
    · refine Or.inl ⟨by rw [q2]; exact g.1, by rw [q2]; exact g.2.1, ?_, ?_⟩
      · unfold sh64; rw [q5]; exact g.2.2.1
      · unfold sh64; rw [q6, q2]; exact g.2.2.2
    · refine Or.inr (Or.inl ⟨m, g1, by rw [q2]; exact g2, ?_, ?_⟩)
      · unfold sh64; rw [q5]; exact g3
      · unfold sh64; rw [q6]; exact g4
  have t42 : ∀ i, T1 42 i = T 42 i := fun i => q4 _ _ (by omega)
  refine ⟨⟨⟨s1, by rw [q4 0 43 (by omega)]; exact s2, s3, fun i hi => by rw [t42]; exact s4 i hi⟩, by rw [q4 0 45 (by omega)]; exact s5, ?_, ?_⟩, qN_add N q0 hnd, ?_, ?_, ?_, ?_, ?_⟩
  · rw [q4 0 45 (by omega), zc_cg (fun i _ => t42 i)]; exact s6
  · rw [zc_cg (fun i _ => t42 i)]; exact s7
  · rw [hh]; exact qH_add H q0
  · rw [hh, b2_cg (fun i _ => t42 i)]; show (hs (P (31 + 3 * j)) s).length + 1 = _; omega
  · rw [q1 0 3 (by omega), q4 0 46 (by omega)]; exact c1
  · rw [q4 0 46 (by omega)]; exact c2
  · rw [q4 0 46 (by omega), q4 0 45 (by omega)]; omega
theorem qC_cnt {j f e n s : Nat} {R P T : Tr} (G : qC j f e 0 n s R P T) (hj : j < 3) (h : (T 0 46).toInt < 64) : qC j f e 1 n s R (st P 0 3 (P 0 3 + 1)) (st T 0 46 (T 0 46 + 1)) := by
  obtain ⟨⟨⟨s1, s2, s3, s4⟩, s5, s6, s7⟩, ⟨n1, n2, n3⟩, ⟨h1, h2⟩, l1, c1, c2, c3⟩ := G
  have i1 : (T 0 46 + 1).toInt = (T 0 46).toInt + 1 := i_addK rfl (by decide) (by omega) (by omega)
  have pg : st P 0 3 (P 0 3 + 1) (31 + 3 * j) = P (31 + 3 * j) := funext fun i => st_no (by omega)
  have tg : ∀ a, ¬ a = 0 → st T 0 46 (T 0 46 + 1) a = T a := fun a ha => funext fun i => st_no (by omega)
  refine ⟨⟨⟨s1, by rw [st_no (by omega)]; exact s2, s3, fun i hi => by rw [tg 42 (by omega)]; exact s4 i hi⟩, by rw [st_no (by omega)]; exact s5, ?_, ?_⟩, ⟨by rw [st_no (by omega)]; exact n1, by rw [st_no (by omega)]; exact n2, fun i hi => ?_⟩, ?_, ?_, ?_, ?_, ?_⟩
  · rw [st_no (by omega), tg 42 (by omega)]; exact s6
  · rw [tg 42 (by omega)]; exact s7
  · rw [pg, tg 39 (by omega), tg 40 (by omega), tg 41 (by omega)]; exact n3 i hi
  · rw [pg]; exact ⟨by rw [st_no (by omega)]; exact h1, by rw [tg 43 (by omega)]; exact h2⟩
  · rw [pg, tg 42 (by omega)]; exact l1
  · rw [st_same, st_same, c1]
  · rw [st_same, i1]; omega
  · rw [st_same, i1, st_no (by omega)]; omega
theorem k_open {c k w : Int} (h : kI c k w) : c = 39 ↔ (k = 4 ∧ w = 40) := by unfold kI at h; omega
theorem k_not {c k w : Int} (h : kI c k w) : c = 21 ↔ (k = 1 ∧ w = 21) := by unfold kI at h; omega
theorem k_fact {c k w : Int} (h : kI c k w) : (22 ≤ c ∧ c ≤ 28) ↔ (k = 1 ∧ 22 ≤ w) := by unfold kI at h; omega
theorem k_fact2 {c k w : Int} (h : kI c k w) (h2 : 22 ≤ c ∧ c ≤ 28) : c = w := by unfold kI at h; omega
theorem is_sg {T : Tr} {x : Int32} : ((T 0 8).toInt = 4 ∧ (T 0 9).toInt = x.toInt → f_X8_isSign T x = some 1) ∧ (¬ ((T 0 8).toInt = 4 ∧ (T 0 9).toInt = x.toInt) → f_X8_isSign T x = some 0) := by
  unfold f_X8_isSign
  constructor
  · intro h
    rw [if_pos (show T 0 8 = 4 from i_z (by rw [h.1]; decide)), if_pos (i_z h.2)]
  · intro h
    by_cases c : T 0 8 = 4
    · rw [if_pos c, if_neg (fun q => h ⟨by rw [c]; decide, by rw [q]⟩)]
    · rw [if_neg c]
theorem is_ky {T : Tr} {x : Int32} : ((T 0 8).toInt = 1 ∧ (T 0 9).toInt = x.toInt → f_X8_isKey T x = some 1) ∧ (¬ ((T 0 8).toInt = 1 ∧ (T 0 9).toInt = x.toInt) → f_X8_isKey T x = some 0) := by
  unfold f_X8_isKey
  constructor
  · intro h
    rw [if_pos (show T 0 8 = 1 from i_z (by rw [h.1]; decide)), if_pos (i_z h.2)]
  · intro h
    by_cases c : T 0 8 = 1
    · rw [if_pos c, if_neg (fun q => h ⟨by rw [c]; decide, by rw [q]⟩)]
    · rw [if_neg c]
theorem lb_n {R T : Tr} {n : Nat} (h : qS n R T) : (n = 0 → f_X3_latestBinds R = some (-1)) ∧ (∀ m, n = m + 1 → ∃ r, f_X3_latestBinds R = some r ∧ r.toInt = rkI (T 42 m).toInt) := by
  obtain ⟨⟨s1, s2, s3, s4⟩, _⟩ := h
  constructor
  · intro g
    unfold f_X3_latestBinds
    rw [if_pos (i_z (by rw [s1, g]; decide))]
  · intro m g
    subst g
    have r8 : (R 0 8 - 1).toInt = m := by rw [i_subK s1 (y := 1) (by decide) (by omega) (by omega)]; omega
    have hsg := s4 m (by omega)
    have hb := b_rank hsg
    refine ⟨bindsF (R 8 m).toNatClampNeg, ?_, hb⟩
    unfold f_X3_latestBinds
    rw [if_neg (show ¬ R 0 8 = 0 from fun q => by rw [q] at s1; have : (0 : Int32).toInt = 0 := by decide
                                                  omega), i_cn r8, okI_of (by omega) (by omega), okI_of (by unfold sg2 at hsg; omega) (by unfold sg2 at hsg; omega)]
    rfl
-- 62.y.g2
theorem op_fail {j f : Nat} {w : Int32} {K R P T R1 P1 T1 : Tr} {c : Int32} (h : K 0 2 = T1 0 10) (hc : ¬ c = 0) : E2 (some ((0 : Int32), st (st R1 0 1 c) 0 2 (K 0 2), P1)) (some ((0 : Int32), st (st T1 0 4 c) 0 5 (T1 0 10))) (opQ j f w K R P T) := E2_some (Or.inl ⟨rfl, rfl, flt_of h hc⟩)
theorem op_good {j f : Nat} {w : Int32} {K R P T R1 P1 T1 : Tr} (h45 : ¬ (K 0 1).toInt = 45) (h1 : fmS j f w K R1 P1 T1) (h2 : qF j f R P T R1 P1 T1) : E2 (some ((1 : Int32), R1, P1)) (bd (f_X8_token T1) fun S => some ((1 : Int32), S)) (opQ j f w K R P T) := by
  intro a b e1 e2
  obtain ⟨T2, y1, y2⟩ := tx_bd e2
  have y2 := tx_1 y2
  have e1 := tx_1 e1
  subst y2; subst e1
  exact Or.inr ⟨rfl, rfl, h45, T1, y1, h1, h2⟩
/-- an open bracket -/
theorem e_op1 {j f : Nat} {K R P T : Tr} (hj : j < 3) (F : fmS j f 1 K R P T) (hc : (K 0 1).toInt = 39) : E2 (f_X3_readOperand j K R P) (f_X8_leafRead T) (opQ j f 1 K R P T) := by
  obtain ⟨kt, ⟨e, n, s, he, G, M⟩, w47, r01⟩ := F
  have he0 : e = 0 := by
    rcases he with ⟨g, _⟩ | ⟨_, g⟩
    · exact absurd g (by decide)
    · exact g
  subst he0
  have G0 := G
  obtain ⟨⟨⟨s1, s2, s3, s4⟩, s5, s6, s7⟩, ⟨n1, n2, n3⟩, ⟨h1, h2⟩, l1, c1, c2, c3⟩ := G
  have kk := (k_open kt.2.2.2.2.1).mp hc
  unfold f_X3_readOperand f_X8_leafRead
  rw [is_sg.1 ⟨kk.1, by rw [kk.2]; decide⟩]
  refine E2_ltl (fun y ey => E2_sr (E2_qr (by decide) (E2_pl (i_z (by rw [ey, hc]; decide)) ?_)))
  unfold fJ_X3_readOperand_J29
  by_cases c : (T 0 45).toInt = 8
  · rw [if_pos (show 8 ≤ R 0 9 from Int32.le_iff_toInt_le.mpr (by rw [s5, c]; decide)), if_pos (show T 0 45 = 8 from i_z (by rw [c]; decide)), ex0, wrE]
    exact E2_p2l (E2_pl rfl (op_fail kt.2.2.2.1 (by decide)))
  · rw [if_neg (show ¬ 8 ≤ R 0 9 from fun q => by rw [s5] at q; have := tq_le (a := 8) (by decide) rfl q; omega), if_neg (show ¬ T 0 45 = 8 from fun q => c (by rw [q]; decide)), ex1]
    refine E2_p2l (E2_ql (by decide) ?_)
    unfold f_X3_openBracket
    have hn : n < 72 := by omega
    have o := os_n (R := st R 0 9 (R 0 9 + 1)) (x := 39) (n := n) (by rw [st_no (by omega)]; exact s1) hn
    have w := wf_n (T := st T 0 45 (T 0 45 + 1)) (k := 0) (n := n) (by rw [st_no (by omega)]; exact s2) (by omega)
    refine E2_ltr (fun T1 f1 => ?_)
    rw [← f1] at w
    rw [w]
    refine E2_sr (E2_ltr (fun T2 f2 => ?_))
    show E2 (bd (bd (f_X3_openSign (st R 0 9 (R 0 9 + 1)) (39 : Int32)) fun q => lt q.1 fun r2 => lt q.2 fun R_3 => ck (okB r2) (some (r2, R_3))) fun q => lt q.1 fun r68 => lt q.2 fun R_69 => if r68 = 0 then (some ((0 : Int32), R_69, P)) else (some (1, R_69, P))) _ _
    obtain ⟨R3, g3⟩ : ∃ R3, R3 = st (st (st R 0 9 (R 0 9 + 1)) 8 n 39) 0 8 ((st R 0 9 (R 0 9 + 1)) 0 8 + 1) := ⟨_, rfl⟩
    rw [o, ← g3]
    show E2 (some ((1 : Int32), R3, P)) _ _
    have i45 : (T 0 45 + 1).toInt = (T 0 45).toInt + 1 := i_addK rfl (by decide) (by omega) (by omega)
    have R3f : ∀ a i, ¬ ((a = 0 ∧ (i = 9 ∨ i = 8)) ∨ (a = 8 ∧ i = n)) → R3 a i = R a i := fun a i hn => by rw [g3, st_no (by omega), st_no (by omega), st_no (by omega)]
    have T3f : ∀ a i, ¬ ((a = 0 ∧ (i = 45 ∨ i = 43 ∨ i = 48)) ∨ (a = 42 ∧ i = n)) → T2 a i = T a i := fun a i hn => by rw [f2, st_no (by omega), st_no (by omega), st_no (by omega), f1, st_no (by omega)]
    have t45 : T2 0 45 = T 0 45 + 1 := by rw [f2, st_no (by omega), st_no (by omega), st_no (by omega), f1, st_same]
    have t43 : (T2 0 43).toInt = n + 1 := by
      rw [f2, st_no (by omega), st_same, f1, st_no (by omega)]
      exact i_addK s2 (by decide) (by omega) (by omega)
    have t42n : T2 42 n = 0 := by rw [f2, st_no (by omega), st_no (by omega), st_same]
    have r8 : (R3 0 8).toInt = n + 1 := by
      rw [g3, st_same, st_no (by omega)]
      exact i_addK s1 (by decide) (by omega) (by omega)
    have t42o : ∀ i, i < n → T2 42 i = T 42 i := fun i hi => T3f 42 i (by omega)
    have zz : zc (T2 42) (n + 1) = zc (T 42) n + 1 := by rw [zc_z (by rw [t42n]; decide), zc_cg t42o]
    have bb : b2 (T2 42) (n + 1) = b2 (T 42) n := by rw [b2_s (by rw [t42n]; decide), b2_cg t42o]
    have k2 : tkS K T2 := by rw [f2]; exact tkS_st (tkS_st (tkS_st (by rw [f1]; exact tkS_st kt (by omega)) (by omega)) (by omega)) (by omega)
    refine op_good (by omega) ⟨k2, ⟨0, n + 1, s, Or.inr ⟨rfl, rfl⟩, qC_push (k := 0) (c := 39) (d' := 0) (e' := 0) G0 hn (Or.inl ⟨by decide, by decide⟩) r8 (by rw [g3, st_no (by omega), st_same]) (fun i hi => R3f 8 i (by omega)) t43 t42n t42o ?_ ?_ (fun _ _ _ => rfl) hj (fun a i g => T3f a i (by omega)) (by rw [bb]) (by rw [T3f 0 46 (by omega)]; exact c1) (by rw [T3f 0 46 (by omega)]; exact c2) (by rw [T3f 0 46 (by omega), t45, i45]; omega), fun _ => ?_⟩, ?_, ?_⟩ ⟨fun a i g => R3f a i (by omega), fun _ _ _ => rfl, fun a i g => T3f a i (by omega)⟩
    · rw [g3, st_no (by omega), st_no (by omega), st_same, t45, s5]
    · rw [t45, i45, zz]; omega
    · constructor
      · intro g; rw [f2, st_same] at g; exact absurd g (by decide)
      · rintro ⟨m, g1, g2⟩
        have : m = n := by omega
        rw [this, t42n] at g2
        exact absurd g2 (by decide)
    · rw [T3f 0 47 (by omega)]; exact w47
    · rw [R3f 0 1 (by omega)]; exact r01
/-- 'not' -/
theorem e_op2 {j f : Nat} {K R P T : Tr} (hj : j < 3) (F : fmS j f 1 K R P T) (hc : (K 0 1).toInt = 21) : E2 (f_X3_readOperand j K R P) (f_X8_leafRead T) (opQ j f 1 K R P T) := by
  obtain ⟨kt, ⟨e, n, s, he, G, M⟩, w47, r01⟩ := F
  have he0 : e = 0 := by
    rcases he with ⟨g, _⟩ | ⟨_, g⟩
    · exact absurd g (by decide)
    · exact g
  subst he0
  have M := M rfl
  have G0 := G
  obtain ⟨⟨⟨s1, s2, s3, s4⟩, s5, s6, s7⟩, ⟨n1, n2, n3⟩, ⟨h1, h2⟩, l1, c1, c2, c3⟩ := G
  have kk := (k_not kt.2.2.2.2.1).mp hc
  have lb := lb_n G0.1
  unfold f_X3_readOperand f_X8_leafRead
  rw [is_sg.2 (fun q => by omega), is_ky.1 ⟨kk.1, by rw [kk.2]; decide⟩]
  refine E2_ltl (fun y ey => E2_sr (E2_pr rfl (E2_sr (E2_qr (by decide) ?_))))
  have y21 : y = 21 := i_z (by rw [ey, hc]; decide)
  rw [if_neg (show ¬ y = 39 by rw [y21]; decide), if_pos y21, y21]
  have b21 : bindsF (21 : Int32).toNatClampNeg = 3 := by decide
  have ok21 : okI (21 : Int32) 40 = true := by decide
  rw [b21, ok21]
  show E2 (bd (f_X3_latestBinds R) fun r41 => if (3 : Int32) < r41 then (fJ_X3_readOperand_J73 j K 21 0 R P) else (fJ_X3_readOperand_J73 j K 21 1 R P)) _ _
  by_cases c : T 0 48 = 0
  · obtain ⟨m, g1, g2⟩ := M.mp c
    obtain ⟨r, er, hr⟩ := lb.2 m g1
    rw [er, if_pos c]
    refine E2_sl (E2_pl (Int32.lt_iff_toInt_lt.mpr (by rw [hr]; exact g2)) ?_)
    unfold fJ_X3_readOperand_J73 fJ_X8_leafRead_J86 f_X8_nameMet
    rw [if_pos (show T 0 8 = 1 from i_z (by rw [kk.1]; decide)), if_pos (show T 0 9 < 22 from Int32.lt_iff_toInt_lt.mpr (by rw [kk.2]; decide)), ex0, wrE]
    exact E2_p2l (E2_pl rfl (E2_sr (E2_qr (by decide) (E2_qr (fun q => by rw [q] at kk; exact absurd kk.1 (by decide)) (op_fail kt.2.2.2.1 (by decide))))))
  · have hr : ∃ r, f_X3_latestBinds R = some r ∧ r.toInt ≤ 3 := by
      rcases n with _ | m
      · exact ⟨_, lb.1 rfl, by decide⟩
      · obtain ⟨r, er, hr⟩ := lb.2 m rfl
        refine ⟨r, er, ?_⟩
        by_cases g : 3 < r.toInt
        · exact absurd (M.mpr ⟨m, rfl, by rw [← hr]; exact g⟩) c
        · omega
    obtain ⟨r, er, hr⟩ := hr
    rw [er, if_neg c]
    refine E2_sl (E2_ql (fun q => by have := tq_lt (a := 3) (by decide) rfl q; omega) ?_)
    unfold fJ_X3_readOperand_J73
    rw [ex1]
    refine E2_p2l (E2_ql (by decide) ?_)
    by_cases cc : (T 0 46).toInt = 64
    · rw [(cn_no (K := K) (R := R) c1 cc).1, (cn_no (K := K) (R := R) c1 cc).2]
      exact E2_sl (E2_v3l (E2_pl rfl (E2_p2r (E2_pr rfl (op_fail kt.2.2.2.1 (by decide))))))
    · have cc : (T 0 46).toInt < 64 := by omega
      rw [(cn_yes (K := K) (R := R) c1 cc).1, (cn_yes (K := K) (R := R) c1 cc).2]
      have G1 := qC_cnt G0 hj cc
      refine E2_sl (E2_v3l (E2_ql (by decide) (E2_p2r (E2_qr (by decide) ?_))))
      have hn : n < 72 := by omega
      have i46 : (T 0 46 + 1).toInt = (T 0 46).toInt + 1 := i_addK rfl (by decide) (by omega) (by omega)
      have o := os_n (R := R) (x := 21) (n := n) s1 hn
      have w := wf_n (T := st T 0 46 (T 0 46 + 1)) (k := 2) (n := n) (by rw [st_no (by omega)]; exact s2) (by omega)
      rw [o, w]
      refine E2_p2l (E2_ql (by decide) (E2_sr ?_))
      have R3f : ∀ a i, ¬ ((a = 0 ∧ i = 8) ∨ (a = 8 ∧ i = n)) → st (st R 8 n 21) 0 8 (R 0 8 + 1) a i = R a i := fun a i hn => by rw [st_no (by omega), st_no (by omega)]
      obtain ⟨T2, f2⟩ : ∃ T2, T2 = st (st (st T 0 46 (T 0 46 + 1)) 42 n 2) 0 43 ((st T 0 46 (T 0 46 + 1)) 0 43 + 1) := ⟨_, rfl⟩
      rw [← f2]
      have T3f : ∀ a i, ¬ ((a = 0 ∧ (i = 46 ∨ i = 43)) ∨ (a = 42 ∧ i = n)) → T2 a i = T a i := fun a i hn => by rw [f2, st_no (by omega), st_no (by omega), st_no (by omega)]
      have t46 : T2 0 46 = T 0 46 + 1 := by rw [f2, st_no (by omega), st_no (by omega), st_same]
      have t43 : (T2 0 43).toInt = n + 1 := by
        rw [f2, st_same, st_no (by omega)]
        exact i_addK s2 (by decide) (by omega) (by omega)
      have t42n : T2 42 n = 2 := by rw [f2, st_no (by omega), st_same]
      have r8 : ((st (st R 8 n 21) 0 8 (R 0 8 + 1)) 0 8).toInt = n + 1 := by
        rw [st_same]
        exact i_addK s1 (by decide) (by omega) (by omega)
      have t42o : ∀ i, i < n → T2 42 i = T 42 i := fun i hi => T3f 42 i (by omega)
      have zz : zc (T2 42) (n + 1) = zc (T 42) n := by rw [zc_s (by rw [t42n]; decide), zc_cg t42o]
      have bb : b2 (T2 42) (n + 1) = b2 (T 42) n := by rw [b2_s (by rw [t42n]; decide), b2_cg t42o]
      have k2 : tkS K T2 := by rw [f2]; exact tkS_st (tkS_st (tkS_st kt (by omega)) (by omega)) (by omega)
      refine op_good (by omega) ⟨k2, ⟨0, n + 1, s, Or.inr ⟨rfl, rfl⟩, qC_push (k := 2) (c := 21) (d' := 0) (e' := 0) G0 hn (Or.inr (Or.inl ⟨by decide, by decide⟩)) r8 (by rw [st_no (by omega), st_same]) (fun i hi => R3f 8 i (by omega)) t43 t42n t42o ?_ ?_ (fun a i g => st_no (by omega)) hj (fun a i g => T3f a i (by omega)) (by rw [bb]) (by rw [st_same, t46, c1]) (by rw [t46, i46]; omega) (by rw [t46, i46, T3f 0 45 (by omega)]; omega), fun _ => ?_⟩, ?_, ?_⟩ ⟨fun a i g => R3f a i (by omega), fun a i g => st_no (by omega), fun a i g => T3f a i (by omega)⟩
      · rw [R3f 0 9 (by omega), T3f 0 45 (by omega)]; exact s5
      · rw [T3f 0 45 (by omega), zz]; omega
      · rw [T3f 0 48 (by omega)]
        constructor
        · intro g; exact absurd g c
        · rintro ⟨m, g1, g2⟩
          have : m = n := by omega
          rw [this, t42n] at g2
          exact absurd g2 (by decide)
      · rw [T3f 0 47 (by omega)]; exact w47
      · rw [R3f 0 1 (by omega)]; exact r01
-- 62.y.g3
theorem qC_of {j f e d n s : Nat} {R P T T1 : Tr} (G : qC j f e d n s R P T) (h : ∀ a i, (a = 0 ∧ (i = 19 ∨ (43 ≤ i ∧ i ≤ 46))) ∨ (39 ≤ a ∧ a ≤ 43) → T1 a i = T a i) : qC j f e d n s R P T1 := by
  have t39 : T1 39 = T 39 := funext fun i => h _ _ (by omega)
  have t40 : T1 40 = T 40 := funext fun i => h _ _ (by omega)
  have t41 : T1 41 = T 41 := funext fun i => h _ _ (by omega)
  have t42 : T1 42 = T 42 := funext fun i => h _ _ (by omega)
  have t43 : T1 43 = T 43 := funext fun i => h _ _ (by omega)
  unfold qC qS qN qH at G ⊢
  rw [t39, t40, t41, t42, t43, h 0 19 (by omega), h 0 43 (by omega), h 0 44 (by omega), h 0 45 (by omega), h 0 46 (by omega)]
  exact G
/-- a leaf grows -/
theorem e_leaf {j f n s : Nat} {K R P T : Tr} {c k a : Int32} (hj : j < 3) (kt : tkS K T) (G : qC j f 0 0 n s R P T) (r01 : R 0 1 = 0) (h45 : ¬ (K 0 1).toInt = 45)
    (hc : (0 ≤ c.toInt ∧ c.toInt < 10000 ∧ k.toInt = 0 ∧ a = c) ∨ (∃ m : Nat, m ≤ 6 ∧ c.toInt = 10022 + (m : Int) ∧ k.toInt = 1 ∧ a.toInt = m)) :
    E2 (bd (f_X3_countKnot K R P) fun q => lt q.1 fun r30 => lt q.2.1 fun R_31 => lt q.2.2 fun P_32 => if r30 = 0 then (some (0, R_31, P_32)) else (bd (f_X3_put j P_32 c) fun q => lt q.1 fun r36 => lt q.2 fun P_37 => if r36 = 0 then (some (0, R_31, P_37)) else (some (1, R_31, P_37))))
      (bd (f_X8_isCounted T) fun q => lt q.1 fun r14 => lt q.2 fun S_15 => if r14 = 0 then (some (0, S_15)) else (fJ_X8_leafRead_J160 a k S_15)) (opQ j f 0 K R P T) := by
  have G0 := G
  obtain ⟨⟨⟨s1, s2, s3, s4⟩, s5, s6, s7⟩, ⟨n1, n2, n3⟩, ⟨h1, h2⟩, l1, c1, c2, c3⟩ := G
  by_cases cc : (T 0 46).toInt = 64
  · rw [(cn_no (K := K) (R := R) c1 cc).1, (cn_no (K := K) (R := R) c1 cc).2]
    exact E2_sl (E2_v3l (E2_pl rfl (E2_p2r (E2_pr rfl (op_fail kt.2.2.2.1 (by decide))))))
  · have cc : (T 0 46).toInt < 64 := by omega
    rw [(cn_yes (K := K) (R := R) c1 cc).1, (cn_yes (K := K) (R := R) c1 cc).2]
    have G1 := qC_cnt G0 hj cc
    refine E2_sl (E2_v3l (E2_ql (by decide) (E2_p2r (E2_qr (by decide) ?_))))
    obtain ⟨T1, f1⟩ : ∃ T1, T1 = st T 0 46 (T 0 46 + 1) := ⟨_, rfl⟩
    obtain ⟨P1, p1⟩ : ∃ P1, P1 = st P 0 3 (P 0 3 + 1) := ⟨_, rfl⟩
    rw [← f1, ← p1] at G1 ⊢
    unfold f_X3_put fJ_X8_leafRead_J160
    rw [bd_bd]
    refine E2_bd (e_grow (f := f) (s := s) (m := (hs (P1 (31 + 3 * j)) s).length) G1.2.1.1 G1.2.1.2.1 G1.2.2.1.1 (by omega)) (fun P2 T2 q => E2_ltr (fun T3 f3 => ?_))
    show E2 (some ((1 : Int32), R, P2)) _ _
    have G2 := qC_leaf G1 q hj hc
    have q1 := q.1
    have q4 := q.2.2.2.1
    have T3f : ∀ a i, ¬ ((a = 0 ∧ (i = 19 ∨ (43 ≤ i ∧ i ≤ 48))) ∨ (39 ≤ a ∧ a ≤ 41 ∧ 64 + f ≤ i) ∨ a = 43) → T3 a i = T a i := fun a i hn => by
      rw [f3, st_no (by omega), q4 a i (by omega), f1, st_no (by omega)]
    refine op_good h45 ⟨?_, ⟨1, n, s + 1, Or.inl ⟨rfl, rfl⟩, qC_of G2 (fun a i g => by rw [f3, st_no (by omega)]), fun g => absurd g (by decide)⟩, ?_, r01⟩ ⟨fun _ _ _ => rfl, fun a i g => by rw [q1 a i (by omega), p1, st_no (by omega)], fun a i g => T3f a i (by omega)⟩
    · exact tkS_T kt (fun i h1 h2 => T3f 0 i (by omega)) (funext fun i => T3f 1 i (by omega)) (funext fun i => T3f 4 i (by omega))
    · rw [f3, st_same]
theorem e_op3 {j f : Nat} {K R P T : Tr} (hj : j < 3) (F : fmS j f 1 K R P T) (h39 : ¬ (K 0 1).toInt = 39) (h21 : ¬ (K 0 1).toInt = 21) : E2 (f_X3_readOperand j K R P) (f_X8_leafRead T) (opQ j f 0 K R P T) := by
  obtain ⟨kt, ⟨e, n, s, he, G, M⟩, w47, r01⟩ := F
  have he0 : e = 0 := by
    rcases he with ⟨g, _⟩ | ⟨_, g⟩
    · exact absurd g (by decide)
    · exact g
  subst he0
  have kk := kt.2.2.2.2.1
  have kn := k_num kk
  have kf := k_fact kk
  unfold f_X3_readOperand f_X8_leafRead
  rw [is_sg.2 (fun q => h39 ((k_open kk).mpr ⟨q.1, by rw [q.2]; decide⟩)), is_ky.2 (fun q => h21 ((k_not kk).mpr ⟨q.1, by rw [q.2]; decide⟩))]
  refine E2_ltl (fun y ey => E2_sr (E2_pr rfl (E2_sr (E2_pr rfl ?_))))
  rw [if_neg (show ¬ y = 39 from fun q => h39 (by rw [← ey, q]; decide)), if_neg (show ¬ y = 21 from fun q => h21 (by rw [← ey, q]; decide))]
  unfold fJ_X8_leafRead_J86
  by_cases c : (K 0 1).toInt = 42
  · have t8 := kn.mp c
    have nm : f_X8_nameMet T = some (-1) := by
      unfold f_X8_nameMet
      rw [if_neg (show ¬ T 0 8 = 1 from fun q => by rw [q] at t8; exact absurd t8 (by decide))]
    rw [if_pos (show y = 42 from i_z (by rw [ey, c]; decide)), nm]
    refine E2_sr (E2_qr (by decide) (E2_pr (i_z (by rw [t8]; decide)) ?_))
    unfold fJ_X8_leafRead_J109 fJ_X3_readOperand_J126
    refine E2_qr (by decide) ?_
    have nr := kt.2.2.2.2.2.2.1 t8
    by_cases d : (T 0 9).toInt ≤ 9999
    · have ev : K 0 3 = T 0 9 ∧ 0 ≤ (T 0 9).toInt := by
        rcases nr with ⟨z, z1, _⟩ | ⟨_, _, z, _⟩
        · exact ⟨z, z1⟩
        · omega
      rw [if_pos (show T 0 9 ≤ 9999 from Int32.le_iff_toInt_le.mpr (by show _ ≤ (9999 : Int); exact d)), if_neg (show ¬ 10000 ≤ K 0 3 from fun q => by rw [ev.1] at q; have := tq_le (a := 10000) (by decide) rfl q; omega), ex1]
      refine E2_p2l (E2_ql (by decide) ?_)
      unfold fJ_X8_leafRead_J129 fJ_X8_leafRead_J148
      have z := e_leaf (c := K 0 3) (k := 0) (a := T 0 9) hj kt G r01 (by omega) (Or.inl ⟨by rw [ev.1]; exact ev.2, by rw [ev.1]; omega, by decide, ev.1.symm⟩)
      have e9 : ∀ v : Int32 × Tr, f_X8_isCounted T = some v → v.2 0 9 = T 0 9 := by
        intro v hv
        by_cases cc : (T 0 46).toInt = 64
        · rw [(cn_no (K := K) (R := R) (P := P) G.2.2.2.2.1 cc).2] at hv
          rw [← tx_1 hv]
          show st (st T 0 4 2) 0 5 (T 0 10) 0 9 = T 0 9
          rw [st_no (by omega), st_no (by omega)]
        · rw [(cn_yes (K := K) (R := R) (P := P) G.2.2.2.2.1 (by have := G.2.2.2.2.2.1; omega)).2] at hv
          rw [← tx_1 hv]
          show st T 0 46 (T 0 46 + 1) 0 9 = T 0 9
          rw [st_no (by omega)]
      intro A B e1 e2
      refine z A B e1 ?_
      obtain ⟨v, v1, v2⟩ := tx_bd e2
      rw [v1]
      have v9 := e9 v v1
      show (if v.1 = 0 then _ else fJ_X8_leafRead_J160 (T 0 9) 0 v.2) = some B
      rw [← v9]
      exact v2
    · have nl : 10000 ≤ K 0 3 := Int32.le_iff_toInt_le.mpr (by
        show (10000 : Int) ≤ _
        rcases nr with ⟨z, _⟩ | ⟨z, _⟩
        · rw [z]; omega
        · omega)
      rw [if_neg (show ¬ T 0 9 ≤ 9999 from fun q => d (tq_le (b := 9999) rfl (by decide) q)), if_pos nl, ex0, wrE]
      exact E2_p2l (E2_pl rfl (op_fail kt.2.2.2.1 (by decide)))
  · rw [if_neg (show ¬ y = 42 from fun q => c (by rw [← ey, q]; decide))]
    by_cases cf : 22 ≤ (K 0 1).toInt ∧ (K 0 1).toInt ≤ 28
    · have kw := kf.mp cf
      have kv := k_fact2 kk cf
      have hf : f_X3_isFact y = some 1 := by
        unfold f_X3_isFact
        rw [if_neg (fun q => by rw [ey] at q; have := tq_lt (b := 22) rfl (by decide) q; omega), if_neg (fun q => by rw [ey] at q; have := tq_lt (a := 28) (by decide) rfl q; omega)]
      have nm : f_X8_nameMet T = some (T 0 9 - 22) := by
        unfold f_X8_nameMet
        rw [if_pos (show T 0 8 = 1 from i_z (by rw [kw.1]; decide)), if_neg (fun q => by have := tq_lt (b := 22) rfl (by decide) q; omega)]
      have i22 : (T 0 9 - 22).toInt = (T 0 9).toInt - 22 := i_subK rfl (by decide) (by omega) (by omega)
      have i10 : ((10000 : Int32) + y).toInt = 10000 + (K 0 1).toInt := by rw [ey]; exact i_addK (by decide) rfl (by omega) (by omega)
      have nn : (0 : Int32) ≤ T 0 9 - 22 := Int32.le_iff_toInt_le.mpr (by rw [i22]; show (0 : Int) ≤ _; omega)
      rw [hf, nm]
      refine E2_sl (E2_sr (E2_pr nn ?_))
      unfold fJ_X8_leafRead_J109 fJ_X8_leafRead_J129 fJ_X8_leafRead_J148
      rw [ex1]
      refine E2_p2l (E2_ql (by decide) (E2_pr nn ?_))
      have z := e_leaf (c := (10000 : Int32) + y) (k := 1) (a := T 0 9 - 22) hj kt G r01 (by omega) (Or.inr ⟨((T 0 9).toInt - 22).toNat, by omega, by omega, by decide, by omega⟩)
      have ng : ¬ (T 0 9 - 22) < 0 := neg1 (by omega)
      intro A B e1 e2
      refine z A B e1 ?_
      obtain ⟨v, v1, v2⟩ := tx_bd e2
      rw [v1]
      show (if v.1 = 0 then _ else fJ_X8_leafRead_J160 (T 0 9 - 22) 1 v.2) = some B
      have v2 : (if v.1 = 0 then some ((0 : Int32), v.2) else (if (T 0 9 - 22) < 0 then (if (T 0 9 - 22) < 0 then fJ_X8_leafRead_J160 (v.2 0 9) 0 v.2 else fJ_X8_leafRead_J160 (T 0 9 - 22) 0 v.2) else (if (T 0 9 - 22) < 0 then fJ_X8_leafRead_J160 (v.2 0 9) 1 v.2 else fJ_X8_leafRead_J160 (T 0 9 - 22) 1 v.2))) = some B := v2
      rw [if_neg ng, if_neg ng] at v2
      exact v2
    · have hf : f_X3_isFact y = some 0 := by
        unfold f_X3_isFact
        by_cases q : y < 22
        · rw [if_pos q]
        · have := tq_ltn (b := 22) rfl (by decide) q
          rw [ey] at this
          rw [if_neg q, if_pos (Int32.lt_iff_toInt_lt.mpr (by rw [ey]; show (28 : Int) < _; omega))]
      have nm : f_X8_nameMet T = some (-1) := by
        unfold f_X8_nameMet
        by_cases q : T 0 8 = 1
        · have : ¬ 22 ≤ (T 0 9).toInt := fun g => cf (kf.mpr ⟨by rw [q]; decide, g⟩)
          rw [if_pos q, if_pos (Int32.lt_iff_toInt_lt.mpr (by show _ < (22 : Int); omega))]
        · rw [if_neg q]
      rw [hf, nm]
      refine E2_sl ?_
      rw [ex0, wrE]
      exact E2_p2l (E2_pl rfl (E2_sr (E2_qr (by decide) (E2_qr (fun q => c (kn.mpr (by rw [q]; decide))) (op_fail kt.2.2.2.1 (by decide))))))
-- 62.y.g4
/-! signs that join; a bracket closes -/
def isJ (c : Int) : Prop := c = 19 ∨ c = 20 ∨ (29 ≤ c ∧ c ≤ 38)
theorem c_join {y : Int32} : (isJ y.toInt → f_X3_isJoining y = some 1) ∧ (¬ isJ y.toInt → f_X3_isJoining y = some 0) := by
  unfold f_X3_isJoining isJ
  by_cases c1 : y = 19
  · rw [if_pos c1]; exact ⟨fun _ => rfl, fun h => absurd (Or.inl (by rw [c1]; decide)) h⟩
  · have k1 := i_isn (k := 19) (by decide) c1
    rw [if_neg c1]
    by_cases c2 : y = 20
    · rw [if_pos c2]; exact ⟨fun _ => rfl, fun h => absurd (Or.inr (Or.inl (by rw [c2]; decide))) h⟩
    · have k2 := i_isn (k := 20) (by decide) c2
      rw [if_neg c2]
      by_cases c3 : y < 29
      · have k3 := tq_lt (b := 29) rfl (by decide) c3
        rw [if_pos c3]; exact ⟨fun h => by omega, fun _ => rfl⟩
      · have k3 := tq_ltn (b := 29) rfl (by decide) c3
        rw [if_neg c3]
        by_cases c4 : 38 < y
        · have k4 := tq_lt (a := 38) (by decide) rfl c4
          rw [if_pos c4]; exact ⟨fun h => by omega, fun _ => rfl⟩
        · have k4 := tq_ltn (a := 38) (by decide) rfl c4
          rw [if_neg c4]; exact ⟨fun _ => rfl, fun h => by omega⟩
theorem sj {c v : Int} (h : (c = 20 ∧ v = 3) ∨ (c = 19 ∧ v = 4) ∨ (29 ≤ c ∧ c ≤ 38 ∧ v = c - 24)) : isJ c ∧ sg2 c v ∧ 3 ≤ v ∧ v ≤ 14 := by
  unfold isJ sg2; omega
theorem r_sign {T : Tr} {c : Int} (h : kI c (T 0 8).toInt (T 0 9).toInt) : ∃ v : Int32, fJ_X8_signs_J47 T = fJ_X8_signs_J147 v T ∧ ((isJ c ∧ sg2 c v.toInt ∧ 3 ≤ v.toInt ∧ v.toInt ≤ 14) ∨ (¬ isJ c ∧ v = 0)) := by
  unfold fJ_X8_signs_J47
  have n0 : (if (0 : Int32) = 0 then True else False) = True := by simp
  by_cases a : (T 0 8).toInt = 1 ∧ (T 0 9).toInt = 19
  · rw [is_ky.1 ⟨a.1, by rw [a.2]; decide⟩]
    refine ⟨3, rfl, Or.inl ?_⟩
    have e : (3 : Int32).toInt = 3 := by decide
    rw [e]; exact sj (Or.inl ⟨by unfold kI at h; omega, rfl⟩)
  · rw [is_ky.2 (fun q => a ⟨q.1, by rw [q.2]; decide⟩)]
    show ∃ v, (bd (f_X8_isKey T (20 : Int32)) fun r9 => if r9 = 0 then _ else (fJ_X8_signs_J147 4 T)) = _ ∧ _
    by_cases b : (T 0 8).toInt = 1 ∧ (T 0 9).toInt = 20
    · rw [is_ky.1 ⟨b.1, by rw [b.2]; decide⟩]
      refine ⟨4, rfl, Or.inl ?_⟩
      have e : (4 : Int32).toInt = 4 := by decide
      rw [e]; exact sj (Or.inr (Or.inl ⟨by unfold kI at h; omega, rfl⟩))
    · rw [is_ky.2 (fun q => b ⟨q.1, by rw [q.2]; decide⟩)]
      show ∃ v, (if (T 0 8) = 5 then (fJ_X8_signs_J147 ((5 : Int32) + (T 0 9)) T) else _) = _ ∧ _
      by_cases d : (T 0 8).toInt = 5
      · rw [if_pos (i_z (by rw [d]; decide))]
        refine ⟨(5 : Int32) + T 0 9, rfl, Or.inl ?_⟩
        have e : ((5 : Int32) + T 0 9).toInt = 5 + (T 0 9).toInt := i_addK (by decide) rfl (by unfold kI at h; omega) (by unfold kI at h; omega)
        have hw : 0 ≤ (T 0 9).toInt ∧ (T 0 9).toInt ≤ 5 ∧ c = 29 + (T 0 9).toInt := by unfold kI at h; omega
        rw [e]; exact sj (Or.inr (Or.inr ⟨by omega, by omega, by omega⟩))
      · rw [if_neg (fun q => d (by rw [q]; decide))]
        by_cases e1 : (T 0 8).toInt = 4 ∧ (T 0 9).toInt = 43
        · rw [is_sg.1 ⟨e1.1, by rw [e1.2]; decide⟩]
          refine ⟨11, rfl, Or.inl ?_⟩
          have e : (11 : Int32).toInt = 11 := by decide
          rw [e]; exact sj (Or.inr (Or.inr (by rw [show c = 35 by unfold kI at h; omega]; decide)))
        · rw [is_sg.2 (fun q => e1 ⟨q.1, by rw [q.2]; decide⟩)]
          show ∃ v, (bd (f_X8_isSign T (45 : Int32)) fun r18 => if r18 = 0 then _ else (fJ_X8_signs_J147 12 T)) = _ ∧ _
          by_cases e2 : (T 0 8).toInt = 4 ∧ (T 0 9).toInt = 45
          · rw [is_sg.1 ⟨e2.1, by rw [e2.2]; decide⟩]
            refine ⟨12, rfl, Or.inl ?_⟩
            have e : (12 : Int32).toInt = 12 := by decide
            rw [e]; exact sj (Or.inr (Or.inr (by rw [show c = 36 by unfold kI at h; omega]; decide)))
          · rw [is_sg.2 (fun q => e2 ⟨q.1, by rw [q.2]; decide⟩)]
            show ∃ v, (bd (f_X8_isSign T (42 : Int32)) fun r22 => if r22 = 0 then _ else (fJ_X8_signs_J147 13 T)) = _ ∧ _
            by_cases e3 : (T 0 8).toInt = 4 ∧ (T 0 9).toInt = 42
            · rw [is_sg.1 ⟨e3.1, by rw [e3.2]; decide⟩]
              refine ⟨13, rfl, Or.inl ?_⟩
              have e : (13 : Int32).toInt = 13 := by decide
              rw [e]; exact sj (Or.inr (Or.inr (by rw [show c = 37 by unfold kI at h; omega]; decide)))
            · rw [is_sg.2 (fun q => e3 ⟨q.1, by rw [q.2]; decide⟩)]
              show ∃ v, (bd (f_X8_isSign T (47 : Int32)) fun r26 => if r26 = 0 then (fJ_X8_signs_J147 0 T) else (fJ_X8_signs_J147 14 T)) = _ ∧ _
              by_cases e4 : (T 0 8).toInt = 4 ∧ (T 0 9).toInt = 47
              · rw [is_sg.1 ⟨e4.1, by rw [e4.2]; decide⟩]
                refine ⟨14, rfl, Or.inl ?_⟩
                have e : (14 : Int32).toInt = 14 := by decide
                rw [e]; exact sj (Or.inr (Or.inr (by rw [show c = 38 by unfold kI at h; omega]; decide)))
              · rw [is_sg.2 (fun q => e4 ⟨q.1, by rw [q.2]; decide⟩)]
                exact ⟨0, rfl, Or.inr ⟨by unfold kI at h; unfold isJ; omega, rfl⟩⟩
theorem rk_v {v : Int} (h1 : 3 ≤ v) (h2 : v ≤ 14) : 1 ≤ rkI v ∧ rkI v ≤ 6 ∧ ¬ rkI v = 3 := by
  have : v = 3 ∨ v = 4 ∨ v = 5 ∨ v = 6 ∨ v = 7 ∨ v = 8 ∨ v = 9 ∨ v = 10 ∨ v = 11 ∨ v = 12 ∨ v = 13 ∨ v = 14 := by omega
  rcases this with rfl | rfl | rfl | rfl | rfl | rfl | rfl | rfl | rfl | rfl | rfl | rfl <;> decide
theorem E2_bw {α β γ δ : Type} {Q : α → β → Prop} {x : Option γ} {y : Option δ} {k : γ → Option α} {k' : δ → Option β} {R : γ → δ → Prop} (h1 : E2 x y R) (h : ∀ a b, R a b → E2 (k a) (k' b) Q) : E2 (bd x k) (bd y k') Q := E2_bd h1 h
/-- the sign itself, once those ahead of it are closed -/
theorem e_join {j f n s : Nat} {K R P T R0 P0 T0 : Tr} {v : Int32} (hj : j < 3) (kt : tkS K T) (G : qC j f 1 0 n s R P T) (r01 : R 0 1 = 0) (h45 : ¬ (K 0 1).toInt = 45) (hv : sg2 (K 0 1).toInt v.toInt ∧ 3 ≤ v.toInt ∧ v.toInt ≤ 14) (hF : qF j f R0 P0 T0 R P T) : E2 (fJ_X3_readJoining_J57 j K 1 R P) (fJ_X8_signs_J217 v T) (opQ j f 1 K R0 P0 T0) := by
  have G0 := G
  obtain ⟨⟨⟨s1, s2, s3, s4⟩, s5, s6, s7⟩, ⟨n1, n2, n3⟩, ⟨h1, h2⟩, l1, c1, c2, c3⟩ := G
  unfold fJ_X3_readJoining_J57 fJ_X8_signs_J217
  rw [ex1]
  refine E2_p2l (E2_ql (by decide) ?_)
  by_cases cc : (T 0 46).toInt = 64
  · rw [(cn_no (K := K) (R := R) c1 cc).1, (cn_no (K := K) (R := R) c1 cc).2]
    exact E2_sl (E2_v3l (E2_pl rfl (E2_p2r (E2_pr rfl (op_fail kt.2.2.2.1 (by decide))))))
  · have cc : (T 0 46).toInt < 64 := by omega
    rw [(cn_yes (K := K) (R := R) c1 cc).1, (cn_yes (K := K) (R := R) c1 cc).2]
    refine E2_sl (E2_v3l (E2_ql (by decide) (E2_p2r (E2_qr (by decide) ?_))))
    have hn : n < 72 := by omega
    have i46 : (T 0 46 + 1).toInt = (T 0 46).toInt + 1 := i_addK rfl (by decide) (by omega) (by omega)
    have o := os_n (R := R) (x := K 0 1) (n := n) s1 hn
    have w := wf_n (T := st T 0 46 (T 0 46 + 1)) (k := v) (n := n) (by rw [st_no (by omega)]; exact s2) (by omega)
    obtain ⟨r, er, hr⟩ := e_rank v
    rw [o, w]
    refine E2_p2l (E2_ql (by decide) (E2_sr (E2_ltr (fun T2 f2 => ?_))))
    rw [er]
    refine E2_sr ?_
    have rk := rk_v hv.2.1 hv.2.2
    obtain ⟨R3, g3⟩ : ∃ R3, R3 = st (st R 8 n (K 0 1)) 0 8 (R 0 8 + 1) := ⟨_, rfl⟩
    rw [← g3]
    have R3f : ∀ a i, ¬ ((a = 0 ∧ i = 8) ∨ (a = 8 ∧ i = n)) → R3 a i = R a i := fun a i hn => by rw [g3, st_no (by omega), st_no (by omega)]
    have T2f : ∀ a i, ¬ ((a = 0 ∧ (i = 46 ∨ i = 43 ∨ i = 47)) ∨ (a = 42 ∧ i = n)) → T2 a i = T a i := fun a i hn => by rw [f2, st_no (by omega), st_no (by omega), st_no (by omega), st_no (by omega)]
    have t46 : T2 0 46 = T 0 46 + 1 := by rw [f2, st_no (by omega), st_no (by omega), st_no (by omega), st_same]
    have t43 : (T2 0 43).toInt = n + 1 := by
      rw [f2, st_no (by omega), st_same, st_no (by omega)]
      exact i_addK s2 (by decide) (by omega) (by omega)
    have t42n : T2 42 n = v := by rw [f2, st_no (by omega), st_no (by omega), st_same]
    have t47 : T2 0 47 = 1 := by rw [f2, st_same]
    have r8 : (R3 0 8).toInt = n + 1 := by
      rw [g3, st_same]
      exact i_addK s1 (by decide) (by omega) (by omega)
    have fin : ∀ u : Int32, (u = 0 ↔ 3 ≤ rkI v.toInt) → E2 (some ((1 : Int32), R3, st P 0 3 (P 0 3 + 1))) (fJ_X8_signs_J250 u T2) (opQ j f 1 K R0 P0 T0) := by
      intro u hu
      unfold fJ_X8_signs_J250
      refine E2_ckr (fun _ => E2_ltr (fun T3 f3 => ?_))
      have T3f : ∀ a i, ¬ ((a = 0 ∧ (i = 46 ∨ i = 43 ∨ i = 47 ∨ i = 48)) ∨ (a = 42 ∧ i = n)) → T3 a i = T a i := fun a i hn => by rw [f3, st_no (by omega), T2f a i (by omega)]
      have t42o : ∀ i, i < n → T3 42 i = T 42 i := fun i hi => T3f 42 i (by omega)
      have u42n : T3 42 n = v := by rw [f3, st_no (by omega), t42n]
      have u46 : T3 0 46 = T 0 46 + 1 := by rw [f3, st_no (by omega), t46]
      have zz : zc (T3 42) (n + 1) = zc (T 42) n := by rw [zc_s (by rw [u42n]; omega), zc_cg t42o]
      have bb : b2 (T3 42) (n + 1) = b2 (T 42) n + 1 := by rw [b2_z (by rw [u42n]; omega), b2_cg t42o]
      have k3 : tkS K T3 := tkS_T kt (fun i h1 h2 => T3f 0 i (by omega)) (funext fun i => T3f 1 i (by omega)) (funext fun i => T3f 4 i (by omega))
      refine op_good h45 ⟨k3, ⟨0, n + 1, s, Or.inr ⟨rfl, rfl⟩, qC_push (k := v) (c := K 0 1) (d' := 0) (e' := 0) G0 hn hv.1 r8 (by rw [g3, st_no (by omega), st_same]) (fun i hi => R3f 8 i (by omega)) (by rw [f3, st_no (by omega)]; exact t43) u42n t42o ?_ ?_ (fun a i g => st_no (by omega)) hj (fun a i g => T3f a i (by omega)) (by rw [bb]) (by rw [st_same, u46, c1]) (by rw [u46, i46]; omega) (by rw [u46, i46, T3f 0 45 (by omega)]; omega), fun _ => ?_⟩, ?_, ?_⟩ (qF_t hF ⟨fun a i g => R3f a i (by omega), fun a i g => st_no (by omega), fun a i g => T3f a i (by omega)⟩)
      · rw [R3f 0 9 (by omega), T3f 0 45 (by omega)]; exact s5
      · rw [T3f 0 45 (by omega), zz]; omega
      · rw [f3, st_same, hu]
        constructor
        · intro g
          refine ⟨n, rfl, ?_⟩
          rw [st_no (by omega), t42n]; omega
        · rintro ⟨m, g1, g2⟩
          have : m = n := by omega
          rw [this, st_no (by omega), t42n] at g2
          omega
      · rw [f3, st_no (by omega)]; exact t47
      · rw [R3f 0 1 (by omega)]; exact r01
    by_cases c3 : 3 ≤ rkI v.toInt
    · exact E2_pr (Int32.le_iff_toInt_le.mpr (by rw [hr]; exact c3)) (fin 0 ⟨fun _ => c3, fun _ => rfl⟩)
    · exact E2_qr (fun q => c3 (by have := tq_le (a := 3) (by decide) hr q; exact this)) (fin 1 ⟨fun q => absurd q (by decide), fun q => absurd q c3⟩)
theorem e_closeF {j f e d n s : Nat} {x2 : Int32} {R P T : Tr} (hj : j < 3) (hx : 1 ≤ x2.toInt) (G : qC j f e d n s R P T) : E2 (f_X3_closeSigns j R P x2) (f_X8_bind T x2) (fun q T1 => clQ j f e d n s x2 R P T q.1 q.2 T1) := e_close hj hx 2000 e d n s R P T G
theorem cl_F {j f e d n s : Nat} {x : Int32} {R P T R1 P1 T1 : Tr} (h : clQ j f e d n s x R P T R1 P1 T1) : qF j f R P T R1 P1 T1 := by
  obtain ⟨n1, s1, v1, v2, v3, v4, v5, v6, v7, v8⟩ := h
  exact ⟨fun a i g => v6 a i (by omega), fun a i g => v7 a i (by omega), fun a i g => v8 a i (by omega)⟩
theorem cl_tk {j f e d n s : Nat} {x : Int32} {K R P T R1 P1 T1 : Tr} (h : clQ j f e d n s x R P T R1 P1 T1) (k : tkS K T) : tkS K T1 := by
  obtain ⟨n1, s1, v1, v2, v3, v4, v5, v6, v7, v8⟩ := h
  exact tkS_T k (fun i h1 h2 => v8 0 i (by omega)) (funext fun i => v8 1 i (by omega)) (funext fun i => v8 4 i (by omega))
/-- a joining sign -/
theorem e_joins {j f : Nat} {K R P T : Tr} (hj : j < 3) (F : fmS j f 0 K R P T) (hJ : isJ (K 0 1).toInt) : E2 (f_X3_readJoining j K R P) (f_X8_signs T) (opQ j f 1 K R P T) := by
  obtain ⟨kt, ⟨e, n, s, he, G, M⟩, w47, r01⟩ := F
  have he0 : e = 1 := by
    rcases he with ⟨_, g⟩ | ⟨g, _⟩
    · exact g
    · exact absurd g (by decide)
  subst he0
  have kk := kt.2.2.2.2.1
  have h45 : ¬ (K 0 1).toInt = 45 := by unfold isJ at hJ; omega
  unfold f_X3_readJoining f_X8_signs
  rw [is_sg.2 (fun q => by
    have q2 := q.2
    have : (41 : Int32).toInt = 41 := by decide
    rw [this] at q2
    unfold kI at kk; unfold isJ at hJ; omega)]
  obtain ⟨v, ev, hv⟩ := r_sign kk
  rw [ev]
  have hv : sg2 (K 0 1).toInt v.toInt ∧ 3 ≤ v.toInt ∧ v.toInt ≤ 14 := by
    rcases hv with ⟨_, g⟩ | ⟨g, _⟩
    · exact g
    · exact absurd hJ g
  have hb := b_rank hv.1
  have rk := rk_v hv.2.1 hv.2.2
  obtain ⟨r, er, hr⟩ := e_rank v
  have e4 : bindsF (K 0 1).toNatClampNeg = r := i_z (by rw [hb, hr])
  rw [e4]
  refine E2_ckl (fun _ => E2_ltl (fun y ey => E2_sr (E2_pr rfl ?_)))
  unfold fJ_X8_signs_J147
  refine E2_qr (fun q => by rw [q] at hv; exact absurd hv.2.1 (by decide)) ?_
  rw [er]
  refine E2_sr ?_
  rw [ey]
  unfold fJ_X3_readJoining_J22 fJ_X3_readJoining_J36 fJ_X8_signs_J175
  by_cases c4 : rkI v.toInt = 4
  · have r4 : r = 4 := i_z (by rw [hr, c4]; decide)
    rw [if_pos r4, if_pos r4]
    refine E2_ql (by decide) ?_
    rw [r4, show (4 : Int32) + 1 = 5 from by decide]
    refine E2_bd (e_closeF (x2 := 5) hj (by decide) G) (fun q T1 hq => ?_)
    obtain ⟨R1, P1⟩ := q
    have hq : clQ j f 1 0 n s 5 R P T R1 P1 T1 := hq
    refine E2_v2l ?_
    rw [er]
    refine E2_ql (by decide) (E2_sr (E2_pr r4 ?_))
    have k1 := cl_tk hq kt
    have F1 := cl_F hq
    obtain ⟨n1, s1, v1, v2, v3, v4, v5, v6, v7, v8⟩ := hq
    have lb := lb_n v1.1
    have r01' : R1 0 1 = 0 := by rw [v6 0 1 (by omega)]; exact r01
    have jn := e_join hj k1 v1 r01' h45 hv F1
    unfold fJ_X3_readJoining_J52
    rcases n1 with _ | m
    · rw [lb.1 rfl]
      refine E2_sl (E2_ql (by decide) (E2_pr (Int32.le_iff_toInt_le.mpr (by rw [v1.1.1.2.1]; decide)) jn))
    · obtain ⟨r2, er2, hr2⟩ := lb.2 m rfl
      have t43 : (T1 0 43 - 1).toInt = m := by rw [i_subK v1.1.1.2.1 (y := 1) (by decide) (by omega) (by have := v1.1.1.2.2.1; omega)]; omega
      obtain ⟨r3, er3, hr3⟩ := e_rank (T1 42 m)
      have e23 : r2 = r3 := i_z (by rw [hr2, hr3])
      rw [er2, i_cn t43, er3]
      refine E2_sl (E2_qr (fun q => by have := tq_le (b := 0) v1.1.1.2.1 (by decide) q; omega) (E2_ckr (fun _ => E2_sr ?_)))
      rw [e23]
      have top : rkI (T1 42 m).toInt < 5 := by
        rcases v4 with g | ⟨m', g1, g2⟩
        · omega
        · have : m' = m := by omega
          rw [this, ← v8 42 m (by omega)] at g2
          exact g2
      by_cases cz : rkI (T1 42 m).toInt = 4
      · have z3 : r3 = 4 := i_z (by rw [hr3, cz]; decide)
        refine E2_pl (by rw [z3]; decide) (E2_pr z3 ?_)
        unfold fJ_X3_readJoining_J57
        rw [ex0, wrE]
        exact E2_p2l (E2_pl rfl (op_fail k1.2.2.2.1 (by decide)))
      · refine E2_ql (fun q => ?_) (E2_qr (fun q => cz (by rw [← hr3, q]; decide)) jn)
        have := tq_le (a := 4) (by decide) hr3 q
        omega
  · have r4 : ¬ r = 4 := fun q => c4 (by rw [← hr, q]; decide)
    rw [if_neg r4, if_neg r4]
    refine E2_pl rfl (E2_sr ?_)
    refine E2_bd (e_closeF (x2 := r) hj (by omega) G) (fun q T1 hq => ?_)
    obtain ⟨R1, P1⟩ := q
    have hq : clQ j f 1 0 n s r R P T R1 P1 T1 := hq
    refine E2_v2l ?_
    rw [er]
    refine E2_pl rfl (E2_sr (E2_qr r4 ?_))
    have k1 := cl_tk hq kt
    have F1 := cl_F hq
    obtain ⟨n1, s1, v1, v2, v3, v4, v5, v6, v7, v8⟩ := hq
    unfold fJ_X3_readJoining_J52
    exact e_join hj k1 v1 (by rw [v6 0 1 (by omega)]; exact r01) h45 hv F1
-- 62.y.g5
/-! a bracket closes; the whole formula -/
theorem rk_0 {c k : Int} (h : sg2 c k) (h1 : rkI k < 1) : k = 0 := by
  unfold sg2 at h
  rcases h with ⟨_, h⟩ | ⟨_, h⟩ | ⟨_, h⟩ | ⟨_, h⟩ | ⟨h2, h3, h⟩
  · exact h
  · rw [h] at h1; exact absurd h1 (by decide)
  · rw [h] at h1; exact absurd h1 (by decide)
  · rw [h] at h1; exact absurd h1 (by decide)
  · have := (rk_v (v := k) (by omega) (by omega)).1; omega
theorem frS_cl {j : Nat} {x2 : Int32} {R0 : Tr} (N : Nat) : ∀ (R P : Tr), (∀ a i, ¬ (a = 0 ∧ i = 8) → R a i = R0 a i) → Ep (lpF (fun _ _ => none) (fB_X3_closeSigns_L0 j x2) N R P) (fun q => ∀ a i, ¬ (a = 0 ∧ i = 8) → q.1 a i = R0 a i) := by
  induction N with
  | zero => intro R P _; exact Ep_none
  | succ N ih =>
    intro R P h
    show Ep (fB_X3_closeSigns_L0 j x2 (lpF (fun _ _ => none) (fB_X3_closeSigns_L0 j x2) N) R P) _
    generalize lpF (fun _ _ => none) (fB_X3_closeSigns_L0 j x2) N = k1 at ih ⊢
    unfold fB_X3_closeSigns_L0
    exact Ep_ite (fun _ => Ep_some h) (fun _ => Ep_any (fun r => Ep_ite (fun _ => Ep_some h) (fun _ => Ep_lt (fun R1 e1 => Ep_ck (Ep_any (fun P1 => ih R1 P1 (fun a i hn => by rw [e1, st_no hn, h a i hn])))))))
theorem frS_close {j : Nat} {x2 : Int32} {R P : Tr} : Ep (f_X3_closeSigns j R P x2) (fun q => ∀ a i, ¬ (a = 0 ∧ i = 8) → q.1 a i = R a i) := frS_cl 2000 R P (fun _ _ _ => rfl)
theorem e_brk {j f : Nat} {K R P T : Tr} (hj : j < 3) (F : fmS j f 0 K R P T) (hc : (K 0 1).toInt = 40) (hb : ¬ (R 0 9).toInt ≤ 0) : E2 (bd (f_X3_closeBracket j R P) fun q => some ((1 : Int32), q.1, q.2)) (f_X8_signs T) (opQ j f 0 K R P T) := by
  obtain ⟨kt, ⟨e, n, s, he, G, M⟩, w47, r01⟩ := F
  have he0 : e = 1 := by
    rcases he with ⟨_, g⟩ | ⟨g, _⟩
    · exact g
    · exact absurd g (by decide)
  subst he0
  have kk := kt.2.2.2.2.1
  have s5 := G.1.2.1
  have k40 : (T 0 8).toInt = 4 ∧ (T 0 9).toInt = 41 := by unfold kI at kk; omega
  unfold f_X3_closeBracket f_X8_signs
  rw [is_sg.1 ⟨k40.1, by rw [k40.2]; decide⟩]
  rw [s5] at hb
  refine E2_sr (E2_qr (by decide) (E2_qr (fun q => hb (by have := tq_le (b := 0) rfl (by decide) q; exact this)) ?_))
  rw [bd_bd]
  refine E2_bd (e_closeF (x2 := 1) hj (by decide) G) (fun q T1 hq => ?_)
  obtain ⟨R1, P1⟩ := q
  have hq : clQ j f 1 0 n s 1 R P T R1 P1 T1 := hq
  have k1 := cl_tk hq kt
  have F1 := cl_F hq
  obtain ⟨n1, s1, v1, v2, v3, v4, v5, v6, v7, v8⟩ := hq
  obtain ⟨⟨⟨a1, a2, a3, a4⟩, a5, a6, a7⟩, ⟨b1, b3, b4⟩, ⟨h1, h2⟩, l1, c1, c2, c3⟩ := v1
  refine E2_ltr (fun T2 f2 => E2_ltr (fun T3 f3 => ?_))
  have t45 : T1 0 45 = T 0 45 := v8 0 45 (by omega)
  have hm : ∃ m, n1 = m + 1 ∧ (T1 42 m).toInt = 0 := by
    rcases v4 with g | ⟨m, g1, g2⟩
    · rw [g] at a6
      have : zc (T1 42) 0 = 0 := rfl
      rw [this, t45] at a6
      omega
    · refine ⟨m, g1, rk_0 (a4 m (by omega)) ?_⟩
      rw [v8 42 m (by omega)]; exact g2
  obtain ⟨m, em, hz⟩ := hm
  subst em
  have z1 := zc_z hz
  have y1 := b2_s (u := T1 42) (n := m) (by omega)
  show E2 (some ((1 : Int32), st (st R1 0 8 (R1 0 8 - 1)) 0 9 ((st R1 0 8 (R1 0 8 - 1)) 0 9 - 1), P1)) _ _
  obtain ⟨R3, g3⟩ : ∃ R3, R3 = st (st R1 0 8 (R1 0 8 - 1)) 0 9 ((st R1 0 8 (R1 0 8 - 1)) 0 9 - 1) := ⟨_, rfl⟩
  rw [← g3]
  have R3f : ∀ a i, ¬ (a = 0 ∧ (i = 8 ∨ i = 9)) → R3 a i = R1 a i := fun a i hn => by rw [g3, st_no (by omega), st_no (by omega)]
  have T3f : ∀ a i, ¬ (a = 0 ∧ (i = 43 ∨ i = 45)) → T3 a i = T1 a i := fun a i hn => by rw [f3, st_no (by omega), f2, st_no (by omega)]
  have r8 : (R3 0 8).toInt = m := by rw [g3, st_no (by omega), st_same, i_subK a1 (y := 1) (by decide) (by omega) (by omega)]; omega
  have r9 : R3 0 9 = R1 0 9 - 1 := by rw [g3, st_same, st_no (by omega)]
  have t43 : (T3 0 43).toInt = m := by rw [f3, st_no (by omega), f2, st_same, i_subK a2 (y := 1) (by decide) (by omega) (by omega)]; omega
  have t45' : T3 0 45 = T1 0 45 - 1 := by rw [f3, st_same, f2, st_no (by omega)]
  have t45i : (T3 0 45).toInt = (T1 0 45).toInt - 1 := by rw [t45']; exact i_subK rfl (by decide) (by omega) (by omega)
  have x39 : T3 39 = T1 39 := funext fun i => T3f _ _ (by omega)
  have x40 : T3 40 = T1 40 := funext fun i => T3f _ _ (by omega)
  have x41 : T3 41 = T1 41 := funext fun i => T3f _ _ (by omega)
  have x42 : T3 42 = T1 42 := funext fun i => T3f _ _ (by omega)
  have x43 : T3 43 = T1 43 := funext fun i => T3f _ _ (by omega)
  refine op_good (by omega) ⟨tkS_T k1 (fun i h1 h2 => T3f 0 i (by omega)) (funext fun i => T3f 1 i (by omega)) (funext fun i => T3f 4 i (by omega)), ⟨1, m, s1, Or.inl ⟨rfl, rfl⟩, ⟨⟨⟨r8, t43, by omega, fun i hi => ?_⟩, ?_, ?_, ?_⟩, ⟨b1, ?_, fun i hi => ?_⟩, ⟨?_, ?_⟩, ?_, ?_, ?_, ?_⟩, fun g => absurd g (by decide)⟩, ?_, ?_⟩ (qF_t F1 ⟨fun a i g => R3f a i (by omega), fun _ _ _ => rfl, fun a i g => T3f a i (by omega)⟩)
  · rw [R3f 8 i (by omega), x42]; exact a4 i (by omega)
  · rw [r9, t45', a5]
  · rw [t45i, a6, x42, z1]; omega
  · rw [x42]; omega
  · rw [T3f 0 19 (by omega)]; exact b3
  · rw [x39, x40, x41]; exact b4 i hi
  · rw [T3f 0 44 (by omega)]; exact h1
  · rw [x43]; exact h2
  · rw [x42, l1, y1]
  · rw [T3f 0 46 (by omega)]; exact c1
  · rw [T3f 0 46 (by omega)]; exact c2
  · rw [T3f 0 46 (by omega), t45i]; omega
  · rw [T3f 0 47 (by omega), v8 0 47 (by omega)]; exact w47
  · rw [R3f 0 1 (by omega), v6 0 1 (by omega)]; exact r01
/-- how a formula comes back -/
def fmQ (j f : Nat) (K R P T : Tr) (q : Int32 × Tr × Tr × Tr) (q' : Int32 × Tr) : Prop := (q.1 = 0 ∧ q'.1 = 0 ∧ flt q.2.2.1 q'.2 ∧ frK K q.2.1) ∨ (q.1 = 1 ∧ ¬ q.2.1 0 1 = 41 ∧ q'.1 = 0 ∧ q'.2 0 4 = 1 ∧ q'.2 0 5 = q.2.1 0 2 ∧ frK K q.2.1 ∧ q.2.2.1 0 1 = 0) ∨ (q.1 = 1 ∧ q.2.1 0 1 = 41 ∧ q'.1 = 1 ∧ tkS q.2.1 q'.2 ∧ (∃ s, qC j f 1 0 0 s q.2.2.1 q.2.2.2 q'.2) ∧ q.2.2.1 0 1 = 0 ∧ frK K q.2.1 ∧ qF j f R P T q.2.2.1 q.2.2.2 q'.2 ∧ (T 0 10).toInt ≤ (q'.2 0 10).toInt)
theorem fm_mono {j f : Nat} {K R P T K0 R0 P0 T0 : Tr} {q : Int32 × Tr × Tr × Tr} {q' : Int32 × Tr} (hK : frK K0 K) (hF : qF j f R0 P0 T0 R P T) (hp : (T0 0 10).toInt ≤ (T 0 10).toInt) (h : fmQ j f K R P T q q') : fmQ j f K0 R0 P0 T0 q q' := by
  rcases h with ⟨a, b, c, d⟩ | ⟨a, b, c, d, e, g, i⟩ | ⟨a, b, c, d, e, g, i, k, l⟩
  · exact Or.inl ⟨a, b, c, frK_t hK d⟩
  · exact Or.inr (Or.inl ⟨a, b, c, d, e, frK_t hK g, i⟩)
  · exact Or.inr (Or.inr ⟨a, b, c, d, e, g, frK_t hK i, qF_t hF k, by omega⟩)
theorem fm_stop {j f : Nat} {K R P T K0 R0 P0 T0 : Tr} {x2 x4 : Int32} (hf : flt R T) (hK : frK K0 K) (N : Nat) : E2 (lpF (fun _ _ _ _ _ _ => none) (fB_X3_readFormula_L17 j) N x2 0 x4 K R P) (some ((0 : Int32), T)) (fmQ j f K0 R0 P0 T0) := by
  cases N with
  | zero => exact E2_nl
  | succ N =>
    show E2 (fB_X3_readFormula_L17 j (lpF (fun _ _ _ _ _ _ => none) (fB_X3_readFormula_L17 j) N) x2 0 x4 K R P) _ _
    generalize lpF (fun _ _ _ _ _ _ => none) (fB_X3_readFormula_L17 j) N = k
    have h147 : E2 (fJ_X3_readFormula_J147 j K R P) (some ((0 : Int32), T)) (fmQ j f K0 R0 P0 T0) := by
      unfold fJ_X3_readFormula_J147
      refine E2_bl frS_close (fun q hq => ?_)
      obtain ⟨R1, P1⟩ := q
      have hq : ∀ a i, ¬ (a = 0 ∧ i = 8) → R1 a i = R a i := hq
      refine E2_v2l (E2_ql (fun g => hf.2.2 (by rw [← hq 0 1 (by omega)]; exact g)) (E2_some (Or.inl ⟨rfl, rfl, ⟨?_, ?_, ?_⟩, hK⟩)))
      · show R1 0 1 = T 0 4
        rw [hq 0 1 (by omega)]; exact hf.1
      · show R1 0 2 = T 0 5
        rw [hq 0 2 (by omega)]; exact hf.2.1
      · show ¬ R1 0 1 = 0
        rw [hq 0 1 (by omega)]; exact hf.2.2
    unfold fB_X3_readFormula_L17
    exact E2_itl (fun _ => h147) (fun _ => E2_pl rfl h147)
-- 62.y.g6
theorem E2_tr {α β γ : Type} {Q : α → β → Prop} {x : Option α} {y : Option γ} {k : γ → Option β} (h : ∀ a, E2 x (k a) Q) : E2 x (bd y k) Q := E2_br (R := fun _ => True) (fun _ _ => trivial) (fun a _ => h a)
theorem fm_bad {j f : Nat} {K R P T : Tr} {x2 x4 : Int32} (hk : K 0 2 = T 0 10) (r01 : R 0 1 = 0) (hc : ¬ K 0 1 = 41 ∨ ¬ R 0 9 = 0) (N : Nat) : E2 (lpF (fun _ _ _ _ _ _ => none) (fB_X3_readFormula_L17 j) N x2 0 x4 K R P) (some ((0 : Int32), st (st T 0 4 1) 0 5 (T 0 10))) (fmQ j f K R P T) := by
  cases N with
  | zero => exact E2_nl
  | succ N =>
    show E2 (fB_X3_readFormula_L17 j (lpF (fun _ _ _ _ _ _ => none) (fB_X3_readFormula_L17 j) N) x2 0 x4 K R P) _ _
    generalize lpF (fun _ _ _ _ _ _ => none) (fB_X3_readFormula_L17 j) N = k
    have h147 : E2 (fJ_X3_readFormula_J147 j K R P) (some ((0 : Int32), st (st T 0 4 1) 0 5 (T 0 10))) (fmQ j f K R P T) := by
      unfold fJ_X3_readFormula_J147
      refine E2_bl frS_close (fun q hq => ?_)
      obtain ⟨R1, P1⟩ := q
      have hq : ∀ a i, ¬ (a = 0 ∧ i = 8) → R1 a i = R a i := hq
      have q1 : R1 0 1 = 0 := by rw [hq 0 1 (by omega)]; exact r01
      have q9 : R1 0 9 = R 0 9 := hq 0 9 (by omega)
      refine E2_v2l (E2_pl q1 ?_)
      unfold fJ_X3_readFormula_J173
      by_cases c9 : R 0 9 = 0
      · refine E2_pl (by rw [q9]; exact c9) ?_
        rw [ex1]
        refine E2_p2l (E2_ql (by decide) (E2_some (Or.inr (Or.inl ⟨rfl, ?_, rfl, ?_, ?_, frK_r, q1⟩))))
        · rcases hc with g | g
          · exact g
          · exact absurd c9 g
        · show st (st T 0 4 1) 0 5 (T 0 10) 0 4 = 1
          rw [st_no (by omega), st_same]
        · show st (st T 0 4 1) 0 5 (T 0 10) 0 5 = K 0 2
          rw [st_same]; exact hk.symm
      · refine E2_ql (by rw [q9]; exact c9) ?_
        rw [ex0]
        exact E2_p2l (E2_pl rfl (E2_some (Or.inl ⟨rfl, rfl, flt_of hk (by decide), frK_r⟩)))
    unfold fB_X3_readFormula_L17
    exact E2_itl (fun _ => h147) (fun _ => E2_pl rfl h147)
theorem fm_exit {j f n s : Nat} {K R P T : Tr} {x2 x4 : Int32} (hj : j < 3) (kt : tkS K T) (G : qC j f 1 0 n s R P T) (r01 : R 0 1 = 0) (hc : K 0 1 = 41) (hb : (T 0 45).toInt = 0) (N : Nat) : E2 (lpF (fun _ _ _ _ _ _ => none) (fB_X3_readFormula_L17 j) N x2 0 x4 K R P) (fJ_X8_sumRead_J74 T) (fmQ j f K R P T) := by
  cases N with
  | zero => exact E2_nl
  | succ N =>
    show E2 (fB_X3_readFormula_L17 j (lpF (fun _ _ _ _ _ _ => none) (fB_X3_readFormula_L17 j) N) x2 0 x4 K R P) _ _
    generalize lpF (fun _ _ _ _ _ _ => none) (fB_X3_readFormula_L17 j) N = k
    have h147 : E2 (fJ_X3_readFormula_J147 j K R P) (fJ_X8_sumRead_J74 T) (fmQ j f K R P T) := by
      unfold fJ_X3_readFormula_J147 fJ_X8_sumRead_J74
      refine E2_bd (e_closeF (x2 := 1) hj (by decide) G) (fun q T1 hq => ?_)
      obtain ⟨R1, P1⟩ := q
      have hq : clQ j f 1 0 n s 1 R P T R1 P1 T1 := hq
      have k1 := cl_tk hq kt
      have F1 := cl_F hq
      obtain ⟨n1, s1, v1, v2, v3, v4, v5, v6, v7, v8⟩ := hq
      have q1 : R1 0 1 = 0 := by rw [v6 0 1 (by omega)]; exact r01
      have q9 : R1 0 9 = 0 := by
        rw [v6 0 9 (by omega), G.1.2.1]
        exact i_z (by rw [hb]; decide)
      have n0 : n1 = 0 := by
        rcases v4 with g | ⟨m, g1, g2⟩
        · exact g
        · exfalso
          have hz := rk_0 (v1.1.1.2.2.2 m (by omega)) (by rw [v8 42 m (by omega)]; exact g2)
          have h6 := v1.1.2.2.1
          rw [g1, zc_z hz, v8 0 45 (by omega), hb] at h6
          omega
      subst n0
      refine E2_v2l (E2_pl q1 (E2_pl q9 ?_))
      unfold fJ_X3_readFormula_J173
      rw [ex1]
      refine E2_p2l (E2_ql (by decide) (E2_some (Or.inr (Or.inr ⟨rfl, hc, rfl, k1, ⟨s1, v1⟩, q1, frK_r, F1, ?_⟩))))
      show (T 0 10).toInt ≤ (T1 0 10).toInt
      rw [v8 0 10 (by omega)]; exact Int.le_refl _
    unfold fB_X3_readFormula_L17
    exact E2_itl (fun _ => h147) (fun _ => E2_pl rfl h147)
theorem r_noj {T : Tr} {c : Int} (h : kI c (T 0 8).toInt (T 0 9).toInt) (hJ : ¬ isJ c) (hb : ¬ c = 40 ∨ (T 0 45).toInt ≤ 0) : f_X8_signs T = some (0, st (st T 0 4 1) 0 5 (T 0 10)) := by
  obtain ⟨v, ev, hv⟩ := r_sign h
  have hv : v = 0 := by
    rcases hv with ⟨g, _⟩ | ⟨_, g⟩
    · exact absurd g hJ
    · exact g
  have e : fJ_X8_signs_J47 T = some (0, st (st T 0 4 1) 0 5 (T 0 10)) := by
    rw [ev, hv]
    unfold fJ_X8_signs_J147
    rw [if_pos rfl, wrE]
  unfold f_X8_signs
  by_cases c40 : (T 0 8).toInt = 4 ∧ (T 0 9).toInt = 41
  · have : c = 40 := by unfold kI at h; omega
    have hb : (T 0 45).toInt ≤ 0 := by
      rcases hb with g | g
      · exact absurd this g
      · exact g
    rw [is_sg.1 ⟨c40.1, by rw [c40.2]; decide⟩]
    show (if (T 0 45) ≤ 0 then (fJ_X8_signs_J47 T) else _) = _
    rw [if_pos (Int32.le_iff_toInt_le.mpr (by show _ ≤ (0 : Int); exact hb)), e]
  · rw [is_sg.2 (fun q => c40 ⟨q.1, by rw [q.2]; decide⟩)]
    show fJ_X8_signs_J47 T = _
    exact e
theorem e_fm {j f : Nat} (hj : j < 3) (N : Nat) : ∀ (w x4 : Int32) (K R P T : Tr), fmS j f w K R P T → (w = 0 ∨ w = 1) → 0 ≤ x4.toInt → x4.toInt ≤ (T 0 10).toInt → E2 (lpF (fun _ _ _ _ _ _ => none) (fB_X3_readFormula_L17 j) N w 1 x4 K R P) (lpF (fun _ => none) fB_X8_sumRead_L25 N T) (fmQ j f K R P T) := by
  induction N with
  | zero => intro w x4 K R P T _ _ _ _; exact E2_nl
  | succ N ih =>
    intro w x4 K R P T F hw h0 h4
    show E2 (fB_X3_readFormula_L17 j (lpF (fun _ _ _ _ _ _ => none) (fB_X3_readFormula_L17 j) N) w 1 x4 K R P) (fB_X8_sumRead_L25 (lpF (fun _ => none) fB_X8_sumRead_L25 N) T) _
    have stop : ∀ (R1 P1 T1 : Tr) (x y : Int32), flt R1 T1 → E2 (lpF (fun _ _ _ _ _ _ => none) (fB_X3_readFormula_L17 j) N x 0 y K R1 P1) (some ((0 : Int32), T1)) (fmQ j f K R P T) := fun R1 P1 T1 x y h => fm_stop h frK_r N
    have bad : ∀ (x y : Int32), (¬ K 0 1 = 41 ∨ ¬ R 0 9 = 0) → E2 (lpF (fun _ _ _ _ _ _ => none) (fB_X3_readFormula_L17 j) N x 0 y K R P) (some ((0 : Int32), st (st T 0 4 1) 0 5 (T 0 10))) (fmQ j f K R P T) := fun x y h => fm_bad F.1.2.2.2.1 F.2.2.2 h N
    have exit : ∀ (n s : Nat) (x y : Int32), qC j f 1 0 n s R P T → K 0 1 = 41 → (T 0 45).toInt = 0 → E2 (lpF (fun _ _ _ _ _ _ => none) (fB_X3_readFormula_L17 j) N x 0 y K R P) (fJ_X8_sumRead_J74 T) (fmQ j f K R P T) := fun n s x y g hc hb => fm_exit hj F.1 g F.2.2.2 hc hb N
    generalize lpF (fun _ _ _ _ _ _ => none) (fB_X3_readFormula_L17 j) N = k1 at ih stop bad exit ⊢
    generalize lpF (fun _ => none) fB_X8_sumRead_L25 N = k2 at ih ⊢
    have kt := F.1
    have kk := kt.2.2.2.2.1
    have bd7 := kt.1.2.2.1
    have on := tk_on kt
    have ei : (x4 + 1).toInt = x4.toInt + 1 := i_addK rfl (by decide) (by omega) (by omega)
    have step : ∀ (x : Option (Int32 × Tr × Tr)) (y : Option (Int32 × Tr)) (w' : Int32), (w' = 0 ∨ w' = 1) → E2 x y (opQ j f w' K R P T) → E2 (bd x fun q => lt q.1 fun r40 => lt q.2.1 fun R_41 => lt q.2.2 fun P_42 => fJ_X3_readFormula_J130 k1 j w' r40 x4 K R_41 P_42) (bd y fun q => lt q.1 fun r16 => lt q.2 fun S_17 => if r16 = 0 then (some ((0 : Int32), S_17)) else (k2 S_17)) (fmQ j f K R P T) := by
      intro x y w' hw' hxy
      refine E2_bd hxy (fun q q' hq => ?_)
      obtain ⟨r, R1, P1⟩ := q
      obtain ⟨r', T2⟩ := q'
      have hq : (r = 0 ∧ r' = 0 ∧ flt R1 T2) ∨ (r = 1 ∧ r' = 1 ∧ ¬ (K 0 1).toInt = 45 ∧ ∃ T1, f_X8_token T1 = some T2 ∧ fmS j f w' K R1 P1 T1 ∧ qF j f R P T R1 P1 T1) := hq
      refine E2_v3l (E2_v2r ?_)
      unfold fJ_X3_readFormula_J130
      rcases hq with ⟨rfl, rfl, hf⟩ | ⟨rfl, rfl, h45, T1, t1, F1, Q1⟩
      · exact E2_pl rfl (E2_ltl (fun z _ => E2_pr rfl (stop _ _ _ _ _ hf)))
      · refine E2_ql (by decide) (E2_qr (by decide) ?_)
        intro A B e1 e2
        obtain ⟨K2, x1, x2⟩ := tx_bd e1
        obtain ⟨kt2, k2f, t2f, k2p⟩ := e_advS F1.1 K2 T2 x1 t1
        obtain ⟨kt1, ⟨e, n, s, he, G, M⟩, w47, r01⟩ := F1
        have t10 : T1 0 10 = T 0 10 := by rw [← kt1.2.2.2.1, ← kt.2.2.2.1]
        have n8 : ¬ T1 0 8 = 0 := fun q => h45 ((k_end kt1.2.2.2.2.1).mpr (by rw [q]; decide))
        have lt7 : (T1 0 10).toInt < (T1 0 7).toInt := by
          rcases kt1.2.2.2.2.2.2.2.2 with g | g
          · exact absurd g.1 n8
          · exact g
        have F2 : fmS j f w' K2 R1 P1 T2 := ⟨kt2, ⟨e, n, s, he, qC_of G (fun a i g => t2f a i (by omega)), fun g => by rw [t2f 0 48 (by omega), show T2 42 = T1 42 from funext fun i => t2f 42 i (by omega)]; exact M g⟩, by rw [t2f 0 47 (by omega)]; exact w47, r01⟩
        have Q2 : qF j f R P T R1 P1 T2 := qF_t Q1 ⟨fun _ _ _ => rfl, fun _ _ _ => rfl, fun a i g => t2f a i (by omega)⟩
        rw [t10] at lt7
        exact fm_mono k2f Q2 (by omega) (ih w' (x4 + 1) K2 R1 P1 T2 F2 hw' (by omega) (by omega) A B x2 e2)
    unfold fB_X3_readFormula_L17 fB_X8_sumRead_L25
    refine E2_ql (fun q => by have := tq_lt (a := 700) (by decide) rfl q; omega) (E2_ql (by decide) ?_)
    rcases hw with rfl | rfl
    · refine E2_pl rfl ?_
      have w47 := F.2.2.1
      have X : ∀ z : Option (Int32 × Tr × Tr × Tr), E2 z (bd (f_X8_signs T) fun q => lt q.1 fun r11 => lt q.2 fun S_12 => if r11 = 0 then (some ((0 : Int32), S_12)) else (k2 S_12)) (fmQ j f K R P T) → E2 z (fJ_X8_sumRead_J48 k2 T) (fmQ j f K R P T) := fun z hz => by
        unfold fJ_X8_sumRead_J48
        exact E2_pr w47 hz
      have nosemi : ¬ (K 0 1).toInt = 41 → f_X8_isSign T (59 : Int32) = some 0 := fun h => is_sg.2 (fun q => h ((k_semi kk).mpr ⟨q.1, by rw [q.2]; decide⟩))
      by_cases hJ : isJ (K 0 1).toInt
      · rw [c_join.1 hJ, nosemi (by unfold isJ at hJ; omega)]
        exact E2_sl (E2_ql (by decide) (E2_sr (E2_pr rfl (X _ (step _ _ 1 (Or.inr rfl) (e_joins hj F hJ))))))
      · rw [c_join.2 hJ]
        refine E2_sl (E2_pl rfl ?_)
        have s5 := F.2.1
        obtain ⟨e, n, s, he, G, M⟩ := s5
        have he1 : e = 1 := by
          rcases he with ⟨_, g⟩ | ⟨g, _⟩
          · exact g
          · exact absurd g (by decide)
        subst he1
        have r9 := G.1.2.1
        have z45 := G.1.2.2.1
        by_cases c40 : (K 0 1).toInt = 40 ∧ ¬ (R 0 9).toInt ≤ 0
        · rw [nosemi (by omega)]
          refine E2_pl (i_z (by rw [c40.1]; decide)) (E2_ql (fun q => c40.2 (by have := tq_le (b := 0) rfl (by decide) q; exact this)) (E2_sr (E2_pr rfl (X _ ?_))))
          have z := step _ _ 0 (Or.inl rfl) (e_brk hj F c40.1 c40.2)
          rw [bd_bd] at z
          unfold fJ_X3_readFormula_J120
          exact E2_ql (by decide) z
        · have cls : E2 (fJ_X3_readFormula_J119 k1 j 0 x4 K R P) (bd (f_X8_isSign T (59 : Int32)) fun r6 => if r6 = 0 then (fJ_X8_sumRead_J48 k2 T) else (if (T 0 47) = 0 then (if (T 0 45) ≤ 0 then (fJ_X8_sumRead_J74 T) else (fJ_X8_sumRead_J48 k2 T)) else (fJ_X8_sumRead_J48 k2 T))) (fmQ j f K R P T) := by
            unfold fJ_X3_readFormula_J119 fJ_X3_readFormula_J120 fJ_X3_readFormula_J130
            refine E2_pl rfl (E2_pl rfl (E2_ltl (fun y24 _ => ?_)))
            have nb : ¬ (K 0 1).toInt = 40 ∨ (T 0 45).toInt ≤ 0 := by
              by_cases g : (K 0 1).toInt = 40
              · right
                by_cases g2 : (R 0 9).toInt ≤ 0
                · rw [r9] at g2; exact g2
                · exact absurd ⟨g, g2⟩ c40
              · exact Or.inl g
            have no := r_noj kk hJ nb
            by_cases c41 : (K 0 1).toInt = 41
            · have e41 : K 0 1 = 41 := i_z (by rw [c41]; decide)
              have k41 := (k_semi kk).mp c41
              rw [is_sg.1 ⟨k41.1, by rw [k41.2]; decide⟩]
              refine E2_sr (E2_qr (by decide) (E2_pr w47 ?_))
              by_cases cb : (T 0 45).toInt ≤ 0
              · exact E2_pr (Int32.le_iff_toInt_le.mpr (by show _ ≤ (0 : Int); exact cb)) (exit n s _ _ G e41 (by omega))
              · refine E2_qr (fun q => cb (by have := tq_le (b := 0) rfl (by decide) q; exact this)) (X _ ?_)
                rw [no]
                exact E2_p2r (E2_pr rfl (bad _ _ (Or.inr (fun q => cb (by rw [← r9, q]; decide)))))
            · rw [nosemi c41]
              refine E2_sr (E2_pr rfl (X _ ?_))
              rw [no]
              exact E2_p2r (E2_pr rfl (bad _ _ (Or.inl (fun q => c41 (by rw [q]; decide)))))
          by_cases g40 : K 0 1 = 40
          · refine E2_pl g40 (E2_pl (Int32.le_iff_toInt_le.mpr ?_) cls)
            by_cases g2 : (R 0 9).toInt ≤ 0
            · show _ ≤ (0 : Int); exact g2
            · exact absurd ⟨by rw [g40]; decide, g2⟩ c40
          · exact E2_ql g40 cls
    · refine E2_ql (by decide) ?_
      have w47 := F.2.2.1
      have X : ∀ z : Option (Int32 × Tr × Tr × Tr), E2 z (bd (f_X8_leafRead T) fun q => lt q.1 fun r16 => lt q.2 fun S_17 => if r16 = 0 then (some ((0 : Int32), S_17)) else (k2 S_17)) (fmQ j f K R P T) → E2 z (bd (f_X8_isSign T (59 : Int32)) fun r6 => if r6 = 0 then (fJ_X8_sumRead_J48 k2 T) else (if (T 0 47) = 0 then (if (T 0 45) ≤ 0 then (fJ_X8_sumRead_J74 T) else (fJ_X8_sumRead_J48 k2 T)) else (fJ_X8_sumRead_J48 k2 T))) (fmQ j f K R P T) := fun z hz => by
        have n47 : ¬ T 0 47 = 0 := by rw [w47]; decide
        have hz2 : E2 z (fJ_X8_sumRead_J48 k2 T) (fmQ j f K R P T) := by
          unfold fJ_X8_sumRead_J48
          exact E2_qr n47 hz
        exact E2_tr (fun r6 => E2_itr (fun _ => hz2) (fun _ => E2_qr n47 hz2))
      refine X _ ?_
      unfold fJ_X3_readFormula_J57 fJ_X3_readFormula_J62
      by_cases c39 : (K 0 1).toInt = 39
      · exact E2_pl (i_z (by rw [c39]; decide)) (step _ _ 1 (Or.inr rfl) (e_op1 hj F c39))
      · refine E2_ql (fun q => c39 (by rw [q]; decide)) ?_
        by_cases c21 : (K 0 1).toInt = 21
        · exact E2_pl (i_z (by rw [c21]; decide)) (step _ _ 1 (Or.inr rfl) (e_op2 hj F c21))
        · exact E2_ql (fun q => c21 (by rw [q]; decide)) (step _ _ 0 (Or.inl rfl) (e_op3 hj F c39 c21))
-- 62.y.g7
/-! a law's line; any line -/
theorem e_law {K R P T : Tr} (h : tkS K T) (hr : RD R P T) (h0 : R 0 1 = 0) : E2 (bd (f_X3_readLaw K R P) fun q => lt q.1 fun r3 => lt q.2.1 fun K_4 => lt q.2.2.1 fun R_5 => lt q.2.2.2 fun P_6 => ck (okB r3) (some (r3, K_4, R_5, P_6))) (bd (f_X8_token T) fun S_86 => if (S_86 0 8) = 1 then (if (S_86 0 9) < 16 then (fJ_X8_lineRead_J276  S_86) else (if (S_86 0 9) ≤ 18 then (lt (((3 : Int32) + (S_86 0 9)) - 16) fun y97 => ck (okI y97 6) (if (S_86 36 y97.toNatClampNeg) = 0 then (lt (st S_86 36 y97.toNatClampNeg (vp_nar .boolean 1)) fun S_100 => bd (f_X8_token S_100) fun S_101 => lt (st S_101 37 y97.toNatClampNeg (S_101 0 19)) fun S_104 => bd (f_X8_sumRead S_104) fun q => lt q.1 fun r105 => lt q.2 fun S_106 => lt (st S_106 38 y97.toNatClampNeg (S_106 0 19)) fun S_109 => fJ_X8_lineRead_J343  r105 S_109) else (bd (f_X8_wrong S_86 (3 : Int32)) fun q => lt q.1 fun r110 => lt q.2 fun S_111 => ck (okB r110) (some (r110, S_111))))) else (fJ_X8_lineRead_J276  S_86))) else (fJ_X8_lineRead_J276  S_86)) (lsQ K R T) := by
  unfold f_X3_readLaw
  rw [bd_bd]
  refine E2_bd (e_advS h) (fun K1 T1 h1 => ?_)
  obtain ⟨k1, k1f, t1f, k1p⟩ := h1
  obtain ⟨g1, g2, g3, g4, g5, g6⟩ := hr
  have kk := k1.2.2.2.2.1
  have kw := k_word kk (a := 16) (b := 18) (by omega) (by omega)
  rw [bd_lt]
  refine E2_ltl (fun y ey => ?_)
  have kb : -1 ≤ (K1 0 1).toInt ∧ (K1 0 1).toInt ≤ 45 := by unfold kI at kk; omega
  have hy : y.toInt = (K1 0 1).toInt - 16 := by rw [ey]; exact i_subK rfl (by decide) (by omega) (by omega)
  have nofit : ¬ (16 ≤ (K1 0 1).toInt ∧ (K1 0 1).toInt ≤ 18) → E2 (bd (if y < 0 then (fJ_X3_readLaw_J32  y K1 R P) else (if 2 < y then (fJ_X3_readLaw_J32  y K1 R P) else (fJ_X3_readLaw_J33  y 1 K1 R P))) fun q => lt q.1 fun r3 => lt q.2.1 fun K_4 => lt q.2.2.1 fun R_5 => lt q.2.2.2 fun P_6 => ck (okB r3) (some (r3, K_4, R_5, P_6))) (fJ_X8_lineRead_J276 T1) (lsQ K R T) := by
    intro hno
    have e : (if y < 0 then (fJ_X3_readLaw_J32  y K1 R P) else (if 2 < y then (fJ_X3_readLaw_J32  y K1 R P) else (fJ_X3_readLaw_J33  y 1 K1 R P))) = some (0, K1, st (st R 0 1 1) 0 2 (K1 0 2), P) := by
      have j32 : fJ_X3_readLaw_J32 y K1 R P = some (0, K1, st (st R 0 1 1) 0 2 (K1 0 2), P) := by
        unfold fJ_X3_readLaw_J32 fJ_X3_readLaw_J33
        rw [ex0]; rfl
      by_cases c : y < 0
      · rw [if_pos c, j32]
      · have := tq_ltn (b := 0) hy (by decide) c
        rw [if_neg c, if_pos (Int32.lt_iff_toInt_lt.mpr (by rw [hy]; show (2 : Int) < _; omega)), j32]
    unfold fJ_X8_lineRead_J276
    rw [e, wrE]
    exact E2_sl (E2_v4l (E2_ckl (fun _ => E2_some (Or.inl ⟨rfl, rfl, flt_of k1.2.2.2.1 (by decide), k1f⟩))))
  by_cases d1 : (T1 0 8).toInt = 1
  · rw [if_pos (show T1 0 8 = 1 from i_z (by rw [d1]; decide))]
    by_cases d2 : (T1 0 9).toInt < 16
    · rw [if_pos (show T1 0 9 < 16 from Int32.lt_iff_toInt_lt.mpr (by show _ < (16 : Int); exact d2))]
      exact nofit (by omega)
    · rw [if_neg (show ¬ T1 0 9 < 16 from fun q => d2 (tq_lt rfl (b := 16) (by decide) q))]
      by_cases d3 : (T1 0 9).toInt ≤ 18
      · rw [if_pos (show T1 0 9 ≤ 18 from Int32.le_iff_toInt_le.mpr (by show _ ≤ (18 : Int); exact d3))]
        have kq := kw.mpr ⟨d1, by omega, d3⟩
        have kv := k_weq kk d1 (by omega)
        obtain ⟨k, hk⟩ : ∃ k : Nat, y.toInt = k := ⟨y.toInt.toNat, by omega⟩
        have hk3 : k < 3 := by omega
        refine E2_ltr (fun y97 e97 => E2_ckr (fun _ => ?_))
        have i97 : y97.toInt = ((3 + k : Nat) : Int) := by
          have z1 : ((3 : Int32) + T1 0 9).toInt = 3 + (T1 0 9).toInt := i_addK (by decide) rfl (by omega) (by omega)
          rw [e97, i_subK z1 (y := 16) (by decide) (by omega) (by omega)]; omega
        rw [i_cn i97, if_neg (neg1 (by omega)), if_neg (fun q => by have := tq_lt (a := 2) (by decide) rfl q; omega)]
        unfold fJ_X3_readLaw_J33
        rw [ex1]
        have hl : lwR P T k := by
          rcases (by omega : k = 0 ∨ k = 1 ∨ k = 2) with q | q | q
          · rw [q]; exact g6.2.2.2.1
          · rw [q]; exact g6.2.2.2.2.1
          · rw [q]; exact g6.2.2.2.2.2
        show E2 (bd (ck (okI y 3) (if (P (30 + 3 * y.toNatClampNeg) 1) = 0 then (fJ_X3_readLaw_J61  y 1 K1 R P) else (fJ_X3_readLaw_J61  y 0 K1 R P))) _) _ _
        rw [bd_ck, i_cn hk]
        refine E2_ckl (fun _ => ?_)
        have t36 : T1 36 (3 + k) = T 36 (3 + k) := t1f _ _ (by omega)
        rw [t36]
        rcases hl with ⟨l1, l2⟩ | ⟨l1, F, s, l2, l3, l4, l5, l6, l7, l8⟩
        · rw [if_pos l1, if_pos l2, nar1]
          unfold fJ_X3_readLaw_J61
          rw [ex1]
          show E2 (bd (bd (f_X5_advance K1) fun K_18 => ck (okI y 3) (bd (f_X3_readFormula y.toNatClampNeg K_18 R P) fun q => lt q.1 fun r22 => lt q.2.1 fun K_23 => lt q.2.2.1 fun R_24 => lt q.2.2.2 fun P_25 => ck (okB r22) (some (r22, K_23, R_24, P_25)))) _) _ _
          rw [bd_bd]
          refine E2_ltr (fun T2 f2 => ?_)
          have k2 : tkS K1 T2 := by rw [f2]; exact tkS_st k1 (by omega)
          refine E2_bd (e_advS k2) (fun K3 T3 h3 => ?_)
          obtain ⟨k3, k3f, t3f, k3p⟩ := h3
          rw [bd_ck, i_cn hk]
          refine E2_ckl (fun _ => E2_ltr (fun T4 f4 => ?_))
          have k4 : tkS K3 T4 := by rw [f4]; exact tkS_st k3 (by omega)
          obtain ⟨f, hf⟩ : ∃ f : Nat, (T 0 19).toInt = f := ⟨(T 0 19).toInt.toNat, by rw [g6.2.1]; have := g6.2.2.1; omega⟩
          have T4f : ∀ a i, ¬ ((a = 0 ∧ 7 ≤ i ∧ i ≤ 10) ∨ (a = 36 ∧ i = 3 + k) ∨ (a = 37 ∧ i = 3 + k)) → T4 a i = T a i := fun a i hn => by rw [f4, st_no (by omega), t3f a i (by omega), f2, st_no (by omega), t1f a i (by omega)]
          have t319 : T3 0 19 = T 0 19 := by rw [t3f 0 19 (by omega), f2, st_no (by omega), t1f 0 19 (by omega)]
          have v36 : T4 36 (3 + k) = 1 := by rw [f4, st_no (by omega), t3f _ _ (by omega), f2, st_same]
          have v37 : T4 37 (3 + k) = T 0 19 := by rw [f4, st_same, t319]
          unfold f_X3_readFormula f_X8_sumRead fL_X3_readFormula_L17 fL_X8_sumRead_L25
          simp only [bd_lt]
          refine E2_ltl (fun R1 r1 => E2_ltl (fun R2 r2 => E2_ltr (fun A1 a1 => E2_ltr (fun A2 a2 => E2_ltr (fun A3 a3 => E2_ltr (fun A4 a4 => E2_ltr (fun A5 a5 => ?_)))))))
          have A5f : ∀ a i, ¬ (a = 0 ∧ 43 ≤ i ∧ i ≤ 48) → A5 a i = T4 a i := fun a i hn => by rw [a5, st_no (by omega), a4, st_no (by omega), a3, st_no (by omega), a2, st_no (by omega), a1, st_no (by omega)]
          have R2f : ∀ a i, ¬ (a = 0 ∧ (i = 8 ∨ i = 9)) → R2 a i = R a i := fun a i hn => by rw [r2, st_no (by omega), r1, st_no (by omega)]
          have x43 : A5 0 43 = 0 := by rw [a5, st_no (by omega), a4, st_no (by omega), a3, st_no (by omega), a2, st_no (by omega), a1, st_same]
          have x44 : A5 0 44 = 0 := by rw [a5, st_no (by omega), a4, st_no (by omega), a3, st_no (by omega), a2, st_same]
          have x45 : A5 0 45 = 0 := by rw [a5, st_no (by omega), a4, st_no (by omega), a3, st_same]
          have x47 : A5 0 47 = 1 := by rw [a5, st_no (by omega), a4, st_same]
          have x48 : A5 0 48 = 1 := by rw [a5, st_same]
          have x46 : A5 0 46 = T 0 46 := by rw [a5, st_no (by omega), a4, st_no (by omega), a3, st_no (by omega), a2, st_no (by omega), a1, st_no (by omega), T4f 0 46 (by omega)]
          have x19 : A5 0 19 = T 0 19 := by rw [A5f 0 19 (by omega), T4f 0 19 (by omega)]
          have z0 : (0 : Int32).toInt = 0 := by decide
          have k5 : tkS K3 A5 := tkS_T k4 (fun i h1 h2 => A5f 0 i (by omega)) (funext fun i => A5f 1 i (by omega)) (funext fun i => A5f 4 i (by omega))
          have r28 : R2 0 8 = 0 := by rw [r2, st_no (by omega), r1, st_same]
          have r29 : R2 0 9 = 0 := by rw [r2, st_same]
          have hf46 : (T 0 46).toInt = f := by rw [← g6.2.1]; exact hf
          have FS : fmS k f 1 K3 R2 P A5 := by
            refine ⟨k5, ⟨0, 0, 0, Or.inr ⟨rfl, rfl⟩, ⟨⟨⟨by rw [r28]; exact z0, by rw [x43]; exact z0, by omega, fun i hi => absurd hi (Nat.not_lt_zero i)⟩, by rw [r29, x45], by rw [x45]; exact z0, Nat.zero_le _⟩, ⟨by rw [l1]; exact z0, by rw [x19, hf]; omega, fun i hi => absurd hi (Nat.not_lt_zero i)⟩, ⟨by rw [x44]; exact z0, trivial⟩, rfl, by rw [x46]; exact g6.1, by rw [x46]; exact g6.2.2.1.2, by rw [x46, x45, z0]; omega⟩, fun _ => ?_⟩, x47, by rw [R2f 0 1 (by omega)]; exact h0⟩
            constructor
            · intro q; rw [x48] at q; exact absurd q (by decide)
            · rintro ⟨m, q, _⟩; omega
          have pos : 0 ≤ (A5 0 10).toInt := k5.2.2.2.2.2.2.2.1
          rw [bd_bd]
          refine E2_bd (e_fm hk3 2000 1 0 K3 R2 P A5 FS (Or.inr rfl) (by decide) (by rw [z0]; exact pos)) (fun q q' hq => ?_)
          obtain ⟨r, K6, R6, P6⟩ := q
          obtain ⟨r', T6⟩ := q'
          have k13 := frK_t k1f k3f
          refine E2_v2r ?_
          have hq : (r = 0 ∧ r' = 0 ∧ flt R6 T6 ∧ frK K3 K6) ∨ (r = 1 ∧ ¬ K6 0 1 = 41 ∧ r' = 0 ∧ T6 0 4 = 1 ∧ T6 0 5 = K6 0 2 ∧ frK K3 K6 ∧ R6 0 1 = 0) ∨ (r = 1 ∧ K6 0 1 = 41 ∧ r' = 1 ∧ tkS K6 T6 ∧ (∃ s, qC k f 1 0 0 s R6 P6 T6) ∧ R6 0 1 = 0 ∧ frK K3 K6 ∧ qF k f R2 P A5 R6 P6 T6 ∧ (A5 0 10).toInt ≤ (T6 0 10).toInt) := hq
          rcases hq with ⟨rfl, rfl, u1, u2⟩ | ⟨rfl, u1, rfl, u2, u3, u4, u5⟩ | ⟨rfl, u1, rfl, u2, ⟨s, u3⟩, u4, u5, u6, u7⟩
          · refine E2_ltr (fun T7 f7 => ?_)
            show E2 (some ((0 : Int32), K6, R6, P6)) _ _
            refine e_semiF ⟨?_, ?_, u1.2.2⟩ (frK_t k13 u2)
            · rw [f7, st_no (by omega)]; exact u1.1
            · rw [f7, st_no (by omega)]; exact u1.2.1
          · refine E2_ltr (fun T7 f7 => ?_)
            show E2 (some ((1 : Int32), K6, R6, P6)) _ _
            unfold fJ_X8_lineRead_J343
            refine E2_pr rfl (E2_some (Or.inr (Or.inl ⟨rfl, u1, rfl, ?_, ?_, frK_t k13 u4, u5⟩)))
            · show T7 0 4 = 1
              rw [f7, st_no (by omega)]; exact u2
            · show T7 0 5 = K6 0 2
              rw [f7, st_no (by omega)]; exact u3
          · refine E2_ltr (fun T7 f7 => ?_)
            show E2 (some ((1 : Int32), K6, R6, P6)) _ _
            obtain ⟨⟨⟨m1, m2, m3, m4⟩, m5, m6, m7⟩, ⟨n1, n2, n3⟩, ⟨o1, o2⟩, p1, c1, c2, c3⟩ := u3
            obtain ⟨w1, w2, w3⟩ := u6
            have hz : zc (T6 42) 0 = 0 := rfl
            have hb : b2 (T6 42) 0 = 0 := rfl
            have T7f : ∀ a i, ¬ ((a = 0 ∧ ((4 ≤ i ∧ i ≤ 11) ∨ i = 19 ∨ (43 ≤ i ∧ i ≤ 48))) ∨ (36 ≤ a ∧ a ≤ 38 ∧ i = 3 + k) ∨ (39 ≤ a ∧ a ≤ 41 ∧ 64 + f ≤ i) ∨ a = 42 ∨ a = 43) → T7 a i = T a i := fun a i hn => by
              rw [f7, st_no (by omega), w3 a i (by omega), A5f a i (by omega), T4f a i (by omega)]
            have P6f : ∀ a i, ¬ ((a = 0 ∧ i = 3) ∨ (a = 30 + 3 * k ∧ i = 1) ∨ a = 31 + 3 * k) → P6 a i = P a i := w2
            have R6f : ∀ a i, ¬ ((a = 0 ∧ (i = 1 ∨ i = 2 ∨ i = 8 ∨ i = 9)) ∨ a = 8) → R6 a i = R a i := fun a i hn => by rw [w1 a i hn, R2f a i (by omega)]
            have y19 : T7 0 19 = T6 0 19 := by rw [f7, st_no (by omega)]
            have y46 : T7 0 46 = T6 0 46 := by rw [f7, st_no (by omega)]
            have s1 : 1 ≤ s := by
              rcases s with _ | s
              · have : (hs (P6 (31 + 3 * k)) 0).length = 0 := rfl
                omega
              · omega
            have e46 : (T6 0 46).toInt = f + s := by rw [hz] at m6; omega
            have other : ∀ i, i < 3 → ¬ i = k → lwR P T i → lwR P6 T7 i := fun i hi hne hl => by
              refine lwR_of hl (fun u => P6f _ u (by omega)) (fun u => P6f _ u (by omega)) (fun a ha => T7f a _ (by omega)) (by rw [y19, n2, hf]; omega) (fun a u ha hu => T7f a u (by omega))
            have mine : lwR P6 T7 k := by
              refine Or.inr ⟨?_, f, s, s1, n1, ?_, ?_, by rw [y19, n2]; exact Int.le_refl _, by rw [p1, hb], fun i hi => nd_of (n3 i hi) (fun _ _ => rfl) ?_ ?_ ?_⟩
              · rw [f7, st_no (by omega), w3 _ _ (by omega), A5f _ _ (by omega)]; exact v36
              · rw [f7, st_no (by omega), w3 _ _ (by omega), A5f _ _ (by omega), v37]; exact hf
              · rw [f7, st_same]; exact n2
              · unfold sh64; rw [f7, st_no (by omega)]
              · unfold sh64; rw [f7, st_no (by omega)]
              · unfold sh64; rw [f7, st_no (by omega)]
            have rd : RD R6 P6 T7 := by
              refine ⟨rPl_of g1 (fun a i g => P6f a i (by omega)) (fun a i g => T7f a i (by omega)), rPe_of g2 (fun a i g => P6f a i (by omega)) (fun a i g => T7f a i (by omega)), rPi_of g3 (fun a i g => P6f a i (by omega)) (fun a i g => T7f a i (by omega)), rW_of g4 (R6f 0 6 (by omega)) (fun i => P6f 18 i (by omega)) (fun a i g => T7f a i (by omega)), rO_of g5 (R6f 0 5 (by omega)) (fun i _ _ => P6f 0 i (by omega)) (fun a i g => T7f a i (by omega)), by rw [y46]; exact c1, by rw [y19, y46]; exact i_z (by rw [n2, e46]), by rw [y46]; exact ⟨by omega, c2⟩, ?_, ?_, ?_⟩
              · by_cases q : k = 0
                · rw [q] at mine; exact mine
                · exact other 0 (by omega) (fun e => q e.symm) g6.2.2.2.1
              · by_cases q : k = 1
                · rw [q] at mine; exact mine
                · exact other 1 (by omega) (fun e => q e.symm) g6.2.2.2.2.1
              · by_cases q : k = 2
                · rw [q] at mine; exact mine
                · exact other 2 (by omega) (fun e => q e.symm) g6.2.2.2.2.2
            have k7 : tkS K6 T7 := by rw [f7]; exact tkS_st u2 (by omega)
            refine e_semi k7 rd u4 (R6f 0 3 (by omega)) (frK_t k13 u5) ?_
            have x1 := tk_on k1
            have x2 := tk_on k3
            rw [f2, st_no (by omega)] at k3p
            have q10 : A5 0 10 = T3 0 10 := by rw [A5f 0 10 (by omega), f4, st_no (by omega)]
            rw [q10] at u7
            rw [f7, st_no (by omega)]
            omega
        · have np : ¬ P (30 + 3 * k) 1 = 0 := fun q => by
            rw [q, show (0 : Int32).toInt = 0 from by decide] at l3
            omega
          have nt : ¬ T 36 (3 + k) = 0 := fun q => by
            rw [q] at l1
            exact absurd l1 (by decide)
          rw [if_neg np, if_neg nt]
          unfold fJ_X3_readLaw_J61
          rw [ex0, wrE]
          show E2 (bd (some ((0 : Int32), K1, st (st R 0 1 3) 0 2 (K1 0 2), P)) _) _ _
          exact E2_sl (E2_v4l (E2_ckl (fun _ => E2_some (Or.inl ⟨rfl, rfl, flt_of k1.2.2.2.1 (by decide), k1f⟩))))
      · rw [if_neg (show ¬ T1 0 9 ≤ 18 from fun q => d3 (tq_le rfl (b := 18) (by decide) q))]
        exact nofit (by omega)
  · rw [if_neg (show ¬ T1 0 8 = 1 from fun q => d1 (by rw [q]; decide))]
    exact nofit (by omega)
-- 62.y.g8
theorem e_line {K R P T : Tr} (h : tkS K T) (hr : RD R P T) (h0 : R 0 1 = 0) : E2 (f_X3_readLine K R P) (f_X8_lineRead T) (lsQ K R T) := by
  unfold f_X3_readLine f_X8_lineRead
  have kk := h.2.2.2.2.1
  have kw := k_word kk (a := 0) (b := 7) (by omega) (by omega)
  refine E2_ltl (fun y ey => ?_)
  by_cases d : 0 ≤ (K 0 1).toInt ∧ (K 0 1).toInt ≤ 7
  · have d2 := kw.mp d
    have kv := k_weq kk d2.1 (by omega)
    refine E2_pr (i_z (by rw [d2.1]; decide)) (E2_pr (Int32.le_iff_toInt_le.mpr (by show _ ≤ (7 : Int); exact d2.2.2)) (E2_ltr (fun y8 e8 => ?_)))
    have hy : y.toInt = (K 0 1).toInt := by rw [ey]
    have hy8 : y8.toInt = (K 0 1).toInt := by rw [e8, kv]
    by_cases c0 : (K 0 1).toInt = 0
    · have hc := c0
      refine E2_pl (i_z (by rw [hy, hc]; decide)) (E2_pr (i_z (by rw [hy8, hc]; decide)) ?_)
      exact e_ln (P := P) (e_place h hr h0)
    · refine E2_ql (fun q => c0 (by rw [← hy, q]; decide)) (E2_qr (fun q => c0 (by rw [← hy8, q]; decide)) ?_)
      by_cases c1 : (K 0 1).toInt = 1
      · have hc := c1
        refine E2_pl (i_z (by rw [hy, hc]; decide)) (E2_pr (i_z (by rw [hy8, hc]; decide)) ?_)
        exact e_ln (P := P) (e_person h hr h0)
      · refine E2_ql (fun q => c1 (by rw [← hy, q]; decide)) (E2_qr (fun q => c1 (by rw [← hy8, q]; decide)) ?_)
        by_cases c2 : (K 0 1).toInt = 2
        · have hc := c2
          refine E2_pl (i_z (by rw [hy, hc]; decide)) (E2_pr (i_z (by rw [hy8, hc]; decide)) ?_)
          exact e_ln (P := P) (e_piece h hr h0)
        · refine E2_ql (fun q => c2 (by rw [← hy, q]; decide)) (E2_qr (fun q => c2 (by rw [← hy8, q]; decide)) ?_)
          by_cases c3 : (K 0 1).toInt = 3
          · have hc := c3
            refine E2_pl (i_z (by rw [hy, hc]; decide)) (E2_pr (i_z (by rw [hy8, hc]; decide)) ?_)
            exact e_ln (P := P) (e_wait h hr h0)
          · refine E2_ql (fun q => c3 (by rw [← hy, q]; decide)) (E2_qr (fun q => c3 (by rw [← hy8, q]; decide)) ?_)
            by_cases c4 : (K 0 1).toInt = 4
            · have hc := c4
              refine E2_pl (i_z (by rw [hy, hc]; decide)) (E2_pr (i_z (by rw [hy8, hc]; decide)) ?_)
              exact e_rule h hr h0 hc
            · refine E2_ql (fun q => c4 (by rw [← hy, q]; decide)) (E2_qr (fun q => c4 (by rw [← hy8, q]; decide)) ?_)
              by_cases c5 : (K 0 1).toInt = 5
              · have hc := c5
                refine E2_pl (i_z (by rw [hy, hc]; decide)) (E2_pr (i_z (by rw [hy8, hc]; decide)) ?_)
                exact e_curve h hr h0 hc
              · refine E2_ql (fun q => c5 (by rw [← hy, q]; decide)) (E2_qr (fun q => c5 (by rw [← hy8, q]; decide)) ?_)
                by_cases c6 : (K 0 1).toInt = 6
                · have hc := c6
                  refine E2_pl (i_z (by rw [hy, hc]; decide)) (E2_pr (i_z (by rw [hy8, hc]; decide)) ?_)
                  exact e_seed h hr h0 hc
                · refine E2_ql (fun q => c6 (by rw [← hy, q]; decide)) (E2_qr (fun q => c6 (by rw [← hy8, q]; decide)) ?_)
                  have hc : (K 0 1).toInt = 7 := by omega
                  refine E2_pl (i_z (by rw [hy, hc]; decide)) ?_
                  exact e_law h hr h0
  · have no : ∀ i : Int32, 0 ≤ i.toInt → i.toInt ≤ 7 → ¬ y = i := fun i h1 h2 q => d (by rw [← ey, q]; exact ⟨h1, h2⟩)
    refine E2_ql (no 0 (by decide) (by decide)) (E2_ql (no 1 (by decide) (by decide)) (E2_ql (no 2 (by decide) (by decide)) (E2_ql (no 3 (by decide) (by decide)) (E2_ql (no 4 (by decide) (by decide)) (E2_ql (no 5 (by decide) (by decide)) (E2_ql (no 6 (by decide) (by decide)) (E2_ql (no 7 (by decide) (by decide)) ?_)))))))
    have j17 : E2 (bd (f_X3_expect K R (0 : Int32) (1 : Int32)) fun q => lt q.1 fun r66 => lt q.2 fun R_67 => ck (okB r66) (some (r66, K, R_67, P))) (fJ_X8_lineRead_J17 T) (lsQ K R T) := by
      unfold fJ_X8_lineRead_J17
      rw [ex0, wrE]
      exact E2_p2l (E2_ckl (fun _ => E2_some (Or.inl ⟨rfl, rfl, flt_of h.2.2.2.1 (by decide), frK_r⟩)))
    by_cases d1 : T 0 8 = 1
    · refine E2_pr d1 (E2_qr (fun q => ?_) j17)
      have q2 := tq_le (b := 7) rfl (by decide) q
      have d11 : (T 0 8).toInt = 1 := by rw [d1]; decide
      exact d (kw.mpr ⟨d11, by unfold kI at kk; omega, q2⟩)
    · exact E2_qr d1 j17
/-! all lines -/
def txQ (L : Lo) (K : Tr) (q : Int32 × Tr × Tr × Tr) (q' : Int32 × Tr × Lo) : Prop := (q.1 = 0 ∧ q'.1 = -1 ∧ flt q.2.2.1 q'.2.1 ∧ frK K q.2.1) ∨ (q.1 = 1 ∧ ∃ T0, f_X8_keepText T0 L = some q'.2 ∧ RD q.2.2.1 q.2.2.2 T0 ∧ q.2.2.1 0 1 = 0 ∧ q.2.2.1 0 3 = q'.1 ∧ 0 ≤ q'.1.toInt ∧ frK K q.2.1)
theorem tx_mono {L : Lo} {K K0 : Tr} {q : Int32 × Tr × Tr × Tr} {q' : Int32 × Tr × Lo} (hK : frK K0 K) (h : txQ L K q q') : txQ L K0 q q' := by
  rcases h with ⟨a, b, c, d⟩ | ⟨a, T0, b, c, d, e, f, g⟩
  · exact Or.inl ⟨a, b, c, frK_t hK d⟩
  · exact Or.inr ⟨a, T0, b, c, d, e, f, frK_t hK g⟩
theorem tx_stop {L : Lo} {K K0 R P T : Tr} {x : Int32} (hf : flt R T) (hK : frK K0 K) (N : Nat) : E2 (lpF (fun _ _ _ _ => none) fB_X3_readText_L42 N x K R P) (some ((-1 : Int32), T, L)) (txQ L K0) := by
  cases N with
  | zero => exact E2_nl
  | succ N =>
    show E2 (fB_X3_readText_L42 (lpF (fun _ _ _ _ => none) fB_X3_readText_L42 N) x K R P) _ _
    generalize lpF (fun _ _ _ _ => none) fB_X3_readText_L42 N = k
    have j : E2 (fJ_X3_readText_J123 K R P) (some ((-1 : Int32), T, L)) (txQ L K0) := by
      unfold fJ_X3_readText_J123
      exact E2_ql hf.2.2 (E2_some (Or.inl ⟨rfl, rfl, hf, hK⟩))
    unfold fB_X3_readText_L42
    exact E2_itl (fun _ => j) (fun _ => E2_ql hf.2.2 j)
theorem e_text (L : Lo) (N : Nat) : ∀ (x : Int32) (K R P T : Tr), tkS K T → RD R P T → R 0 1 = 0 → R 0 3 = x → 0 ≤ x.toInt → x.toInt ≤ (T 0 10).toInt → E2 (lpF (fun _ _ _ _ => none) fB_X3_readText_L42 N x K R P) (lpF (fun _ _ => none) (fB_X8_text_L55 L) N x T) (txQ L K) := by
  induction N with
  | zero => intro x K R P T _ _ _ _ _ _; exact E2_nl
  | succ N ih =>
    intro x K R P T kt hr h0 h3 x0 x10
    show E2 (fB_X3_readText_L42 (lpF (fun _ _ _ _ => none) fB_X3_readText_L42 N) x K R P) (fB_X8_text_L55 L (lpF (fun _ _ => none) (fB_X8_text_L55 L) N) x T) _
    have stop : ∀ (K1 R1 P1 T1 : Tr) (y : Int32), flt R1 T1 → frK K K1 → E2 (lpF (fun _ _ _ _ => none) fB_X3_readText_L42 N y K1 R1 P1) (some ((-1 : Int32), T1, L)) (txQ L K) := fun K1 R1 P1 T1 y h hk => tx_stop h hk N
    generalize lpF (fun _ _ _ _ => none) fB_X3_readText_L42 N = k1 at ih stop ⊢
    generalize lpF (fun _ _ => none) (fB_X8_text_L55 L) N = k2 at ih ⊢
    have b := kt.1.2.2.1
    have on := tk_on kt
    have ke := k_end kt.2.2.2.2.1
    have ei : (x + 1).toInt = x.toInt + 1 := i_addK rfl (by decide) (by omega) (by omega)
    unfold fB_X3_readText_L42 fB_X8_text_L55
    refine E2_ql (fun q => by have := tq_lt (a := 700) (by decide) rfl q; omega) (E2_pl h0 ?_)
    by_cases c : (T 0 8).toInt = 0
    · refine E2_pl (i_z (by rw [ke.mpr c]; decide)) (E2_pr (i_z (by rw [c]; decide)) ?_)
      unfold fJ_X3_readText_J123 fJ_X8_text_J77
      refine E2_pl h0 ?_
      intro A B e1 e2
      obtain ⟨v, v1, v2⟩ := tx_bd e2
      have e1 := tx_1 e1
      have v2 : some (x, v.1, v.2) = some B := v2
      have v2 := tx_1 v2
      subst e1; subst v2
      exact Or.inr ⟨rfl, T, v1, hr, h0, h3, x0, frK_r⟩
    · refine E2_ql (fun q => c (ke.mp (by rw [q]; decide))) (E2_qr (fun q => c (by rw [q]; decide)) (E2_bd (e_line kt hr h0) (fun q q' hq => ?_)))
      have lt7 : (T 0 10).toInt < (T 0 7).toInt := by
        rcases kt.2.2.2.2.2.2.2.2 with g | g
        · exact absurd (by rw [g.1]; decide) c
        · exact g
      obtain ⟨r, K1, R1, P1⟩ := q
      obtain ⟨r', T1⟩ := q'
      refine E2_v4l (E2_v2r ?_)
      have hq : (r = 0 ∧ r' = 0 ∧ flt R1 T1 ∧ frK K K1) ∨ (r = 1 ∧ ¬ K1 0 1 = 41 ∧ r' = 0 ∧ T1 0 4 = 1 ∧ T1 0 5 = K1 0 2 ∧ frK K K1 ∧ R1 0 1 = 0) ∨ (r = 1 ∧ K1 0 1 = 41 ∧ r' = 1 ∧ ∃ T0, f_X8_token T0 = some T1 ∧ tkS K1 T0 ∧ RD R1 P1 T0 ∧ R1 0 1 = 0 ∧ R1 0 3 = R 0 3 ∧ frK K K1 ∧ (T 0 7).toInt ≤ (T0 0 10).toInt) := hq
      rcases hq with ⟨rfl, rfl, u1, u2⟩ | ⟨rfl, u1, rfl, u2, u3, u4, u5⟩ | ⟨rfl, u1, rfl, T0, u2, u3, u4, u5, u6, u7, u8⟩
      · exact E2_pl rfl (E2_ltl (fun y _ => E2_pr rfl (stop _ _ _ _ _ u1 u2)))
      · refine E2_ql (by decide) (E2_ql u1 (E2_pr rfl ?_))
        unfold fJ_X3_readText_J93
        rw [ex0]
        refine E2_p2l (E2_pl rfl (E2_ltl (fun y _ => stop _ _ _ _ _ ⟨?_, ?_, ?_⟩ u4)))
        · rw [st_no (by omega), st_same]; exact u2.symm
        · rw [st_same]; exact u3.symm
        · rw [st_no (by omega), st_same]; decide
      · refine E2_ql (by decide) (E2_pl u1 (E2_qr (by decide) (E2_ltr (fun y' ey' => ?_))))
        unfold fJ_X3_readText_J93
        rw [ex1]
        refine E2_p2l (E2_ql (by decide) ?_)
        intro A B e1 e2
        obtain ⟨K2, v1, v2⟩ := tx_bd e1
        obtain ⟨kt2, k2f, t2f, k2p⟩ := e_advS u3 K2 T1 v1 u2
        have on0 := tk_on u3
        refine tx_mono (frK_t u7 k2f) (ih (x + 1) K2 (st R1 0 3 (R1 0 3 + 1)) P1 T1 kt2 (RD_of u4 (by rw [st_no (by omega)]) (by rw [st_no (by omega)]) (fun a i hn => t2f a i (by omega))) (by rw [st_no (by omega)]; exact u5) (by rw [st_same, u6, h3]) (by omega) (by omega) A B v2 (by rw [← ey']; exact e2))
-- 62.y.g9
/-! a text from its start -/
theorem e_c59 (N : Nat) : ∀ (n : Nat) (x1 : Int32) (P P0 : Tr), x1.toInt = n → n ≤ 3 → (∀ k, k < n → P (30 + 3 * k) 1 = 0) → (∀ a i, a < 30 → P a i = P0 a i) → Ep (lpF (fun _ _ => none) fB_X2_clear_L59 N x1 P) (fun q => (∀ a i, a < 30 → q a i = P0 a i) ∧ ∀ k, k < 3 → q (30 + 3 * k) 1 = 0) := by
  induction N with
  | zero => intro n x1 P P0 _ _ _ _; exact Ep_none
  | succ N ih =>
    intro n x1 P P0 hx hn hk h0
    show Ep (fB_X2_clear_L59 (lpF (fun _ _ => none) fB_X2_clear_L59 N) x1 P) _
    generalize lpF (fun _ _ => none) fB_X2_clear_L59 N = k at ih ⊢
    unfold fB_X2_clear_L59
    refine Ep_ite (fun c => Ep_some ⟨h0, fun i hi => hk i ?_⟩) (fun c => ?_)
    · have := tq_le (a := 3) (by decide) hx c
      omega
    · have c := tq_len (a := 3) (by decide) hx c
      rw [i_cn hx]
      refine Ep_ck (Ep_lt (fun P1 e1 => Ep_lt (fun y ey => ih (n + 1) y P1 P0 (by rw [ey, i_addK hx (y := 1) (by decide) (by omega) (by omega)]; omega) (by omega) (fun i hi => ?_) (fun a i ha => by rw [e1, st_no (by omega), h0 a i ha]))))
      by_cases q : i = n
      · rw [e1, q, st_same]
      · rw [e1, st_no (by omega)]; exact hk i (by omega)
theorem e_c37 (N : Nat) : ∀ (n : Nat) (x1 : Int32) (P P0 : Tr), x1.toInt = n → n ≤ 21 → (∀ t, t < n → P 18 t = 60) → (∀ i, P 0 i = P0 0 i) → Ep (lpF (fun _ _ => none) fB_X2_clear_L37 N x1 P) (fun q => (∀ i, q 0 i = P0 0 i) ∧ (∀ t, t < 21 → q 18 t = 60) ∧ ∀ k, k < 3 → q (30 + 3 * k) 1 = 0) := by
  induction N with
  | zero => intro n x1 P P0 _ _ _ _; exact Ep_none
  | succ N ih =>
    intro n x1 P P0 hx hn hk h0
    show Ep (fB_X2_clear_L37 (lpF (fun _ _ => none) fB_X2_clear_L37 N) x1 P) _
    generalize lpF (fun _ _ => none) fB_X2_clear_L37 N = k at ih ⊢
    unfold fB_X2_clear_L37
    refine Ep_ite (fun c => ?_) (fun c => ?_)
    · have c := tq_lt (a := 20) (by decide) hx c
      refine Ep_mono (e_c59 2000 0 0 P P (by decide) (by omega) (fun i hi => absurd hi (Nat.not_lt_zero i)) (fun _ _ _ => rfl)) (fun q hq => ⟨fun i => by rw [hq.1 0 i (by omega), h0 i], fun t ht => by rw [hq.1 18 t (by omega)]; exact hk t (by omega), hq.2⟩)
    · have c := tq_ltn (a := 20) (by decide) hx c
      rw [i_cn hx]
      refine Ep_ck (Ep_lt (fun P1 e1 => Ep_lt (fun y ey => ih (n + 1) y P1 P0 (by rw [ey, i_addK hx (y := 1) (by decide) (by omega) (by omega)]; omega) (by omega) (fun t ht => ?_) (fun i => by rw [e1, st_no (by omega), h0 i]))))
      by_cases q : t = n
      · rw [e1, q, st_same]
      · rw [e1, st_no (by omega)]; exact hk t (by omega)
theorem e_clr (P : Tr) : Ep (f_X2_clear P) (fun q => (∀ i, i ≤ 6 → q 0 i = 0) ∧ (∀ t, t < 21 → q 18 t = 60) ∧ ∀ k, k < 3 → q (30 + 3 * k) 1 = 0) := by
  unfold f_X2_clear
  refine Ep_lt (fun P1 e1 => Ep_lt (fun P2 e2 => Ep_lt (fun P3 e3 => Ep_lt (fun P4 e4 => Ep_lt (fun P5 e5 => Ep_lt (fun P6 e6 => Ep_lt (fun P7 e7 => ?_)))))))
  refine Ep_mono (e_c37 2000 0 0 P7 P7 (by decide) (by omega) (fun i hi => absurd hi (Nat.not_lt_zero i)) (fun _ => rfl)) (fun q hq => ⟨fun i hi => ?_, hq.2.1, hq.2.2⟩)
  rw [hq.1 i]
  rcases (by omega : i = 0 ∨ i = 1 ∨ i = 2 ∨ i = 3 ∨ i = 4 ∨ i = 5 ∨ i = 6) with rfl | rfl | rfl | rfl | rfl | rfl | rfl
  · rw [e7, st_ne (by decide), e6, st_ne (by decide), e5, st_ne (by decide), e4, st_ne (by decide), e3, st_ne (by decide), e2, st_ne (by decide), e1, st_same]
  · rw [e7, st_ne (by decide), e6, st_ne (by decide), e5, st_ne (by decide), e4, st_ne (by decide), e3, st_ne (by decide), e2, st_same]
  · rw [e7, st_ne (by decide), e6, st_ne (by decide), e5, st_ne (by decide), e4, st_ne (by decide), e3, st_same]
  · rw [e7, st_ne (by decide), e6, st_ne (by decide), e5, st_ne (by decide), e4, st_same]
  · rw [e7, st_ne (by decide), e6, st_ne (by decide), e5, st_same]
  · rw [e7, st_ne (by decide), e6, st_same]
  · rw [e7, st_same]
def plF (S q : Tr) : Prop := ∀ a i, ¬ ((a = 0 ∧ ((16 ≤ i ∧ i ≤ 20) ∨ i = 46)) ∨ a = 22 ∨ a = 23 ∨ (34 ≤ a ∧ a ≤ 36)) → q a i = S a i
theorem e_p70 (N : Nat) : ∀ (n : Nat) (x1 : Int32) (S S0 : Tr), x1.toInt = n → n ≤ 21 → (∀ t, t < n → S 34 (21 + t) = 60 ∧ S 35 t = 0) → (∀ a i, ¬ (a = 34 ∨ a = 35) → S a i = S0 a i) → Ep (lpF (fun _ _ => none) fB_X8_plain_L70 N x1 S) (fun q => (∀ t, t < 21 → q 34 (21 + t) = 60 ∧ q 35 t = 0) ∧ ∀ a i, ¬ (a = 34 ∨ a = 35) → q a i = S0 a i) := by
  induction N with
  | zero => intro n x1 S S0 _ _ _ _; exact Ep_none
  | succ N ih =>
    intro n x1 S S0 hx hn hk h0
    show Ep (fB_X8_plain_L70 (lpF (fun _ _ => none) fB_X8_plain_L70 N) x1 S) _
    generalize lpF (fun _ _ => none) fB_X8_plain_L70 N = k at ih ⊢
    unfold fB_X8_plain_L70
    refine Ep_ite (fun c => Ep_some ⟨fun t ht => hk t ?_, h0⟩) (fun c => ?_)
    · have := tq_le (a := 21) (by decide) hx c
      omega
    · have c := tq_len (a := 21) (by decide) hx c
      have c21 : ((21 : Int32) + x1).toNatClampNeg = 21 + n := i_cn (by rw [i_addK (x := 21) (y := n) (by decide) hx (by omega) (by omega)]; omega)
      rw [c21, i_cn hx, nar0]
      refine Ep_ck (Ep_lt (fun S1 e1 => Ep_ck (Ep_lt (fun S2 e2 => Ep_lt (fun y ey => ih (n + 1) y S2 S0 (by rw [ey, i_addK hx (y := 1) (by decide) (by omega) (by omega)]; omega) (by omega) (fun t ht => ?_) (fun a i ha => by rw [e2, st_no (by omega), e1, st_no (by omega), h0 a i ha]))))))
      by_cases q : t = n
      · rw [q, e2, st_no (by omega), e1, st_same, st_same]; exact ⟨rfl, rfl⟩
      · rw [e2, st_no (by omega), e1, st_no (by omega), st_no (by omega), st_no (by omega)]; exact hk t (by omega)
theorem e_p32 (N : Nat) : ∀ (n : Nat) (x1 : Int32) (S S0 : Tr), x1.toInt = n → n ≤ 3 → (∀ k, k < n → S 22 k = 0 ∧ S 23 (3 + k) = 0 ∧ S 36 (3 + k) = 0) → (∀ a i, ¬ (a = 22 ∨ a = 23 ∨ (34 ≤ a ∧ a ≤ 36)) → S a i = S0 a i) → Ep (lpF (fun _ _ => none) fB_X8_plain_L32 N x1 S) (fun q => (∀ t, t < 21 → q 34 (21 + t) = 60 ∧ q 35 t = 0) ∧ (∀ k, k < 3 → q 22 k = 0 ∧ q 23 (3 + k) = 0 ∧ q 36 (3 + k) = 0) ∧ ∀ a i, ¬ (a = 22 ∨ a = 23 ∨ (34 ≤ a ∧ a ≤ 36)) → q a i = S0 a i) := by
  induction N with
  | zero => intro n x1 S S0 _ _ _ _; exact Ep_none
  | succ N ih =>
    intro n x1 S S0 hx hn hk h0
    show Ep (fB_X8_plain_L32 (lpF (fun _ _ => none) fB_X8_plain_L32 N) x1 S) _
    generalize lpF (fun _ _ => none) fB_X8_plain_L32 N = k at ih ⊢
    unfold fB_X8_plain_L32
    refine Ep_ite (fun c => ?_) (fun c => ?_)
    · have c := tq_le (a := 3) (by decide) hx c
      refine Ep_mono (e_p70 2000 0 0 S S (by decide) (by omega) (fun i hi => absurd hi (Nat.not_lt_zero i)) (fun _ _ _ => rfl)) (fun q hq => ⟨hq.1, fun i hi => ?_, fun a i ha => by rw [hq.2 a i (by omega), h0 a i ha]⟩)
      rw [hq.2 22 _ (by omega), hq.2 23 _ (by omega), hq.2 36 _ (by omega)]
      exact hk i (by omega)
    · have c := tq_len (a := 3) (by decide) hx c
      have c3 : ((3 : Int32) + x1).toNatClampNeg = 3 + n := i_cn (by rw [i_addK (x := 3) (y := n) (by decide) hx (by omega) (by omega)]; omega)
      rw [c3, i_cn hx, nar0]
      refine Ep_ck (Ep_lt (fun S1 e1 => Ep_ck (Ep_lt (fun S2 e2 => Ep_lt (fun S3 e3 => Ep_lt (fun y ey => ih (n + 1) y S3 S0 (by rw [ey, i_addK hx (y := 1) (by decide) (by omega) (by omega)]; omega) (by omega) (fun t ht => ?_) (fun a i ha => by rw [e3, st_no (by omega), e2, st_no (by omega), e1, st_no (by omega), h0 a i ha])))))))
      by_cases q : t = n
      · rw [q, e3, st_no (by omega), st_no (by omega), st_same, e2, st_no (by omega), st_same, e1, st_same]; exact ⟨rfl, rfl, rfl⟩
      · rw [e3, st_no (by omega), st_no (by omega), st_no (by omega), e2, st_no (by omega), st_no (by omega), st_no (by omega), e1, st_no (by omega), st_no (by omega), st_no (by omega)]; exact hk t (by omega)
theorem e_plain (S : Tr) : Ep (f_X8_plain S) (fun q => (∀ t, t < 21 → q 34 (21 + t) = 60 ∧ q 35 t = 0) ∧ (∀ k, k < 3 → q 22 k = 0 ∧ q 23 (3 + k) = 0 ∧ q 36 (3 + k) = 0) ∧ (∀ i, (16 ≤ i ∧ i ≤ 20) ∨ i = 46 → q 0 i = 0) ∧ plF S q) := by
  unfold f_X8_plain
  refine Ep_lt (fun S1 e1 => Ep_lt (fun S2 e2 => Ep_lt (fun S3 e3 => Ep_lt (fun S4 e4 => Ep_lt (fun S5 e5 => Ep_lt (fun S6 e6 => ?_))))))
  refine Ep_mono (e_p32 2000 0 0 S6 S6 (by decide) (by omega) (fun i hi => absurd hi (Nat.not_lt_zero i)) (fun _ _ _ => rfl)) (fun q hq => ⟨hq.1, hq.2.1, fun i hi => ?_, fun a i hn => ?_⟩)
  · rw [hq.2.2 0 i (by omega)]
    rcases (by omega : i = 16 ∨ i = 17 ∨ i = 18 ∨ i = 19 ∨ i = 20 ∨ i = 46) with rfl | rfl | rfl | rfl | rfl | rfl
    · rw [e6, st_ne (by decide), e5, st_ne (by decide), e4, st_ne (by decide), e3, st_ne (by decide), e2, st_ne (by decide), e1, st_same]
    · rw [e6, st_ne (by decide), e5, st_ne (by decide), e4, st_ne (by decide), e3, st_ne (by decide), e2, st_same]
    · rw [e6, st_ne (by decide), e5, st_ne (by decide), e4, st_ne (by decide), e3, st_same]
    · rw [e6, st_ne (by decide), e5, st_ne (by decide), e4, st_same]
    · rw [e6, st_ne (by decide), e5, st_same]
    · rw [e6, st_same]
  · rw [hq.2.2 a i (by omega), e6, st_no (by omega), e5, st_no (by omega), e4, st_no (by omega), e3, st_no (by omega), e2, st_no (by omega), e1, st_no (by omega)]
theorem RD_0 {R P T : Tr} (p0 : ∀ i, i ≤ 6 → P 0 i = 0) (p18 : ∀ t, t < 21 → P 18 t = 60) (p30 : ∀ k, k < 3 → P (30 + 3 * k) 1 = 0) (r5 : R 0 5 = 0) (r6 : R 0 6 = 0) (t34 : ∀ t, t < 21 → T 34 (21 + t) = 60 ∧ T 35 t = 0) (t22 : ∀ k, k < 3 → T 22 k = 0 ∧ T 23 (3 + k) = 0 ∧ T 36 (3 + k) = 0) (t0 : ∀ i, (16 ≤ i ∧ i ≤ 20) ∨ i = 46 → T 0 i = 0) : RD R P T := by
  have z0 : (0 : Int32).toInt = 0 := by decide
  refine ⟨⟨?_, ?_, fun i hi => ?_⟩, ⟨?_, ?_, fun i hi => ?_⟩, ⟨?_, ?_, fun i hi => ?_⟩, ⟨?_, ?_, ?_, fun t ht => ?_, fun t ht => ?_⟩, ⟨?_, ?_, ?_, ?_, ?_, ?_, ?_⟩, ?_, ?_, ?_, ?_, ?_, ?_⟩
  · rw [p0 0 (by omega), t0 16 (by omega)]
  · rw [t0 16 (by omega), z0]; omega
  · rw [t0 16 (by omega), z0] at hi; omega
  · rw [p0 1 (by omega), t0 17 (by omega)]
  · rw [t0 17 (by omega), z0]; omega
  · rw [t0 17 (by omega), z0] at hi; omega
  · rw [p0 2 (by omega), t0 18 (by omega)]
  · rw [t0 18 (by omega), z0]; omega
  · rw [t0 18 (by omega), z0] at hi; omega
  · rw [r6, z0]; omega
  · rw [r6, t0 20 (by omega), (bc_n (x := 0) (n := 0) z0 (by omega)).1, z0]; decide
  · rw [t0 20 (by omega), z0]; omega
  · rw [r6, (t34 t (by omega)).2, bit_n (x := 0) (n := 0) z0 ht]; simp
  · rw [p18 t ht, (t34 t ht).1]
  · rw [r5, z0]; omega
  · rw [r5, (t22 0 (by omega)).1]; decide
  · rw [r5, (t22 1 (by omega)).1]; decide
  · rw [r5, (t22 2 (by omega)).1]; decide
  · rw [p0 4 (by omega), (t22 0 (by omega)).2.1]
  · rw [p0 5 (by omega), (t22 1 (by omega)).2.1]
  · rw [p0 6 (by omega), (t22 2 (by omega)).2.1]
  · rw [p0 3 (by omega), t0 46 (by omega)]
  · rw [t0 19 (by omega), t0 46 (by omega)]
  · rw [t0 46 (by omega), z0]; omega
  · exact Or.inl ⟨p30 0 (by omega), (t22 0 (by omega)).2.2⟩
  · exact Or.inl ⟨p30 1 (by omega), (t22 1 (by omega)).2.2⟩
  · exact Or.inl ⟨p30 2 (by omega), (t22 2 (by omega)).2.2⟩
/-- what holds of tapes and words between calls -/
def relT (K S : Tr) : Prop := tR K S ∧ wC K ∧ wT S
theorem e_rt {K R P S8 : Tr} {L : Lo} {x1 : Int32} (hC : wC K) (hT : wT S8) (h0 : 0 ≤ x1.toInt) (h7 : x1.toInt ≤ 700) (s6 : S8 0 6 = x1) (s7 : S8 0 7 = 0) (tape : ∀ j : Nat, (j : Int) < x1.toInt → K 5 j &&& 255 = S8 1 j) : E2 (f_X3_readText K R P x1) (bd (f_X8_plain S8) fun S_9 => bd (f_X8_token S_9) fun S_12 => fL_X8_text_L55 L 0 S_12) (txQ L (st (st K 0 6 x1) 0 7 0)) := by
  unfold f_X3_readText f_X5_begin fL_X3_readText_L42 fL_X8_text_L55
  refine E2_bl (e_clr P) (fun P1 hP => E2_ltl (fun R4 r4 => E2_ltl (fun R5 r5 => E2_ltl (fun R6 r6 => E2_ltl (fun R7 r7 => E2_ltl (fun R8 r8 => E2_br (e_plain S8) (fun S9 hS => ?_)))))))
  obtain ⟨q34, q22, q0, qf⟩ := hS
  simp only [bd_lt]
  refine E2_ltl (fun K1 e1 => E2_ltl (fun K2 e2 => ?_))
  rw [← e1, ← e2]
  have z0 : (0 : Int32).toInt = 0 := by decide
  have k6 : K2 0 6 = x1 := by rw [e2, st_ne (by decide), e1, st_same]
  have k7 : K2 0 7 = 0 := by rw [e2, st_same]
  have kf : ∀ a i, ¬ (a = 0 ∧ (i = 6 ∨ i = 7)) → K2 a i = K a i := fun a i hn => by rw [e2, st_no (by omega), e1, st_no (by omega)]
  have u6 : S9 0 6 = x1 := by rw [qf 0 6 (by omega)]; exact s6
  have u7 : S9 0 7 = 0 := by rw [qf 0 7 (by omega)]; exact s7
  have kt : kT K2 S9 := ⟨by rw [k6, u6], by rw [k7, u7], by rw [u7, u6, z0]; omega, fun j hj => by rw [u6] at hj; rw [kf 5 j (by omega), qf 1 j (by omega)]; exact tape j hj⟩
  rw [bd_bd]
  refine E2_bd (e_adv (fun j hj => by rw [kf 6 j (by omega)]; exact hC j hj) (fun j hj => by rw [qf 4 j (by omega)]; exact hT j hj) kt) (fun K3 T3 h3 => ?_)
  obtain ⟨k3, k3f, t3f, k3p⟩ := h3
  have rs : ∀ i, (i = 5 ∨ i = 6 ∨ i = 1 ∨ i = 3) → R8 0 i = 0 := fun i hi => by
    rcases hi with rfl | rfl | rfl | rfl
    · rw [r8, st_ne (by decide), r7, st_same]
    · rw [r8, st_same]
    · rw [r8, st_ne (by decide), r7, st_ne (by decide), r6, st_ne (by decide), r5, st_ne (by decide), r4, st_same]
    · rw [r8, st_ne (by decide), r7, st_ne (by decide), r6, st_same]
  have rd : RD R8 P1 T3 := RD_0 hP.1 hP.2.1 hP.2.2 (rs 5 (by omega)) (rs 6 (by omega)) (fun t ht => by rw [t3f 34 _ (by omega), t3f 35 _ (by omega)]; exact q34 t ht) (fun k hk => by rw [t3f 22 _ (by omega), t3f 23 _ (by omega), t3f 36 _ (by omega)]; exact q22 k hk) (fun i hi => by rw [t3f 0 i (by omega)]; exact q0 i hi)
  show E2 (lpF (fun _ _ _ _ => none) fB_X3_readText_L42 2000 0 K3 R8 P1) _ _
  exact E2_mono (e_text L 2000 0 K3 R8 P1 T3 k3 rd (rs 1 (by omega)) (rs 3 (by omega)) (by decide) (by rw [z0]; exact k3.2.2.2.2.2.2.2.1)) (fun a b h => tx_mono k3f h)
-- 62.y.h1
/-! text and feed: class and reference -/
theorem e_X7text (pa qa : Nat → Nat) (X K R P2 Tn C Z S : Tr) (L : Lo) (q0 q4 q5 : Nat) (x1 : Int32) (h : relT K S) (hb : 0 ≤ (K 0 0).toInt ∧ (K 0 0).toInt ≤ 700) : E2 (f_X7_text pa qa X K R P2 Tn C Z q0 q4 q5 x1) (f_X8_text S L x1) (fun q q' => q.1 = q'.1 ∧ wC q.2.2.1 ∧ (q.2.2.1 0 0 = 0 ∨ (q.2.2.1 = K ∧ q'.2.1 1 = S 1))) := by
  obtain ⟨⟨t1, t2⟩, hC, hT⟩ := h
  unfold f_X7_text f_X8_text
  refine E2_ltr (fun S1 e1 => ?_)
  have s1 : S1 1 = S 1 := by rw [e1, st_oth (by decide)]
  have s01 : S1 0 1 = K 0 0 := by rw [e1, st_ne (by decide)]; exact t1.symm
  by_cases c : x1 < 0
  · exact E2_pl c (E2_pr c (E2_some ⟨rfl, hC, Or.inr ⟨rfl, s1⟩⟩))
  · refine E2_ql c (E2_qr c ?_)
    rw [s01]
    have c0 := tq_ltn (b := 0) rfl (by decide) c
    by_cases d : x1 ≤ K 0 0
    · have d0 := tq_le rfl rfl d
      refine E2_pl d (E2_pr d (E2_ckl (fun _ => E2_ltr (fun S4 f4 => E2_ltr (fun S5 f5 => E2_ltr (fun S6 f6 => E2_ltr (fun S7 f7 => E2_ltr (fun S8 f8 => ?_))))))))
      have o8 : ∀ a, ¬ a = 0 → S8 a = S a := fun a ha => by rw [f8, st_oth ha, f7, st_oth ha, f6, st_oth ha, f5, st_oth ha, f4, st_oth ha, e1, st_oth ha]
      have s6 : S8 0 6 = x1 := by rw [f8, st_ne (by decide), f7, st_ne (by decide), f6, st_ne (by decide), f5, st_ne (by decide), f4, st_same]
      have s7 : S8 0 7 = 0 := by rw [f8, st_same]
      have hT8 : wT S8 := fun j hj => by rw [o8 4 (by decide)]; exact hT j hj
      have z := e_rt (K := K) (R := R) (P := P2) (S8 := S8) (L := L) (x1 := x1) hC hT8 c0 (by omega) s6 s7 (fun j hj => by rw [o8 1 (by decide)]; exact t2 j (by omega))
      intro A B ea eb
      obtain ⟨v, v1, v2⟩ := tx_bd ea
      obtain ⟨r, K5, R6, P7⟩ := v
      have hq := z (r, K5, R6, P7) B v1 eb
      have k6 : ∀ j, (st (st K 0 6 x1) 0 7 0) 6 j = K 6 j := fun j => by rw [st_no (by omega), st_no (by omega)]
      have hC5 : frK (st (st K 0 6 x1) 0 7 0) K5 → wC (st K5 0 0 0) := fun hf j hj => by
        rw [st_no (by omega), hf 6 j (by omega), k6 j]; exact hC j hj
      have v2 : (if r = 0 then (some ((-1 : Int32), X, st K5 0 0 0, R6, P7, Tn, C, Z, q0, q4, qa 0)) else (bd (f_X6_begin qa Tn P7 q0) fun q => lt q.1 fun Tn_12 => lt q.2 fun q0_13 => lt (st X 0 4 0) fun X_16 => lt (st C 0 0 0) fun C_17 => bd (f_X4_forget_x pa qa Z) fun Z_18 => some ((R6 0 3), X_16, st K5 0 0 0, R6, P7, Tn_12, C_17, Z_18, q0_13, qa 0, q4))) = some A := v2
      have hq : (r = 0 ∧ B.1 = -1 ∧ flt R6 B.2.1 ∧ frK (st (st K 0 6 x1) 0 7 0) K5) ∨ (r = 1 ∧ ∃ T0, f_X8_keepText T0 L = some B.2 ∧ RD R6 P7 T0 ∧ R6 0 1 = 0 ∧ R6 0 3 = B.1 ∧ 0 ≤ B.1.toInt ∧ frK (st (st K 0 6 x1) 0 7 0) K5) := hq
      rcases hq with ⟨rfl, u1, u2, u3⟩ | ⟨rfl, T0, u1, u2, u3, u4, u5, u6⟩
      · rw [if_pos rfl] at v2
        have v2 := tx_1 v2
        subst v2
        exact ⟨u1.symm, hC5 u3, Or.inl (by show st K5 0 0 0 0 0 = 0; rw [st_same])⟩
      · rw [if_neg (by decide)] at v2
        obtain ⟨w1, _, w2⟩ := tx_bd v2
        have w2 : bd (f_X4_forget_x pa qa Z) (fun Z_18 => some ((R6 0 3), st X 0 4 0, st K5 0 0 0, R6, P7, w1.1, st C 0 0 0, Z_18, w1.2, qa 0, q4)) = some A := w2
        obtain ⟨w3, _, w4⟩ := tx_bd w2
        have w4 := tx_1 w4
        subst w4
        exact ⟨u4, hC5 u6, Or.inl (by show st K5 0 0 0 0 0 = 0; rw [st_same])⟩
    · exact E2_ql d (E2_qr d (E2_some ⟨rfl, hC, Or.inr ⟨rfl, s1⟩⟩))
theorem e_X7feed (pa qa : Nat → Nat) (K S : Tr) (x1 x2 x3 x4 x5 : Int32) (h : relT K S) (hb : 0 ≤ (K 0 0).toInt ∧ (K 0 0).toInt ≤ 700) : E2 (f_X7_feed pa qa K x1 x2 x3 x4 x5) (f_X8_feed S x1 x2 x3 x4 x5) (fun q q' => wC q.2 ∧ ∀ j : Nat, (j : Int) < (q.2 0 0).toInt → q.2 5 j &&& 255 = q'.2 1 j) := by
  obtain ⟨⟨t1, t2⟩, hC, hT⟩ := h
  obtain ⟨n0, hn0⟩ : ∃ n : Nat, (K 0 0).toInt = n := ⟨(K 0 0).toInt.toNat, by omega⟩
  have f20 : (K 0 0 + 20).toInt = (K 0 0).toInt + 20 := i_addK rfl (by decide) (by omega) (by omega)
  by_cases c : n0 + 20 ≤ 700
  · have hf := e_feed2 pa qa K x1 x2 x3 x4 x5 n0 hn0 c
    unfold f_X8_feed fL_X8_feed_L23
    refine E2_ltr (fun S1 e1 => ?_)
    have s01 : S1 0 1 = K 0 0 := by rw [e1, st_ne (by decide)]; exact t1.symm
    have s1 : S1 1 = S 1 := by rw [e1, st_oth (by decide)]
    rw [s01]
    refine E2_pr (Int32.le_iff_toInt_le.mpr (by rw [f20]; show _ ≤ (700 : Int); omega)) ?_
    refine E2_ep hf (r_g23 S1 x1 x2 x3 x4 x5 n0 (by rw [s01]; exact hn0) c 2000 0 0 S1 (by decide) (by omega) (fun _ _ => rfl) (fun _ _ => rfl) (fun i hi => absurd hi (Nat.not_lt_zero i))) (fun q q' h1 h2 => ?_)
    obtain ⟨a1, a2, a3, a4, a5⟩ := h1
    obtain ⟨b1, b2⟩ := h2
    refine ⟨fun j hj => by rw [a5 6 (by decide) (by decide)]; exact hC j hj, fun j hj => ?_⟩
    by_cases g : j < n0
    · rw [a2 j g, b1 j g, s1]; exact t2 j (by omega)
    · obtain ⟨i, rfl⟩ : ∃ i, j = n0 + i := ⟨j - n0, by omega⟩
      rw [a3 i (by omega), b2 i (by omega)]
  · unfold f_X7_feed f_X8_feed
    refine E2_ltr (fun S1 e1 => ?_)
    have s01 : S1 0 1 = K 0 0 := by rw [e1, st_ne (by decide)]; exact t1.symm
    have s1 : S1 1 = S 1 := by rw [e1, st_oth (by decide)]
    have no : ¬ (K 0 0 + 20) ≤ 700 := fun q => by have := tq_le (b := 700) f20 (by decide) q; omega
    rw [s01]
    refine E2_ql no (E2_qr no (E2_some ⟨hC, fun j hj => ?_⟩))
    show K 5 j &&& 255 = S1 1 j
    rw [s1]; exact t2 j hj
/-- what a call of the reference leaves of tape and words -/
def kpS (S S1 : Tr) : Prop := S1 0 1 = S 0 1 ∧ (∀ j, S1 1 j = S 1 j) ∧ ∀ j, S1 4 j = S 4 j
theorem relT_S {K S S1 : Tr} (h : relT K S) (e : kpS S S1) : relT K S1 := ⟨⟨h.1.1.trans e.1.symm, fun j hj => by rw [e.2.1 j]; exact h.1.2 j hj⟩, h.2.1, fun j hj => by rw [e.2.2 j]; exact h.2.2 j hj⟩
-- 62.za.1iv
/-! the class: where no fault is told there is no place of one -/
theorem iv_st {R : Tr} {a i : Nat} {v : Int32} (h : R 0 1 = 0 → R 0 2 = -1) (hn : ¬ (a = 0 ∧ (i = 1 ∨ i = 2))) : st R a i v 0 1 = 0 → st R a i v 0 2 = -1 := by
  rw [st_no (by omega), st_no (by omega)]; exact h
theorem iv_expect (K R : Tr) (x1 x2 : Int32) (h : R 0 1 = 0 → R 0 2 = -1) (hx : ¬ x2 = 0) : Ep (f_X3_expect K R x1 x2) (fun q => q.2 0 1 = 0 → q.2 0 2 = -1) := by
  unfold f_X3_expect
  refine Ep_ite (fun _ => Ep_lt (fun R1 e1 => Ep_lt (fun R2 e2 => Ep_ck (Ep_some (fun e => ?_))))) (fun _ => Ep_ck (Ep_some h))
  have e : R2 0 1 = 0 := e
  rw [e2, st_ne (by decide), e1, st_same] at e
  exact absurd e hx
set_option maxHeartbeats 1000000 in
set_option maxRecDepth 100000 in
theorem ivJ_X3_readText_J123 (K : Tr) (R : Tr) (P : Tr) (hR : (R 0 1 = 0 → R 0 2 = -1))   : Ep (fJ_X3_readText_J123 K R P) (fun q => (q.2.2.1 0 1 = 0 → q.2.2.1 0 2 = -1)) := by
  unfold fJ_X3_readText_J123
  refine Ep_ite (fun _ => ?_) (fun _ => ?_)
  · exact Ep_some hR
  · exact Ep_some hR
set_option maxHeartbeats 1000000 in
set_option maxRecDepth 100000 in
theorem ivJ_X3_takeWord_J24 (x1 : Int32) (x3 : Int32) (s0 : Int32) (K : Tr) (R : Tr) (hR : (R 0 1 = 0 → R 0 2 = -1))   : Ep (fJ_X3_takeWord_J24 x1 x3 s0 K R) (fun q => (q.2.2 0 1 = 0 → q.2.2 0 2 = -1)) := by
  unfold fJ_X3_takeWord_J24
  refine Ep_bd (iv_expect K R s0 (1 : Int32) hR (by decide)) (fun q hq => ?_)
  refine Ep_lt (fun r3 er3 => ?_)
  refine Ep_lt (fun R_4 eR_4 => ?_)
  have hR_4 : (R_4 0 1 = 0 → R_4 0 2 = -1) := by rw [eR_4]; exact hq
  refine Ep_ite (fun _ => ?_) (fun _ => ?_)
  · exact Ep_some hR_4
  · refine Ep_any (fun K_8 => ?_)
    exact Ep_some hR_4
set_option maxHeartbeats 1000000 in
set_option maxRecDepth 100000 in
theorem ivJ_X3_takeWord_J23 (x1 : Int32) (x3 : Int32) (K : Tr) (R : Tr) (hR : (R 0 1 = 0 → R 0 2 = -1))   : Ep (fJ_X3_takeWord_J23 x1 x3 K R) (fun q => (q.2.2 0 1 = 0 → q.2.2 0 2 = -1)) := by
  unfold fJ_X3_takeWord_J23
  exact ivJ_X3_takeWord_J24 x1 x3 0 K R hR
set_option maxHeartbeats 1000000 in
set_option maxRecDepth 100000 in
theorem iv_X3_takeWord (K : Tr) (R : Tr) (x1 : Int32) (x2 : Int32) (hR : (R 0 1 = 0 → R 0 2 = -1))   : Ep (f_X3_takeWord K R x1 x2) (fun q => (q.2.2 0 1 = 0 → q.2.2 0 2 = -1)) := by
  unfold f_X3_takeWord
  refine Ep_lt (fun y1 ey1 => ?_)
  refine Ep_ite (fun _ => ?_) (fun _ => ?_)
  · exact ivJ_X3_takeWord_J23 x1 y1 K R hR
  · refine Ep_ite (fun _ => ?_) (fun _ => ?_)
    · exact ivJ_X3_takeWord_J23 x1 y1 K R hR
    · exact ivJ_X3_takeWord_J24 x1 y1 1 K R hR
set_option maxHeartbeats 1000000 in
set_option maxRecDepth 100000 in
theorem ivJ_X3_takeNumber_J49 (x3 : Int32) (s0 : Int32) (K : Tr) (R : Tr) (hR : (R 0 1 = 0 → R 0 2 = -1))   : Ep (fJ_X3_takeNumber_J49 x3 s0 K R) (fun q => (q.2.2 0 1 = 0 → q.2.2 0 2 = -1)) := by
  unfold fJ_X3_takeNumber_J49
  refine Ep_bd (iv_expect K R s0 (2 : Int32) hR (by decide)) (fun q hq => ?_)
  refine Ep_lt (fun r9 er9 => ?_)
  refine Ep_lt (fun R_10 eR_10 => ?_)
  have hR_10 : (R_10 0 1 = 0 → R_10 0 2 = -1) := by rw [eR_10]; exact hq
  refine Ep_ite (fun _ => ?_) (fun _ => ?_)
  · exact Ep_some hR_10
  · refine Ep_any (fun K_14 => ?_)
    exact Ep_some hR_10
set_option maxHeartbeats 1000000 in
set_option maxRecDepth 100000 in
theorem ivJ_X3_takeNumber_J48 (x3 : Int32) (K : Tr) (R : Tr) (hR : (R 0 1 = 0 → R 0 2 = -1))   : Ep (fJ_X3_takeNumber_J48 x3 K R) (fun q => (q.2.2 0 1 = 0 → q.2.2 0 2 = -1)) := by
  unfold fJ_X3_takeNumber_J48
  exact ivJ_X3_takeNumber_J49 x3 0 K R hR
set_option maxHeartbeats 1000000 in
set_option maxRecDepth 100000 in
theorem ivJ_X3_takeNumber_J26 (x1 : Int32) (x2 : Int32) (x3 : Int32) (s0 : Int32) (K : Tr) (R : Tr) (hR : (R 0 1 = 0 → R 0 2 = -1))   : Ep (fJ_X3_takeNumber_J26 x1 x2 x3 s0 K R) (fun q => (q.2.2 0 1 = 0 → q.2.2 0 2 = -1)) := by
  unfold fJ_X3_takeNumber_J26
  refine Ep_bd (iv_expect K R s0 (1 : Int32) hR (by decide)) (fun q hq => ?_)
  refine Ep_lt (fun r3 er3 => ?_)
  refine Ep_lt (fun R_4 eR_4 => ?_)
  have hR_4 : (R_4 0 1 = 0 → R_4 0 2 = -1) := by rw [eR_4]; exact hq
  refine Ep_ite (fun _ => ?_) (fun _ => ?_)
  · exact Ep_some hR_4
  · refine Ep_ite (fun _ => ?_) (fun _ => ?_)
    · exact ivJ_X3_takeNumber_J48 x3 K R_4 hR_4
    · refine Ep_ite (fun _ => ?_) (fun _ => ?_)
      · exact ivJ_X3_takeNumber_J48 x3 K R_4 hR_4
      · exact ivJ_X3_takeNumber_J49 x3 1 K R_4 hR_4
set_option maxHeartbeats 1000000 in
set_option maxRecDepth 100000 in
theorem iv_X3_takeNumber (K : Tr) (R : Tr) (x1 : Int32) (x2 : Int32) (hR : (R 0 1 = 0 → R 0 2 = -1))   : Ep (f_X3_takeNumber K R x1 x2) (fun q => (q.2.2 0 1 = 0 → q.2.2 0 2 = -1)) := by
  unfold f_X3_takeNumber
  refine Ep_lt (fun y1 ey1 => ?_)
  refine Ep_ite (fun _ => ?_) (fun _ => ?_)
  · exact ivJ_X3_takeNumber_J26 x1 x2 y1 1 K R hR
  · exact ivJ_X3_takeNumber_J26 x1 x2 y1 0 K R hR
set_option maxHeartbeats 1000000 in
set_option maxRecDepth 100000 in
theorem ivJ_X3_readPlace_J60 (x1 : Int32) (x2 : Int32) (s0 : Int32) (K : Tr) (R : Tr) (P : Tr) (hR : (R 0 1 = 0 → R 0 2 = -1))   : Ep (fJ_X3_readPlace_J60 x1 x2 s0 K R P) (fun q => (q.2.2.1 0 1 = 0 → q.2.2.1 0 2 = -1)) := by
  unfold fJ_X3_readPlace_J60
  refine Ep_ite (fun _ => ?_) (fun _ => ?_)
  · refine Ep_ck ?_
    refine Ep_lt (fun P_24 eP_24 => ?_)
    refine Ep_lt (fun P_25 eP_25 => ?_)
    refine Ep_lt (fun P_26 eP_26 => ?_)
    exact Ep_some hR
  · exact Ep_some hR
set_option maxHeartbeats 1000000 in
set_option maxRecDepth 100000 in
theorem ivJ_X3_readPlace_J19 (x1 : Int32) (s0 : Int32) (K : Tr) (R : Tr) (P : Tr) (hR : (R 0 1 = 0 → R 0 2 = -1))   : Ep (fJ_X3_readPlace_J19 x1 s0 K R P) (fun q => (q.2.2.1 0 1 = 0 → q.2.2.1 0 2 = -1)) := by
  unfold fJ_X3_readPlace_J19
  refine Ep_bd (iv_expect K R s0 (2 : Int32) hR (by decide)) (fun q hq => ?_)
  refine Ep_lt (fun r3 er3 => ?_)
  refine Ep_lt (fun R_4 eR_4 => ?_)
  have hR_4 : (R_4 0 1 = 0 → R_4 0 2 = -1) := by rw [eR_4]; exact hq
  refine Ep_ite (fun _ => ?_) (fun _ => ?_)
  · exact Ep_some hR_4
  · refine Ep_any (fun K_8 => ?_)
    refine Ep_bd (iv_X3_takeWord K_8 R_4 (8 : Int32) (12 : Int32) hR_4) (fun q hq => ?_)
    refine Ep_lt (fun r11 er11 => ?_)
    refine Ep_lt (fun K_12 eK_12 => ?_)
    refine Ep_lt (fun R_13 eR_13 => ?_)
    have hR_13 : (R_13 0 1 = 0 → R_13 0 2 = -1) := by rw [eR_13]; exact hq
    refine Ep_ite (fun _ => ?_) (fun _ => ?_)
    · refine Ep_bd (iv_X3_takeNumber K_12 R_13 (0 : Int32) (999 : Int32) hR_13) (fun q hq => ?_)
      refine Ep_lt (fun r17 er17 => ?_)
      refine Ep_lt (fun K_18 eK_18 => ?_)
      refine Ep_lt (fun R_19 eR_19 => ?_)
      have hR_19 : (R_19 0 1 = 0 → R_19 0 2 = -1) := by rw [eR_19]; exact hq
      exact ivJ_X3_readPlace_J60 x1 r11 r17 K_18 R_19 P hR_19
    · exact ivJ_X3_readPlace_J60 x1 r11 (-1) K_12 R_13 P hR_13
set_option maxHeartbeats 1000000 in
set_option maxRecDepth 100000 in
theorem iv_X3_readPlace (K : Tr) (R : Tr) (P : Tr) (hR : (R 0 1 = 0 → R 0 2 = -1))   : Ep (f_X3_readPlace K R P) (fun q => (q.2.2.1 0 1 = 0 → q.2.2.1 0 2 = -1)) := by
  unfold f_X3_readPlace
  refine Ep_lt (fun y1 ey1 => ?_)
  refine Ep_ite (fun _ => ?_) (fun _ => ?_)
  · exact ivJ_X3_readPlace_J19 y1 0 K R P hR
  · exact ivJ_X3_readPlace_J19 y1 1 K R P hR
set_option maxHeartbeats 1000000 in
set_option maxRecDepth 100000 in
theorem ivJ_X3_readPerson_J145 (x1 : Int32) (x2 : Int32) (x3 : Int32) (x4 : Int32) (s0 : Int32) (K : Tr) (R : Tr) (P : Tr) (hR : (R 0 1 = 0 → R 0 2 = -1))   : Ep (fJ_X3_readPerson_J145 x1 x2 x3 x4 s0 K R P) (fun q => (q.2.2.1 0 1 = 0 → q.2.2.1 0 2 = -1)) := by
  unfold fJ_X3_readPerson_J145
  refine Ep_ite (fun _ => ?_) (fun _ => ?_)
  · refine Ep_ck ?_
    refine Ep_lt (fun P_49 eP_49 => ?_)
    refine Ep_lt (fun P_50 eP_50 => ?_)
    refine Ep_lt (fun P_51 eP_51 => ?_)
    refine Ep_lt (fun P_52 eP_52 => ?_)
    refine Ep_lt (fun P_53 eP_53 => ?_)
    exact Ep_some hR
  · exact Ep_some hR
set_option maxHeartbeats 1000000 in
set_option maxRecDepth 100000 in
theorem ivJ_X3_readPerson_J127 (x1 : Int32) (x2 : Int32) (x3 : Int32) (s0 : Int32) (K : Tr) (R : Tr) (P : Tr) (hR : (R 0 1 = 0 → R 0 2 = -1))   : Ep (fJ_X3_readPerson_J127 x1 x2 x3 s0 K R P) (fun q => (q.2.2.1 0 1 = 0 → q.2.2.1 0 2 = -1)) := by
  unfold fJ_X3_readPerson_J127
  refine Ep_ite (fun _ => ?_) (fun _ => ?_)
  · refine Ep_bd (iv_X3_takeNumber K R (1 : Int32) (99 : Int32) hR) (fun q hq => ?_)
    refine Ep_lt (fun r42 er42 => ?_)
    refine Ep_lt (fun K_43 eK_43 => ?_)
    refine Ep_lt (fun R_44 eR_44 => ?_)
    have hR_44 : (R_44 0 1 = 0 → R_44 0 2 = -1) := by rw [eR_44]; exact hq
    exact ivJ_X3_readPerson_J145 x1 x2 x3 s0 r42 K_43 R_44 P hR_44
  · exact ivJ_X3_readPerson_J145 x1 x2 x3 s0 (-1) K R P hR
set_option maxHeartbeats 1000000 in
set_option maxRecDepth 100000 in
theorem ivJ_X3_readPerson_J86 (x1 : Int32) (x2 : Int32) (s0 : Int32) (K : Tr) (R : Tr) (P : Tr) (hR : (R 0 1 = 0 → R 0 2 = -1))   : Ep (fJ_X3_readPerson_J86 x1 x2 s0 K R P) (fun q => (q.2.2.1 0 1 = 0 → q.2.2.1 0 2 = -1)) := by
  unfold fJ_X3_readPerson_J86
  refine Ep_bd (iv_expect K R s0 (3 : Int32) hR (by decide)) (fun q hq => ?_)
  refine Ep_lt (fun r22 er22 => ?_)
  refine Ep_lt (fun R_23 eR_23 => ?_)
  have hR_23 : (R_23 0 1 = 0 → R_23 0 2 = -1) := by rw [eR_23]; exact hq
  refine Ep_ite (fun _ => ?_) (fun _ => ?_)
  · exact Ep_some hR_23
  · refine Ep_any (fun K_27 => ?_)
    refine Ep_bd (iv_X3_takeNumber K_27 R_23 (0 : Int32) (19 : Int32) hR_23) (fun q hq => ?_)
    refine Ep_lt (fun r30 er30 => ?_)
    refine Ep_lt (fun K_31 eK_31 => ?_)
    refine Ep_lt (fun R_32 eR_32 => ?_)
    have hR_32 : (R_32 0 1 = 0 → R_32 0 2 = -1) := by rw [eR_32]; exact hq
    refine Ep_ite (fun _ => ?_) (fun _ => ?_)
    · refine Ep_bd (iv_X3_takeNumber K_31 R_32 (r30 + 1) (20 : Int32) hR_32) (fun q hq => ?_)
      refine Ep_lt (fun r36 er36 => ?_)
      refine Ep_lt (fun K_37 eK_37 => ?_)
      refine Ep_lt (fun R_38 eR_38 => ?_)
      have hR_38 : (R_38 0 1 = 0 → R_38 0 2 = -1) := by rw [eR_38]; exact hq
      exact ivJ_X3_readPerson_J127 x1 x2 r30 r36 K_37 R_38 P hR_38
    · exact ivJ_X3_readPerson_J127 x1 x2 r30 (-1) K_31 R_32 P hR_32
set_option maxHeartbeats 1000000 in
set_option maxRecDepth 100000 in
theorem ivJ_X3_readPerson_J62 (x1 : Int32) (x2 : Int32) (s0 : Int32) (K : Tr) (R : Tr) (P : Tr) (hR : (R 0 1 = 0 → R 0 2 = -1))   : Ep (fJ_X3_readPerson_J62 x1 x2 s0 K R P) (fun q => (q.2.2.1 0 1 = 0 → q.2.2.1 0 2 = -1)) := by
  unfold fJ_X3_readPerson_J62
  refine Ep_bd (iv_expect K R s0 (1 : Int32) hR (by decide)) (fun q hq => ?_)
  refine Ep_lt (fun r13 er13 => ?_)
  refine Ep_lt (fun R_14 eR_14 => ?_)
  have hR_14 : (R_14 0 1 = 0 → R_14 0 2 = -1) := by rw [eR_14]; exact hq
  refine Ep_ite (fun _ => ?_) (fun _ => ?_)
  · exact Ep_some hR_14
  · refine Ep_any (fun r18 => ?_)
    refine Ep_ite (fun _ => ?_) (fun _ => ?_)
    · exact ivJ_X3_readPerson_J86 x1 x2 0 K R_14 P hR_14
    · exact ivJ_X3_readPerson_J86 x1 x2 1 K R_14 P hR_14
set_option maxHeartbeats 1000000 in
set_option maxRecDepth 100000 in
theorem ivJ_X3_readPerson_J20 (x1 : Int32) (s0 : Int32) (K : Tr) (R : Tr) (P : Tr) (hR : (R 0 1 = 0 → R 0 2 = -1))   : Ep (fJ_X3_readPerson_J20 x1 s0 K R P) (fun q => (q.2.2.1 0 1 = 0 → q.2.2.1 0 2 = -1)) := by
  unfold fJ_X3_readPerson_J20
  refine Ep_bd (iv_expect K R s0 (2 : Int32) hR (by decide)) (fun q hq => ?_)
  refine Ep_lt (fun r3 er3 => ?_)
  refine Ep_lt (fun R_4 eR_4 => ?_)
  have hR_4 : (R_4 0 1 = 0 → R_4 0 2 = -1) := by rw [eR_4]; exact hq
  refine Ep_ite (fun _ => ?_) (fun _ => ?_)
  · exact Ep_some hR_4
  · refine Ep_any (fun K_8 => ?_)
    refine Ep_lt (fun y11 ey11 => ?_)
    refine Ep_ite (fun _ => ?_) (fun _ => ?_)
    · exact ivJ_X3_readPerson_J62 x1 y11 1 K_8 R_4 P hR_4
    · exact ivJ_X3_readPerson_J62 x1 y11 0 K_8 R_4 P hR_4
set_option maxHeartbeats 1000000 in
set_option maxRecDepth 100000 in
theorem iv_X3_readPerson (K : Tr) (R : Tr) (P : Tr) (hR : (R 0 1 = 0 → R 0 2 = -1))   : Ep (f_X3_readPerson K R P) (fun q => (q.2.2.1 0 1 = 0 → q.2.2.1 0 2 = -1)) := by
  unfold f_X3_readPerson
  refine Ep_lt (fun y1 ey1 => ?_)
  refine Ep_ite (fun _ => ?_) (fun _ => ?_)
  · exact ivJ_X3_readPerson_J20 y1 0 K R P hR
  · exact ivJ_X3_readPerson_J20 y1 1 K R P hR
set_option maxHeartbeats 1000000 in
set_option maxRecDepth 100000 in
theorem ivJ_X3_readPiece_J192 (x1 : Int32) (x2 : Int32) (x3 : Int32) (x4 : Int32) (x5 : Int32) (K : Tr) (R : Tr) (P : Tr) (hR : (R 0 1 = 0 → R 0 2 = -1))   : Ep (fJ_X3_readPiece_J192 x1 x2 x3 x4 x5 K R P) (fun q => (q.2.2.1 0 1 = 0 → q.2.2.1 0 2 = -1)) := by
  unfold fJ_X3_readPiece_J192
  refine Ep_ck ?_
  refine Ep_lt (fun P_43 eP_43 => ?_)
  refine Ep_lt (fun P_44 eP_44 => ?_)
  refine Ep_lt (fun P_45 eP_45 => ?_)
  refine Ep_lt (fun P_46 eP_46 => ?_)
  refine Ep_lt (fun P_47 eP_47 => ?_)
  exact Ep_some hR
set_option maxHeartbeats 1000000 in
set_option maxRecDepth 100000 in
theorem ivJ_X3_readPiece_J176 (x1 : Int32) (x2 : Int32) (x3 : Int32) (x4 : Int32) (x5 : Int32) (s0 : Int32) (K : Tr) (R : Tr) (P : Tr) (hR : (R 0 1 = 0 → R 0 2 = -1))   : Ep (fJ_X3_readPiece_J176 x1 x2 x3 x4 x5 s0 K R P) (fun q => (q.2.2.1 0 1 = 0 → q.2.2.1 0 2 = -1)) := by
  unfold fJ_X3_readPiece_J176
  refine Ep_bd (iv_expect K R s0 (4 : Int32) hR (by decide)) (fun q hq => ?_)
  refine Ep_lt (fun r50 er50 => ?_)
  refine Ep_lt (fun R_51 eR_51 => ?_)
  have hR_51 : (R_51 0 1 = 0 → R_51 0 2 = -1) := by rw [eR_51]; exact hq
  refine Ep_ite (fun _ => ?_) (fun _ => ?_)
  · exact Ep_some hR_51
  · refine Ep_any (fun K_55 => ?_)
    exact ivJ_X3_readPiece_J192 x1 x2 x3 x4 x5 K_55 R_51 P hR_51
set_option maxHeartbeats 1000000 in
set_option maxRecDepth 100000 in
theorem ivJ_X3_readPiece_J125 (x1 : Int32) (x2 : Int32) (x3 : Int32) (s0 : Int32) (K : Tr) (R : Tr) (P : Tr) (hR : (R 0 1 = 0 → R 0 2 = -1))   : Ep (fJ_X3_readPiece_J125 x1 x2 x3 s0 K R P) (fun q => (q.2.2.1 0 1 = 0 → q.2.2.1 0 2 = -1)) := by
  unfold fJ_X3_readPiece_J125
  refine Ep_ite (fun _ => ?_) (fun _ => ?_)
  · refine Ep_ite (fun _ => ?_) (fun _ => ?_)
    · refine Ep_lt (fun y48 ey48 => ?_)
      refine Ep_ite (fun _ => ?_) (fun _ => ?_)
      · exact ivJ_X3_readPiece_J176 x1 x2 x3 s0 y48 0 K R P hR
      · exact ivJ_X3_readPiece_J176 x1 x2 x3 s0 y48 1 K R P hR
    · exact ivJ_X3_readPiece_J192 x1 x2 x3 s0 (-1) K R P hR
  · exact Ep_some hR
set_option maxHeartbeats 1000000 in
set_option maxRecDepth 100000 in
theorem ivJ_X3_readPiece_J86 (x1 : Int32) (x2 : Int32) (s0 : Int32) (K : Tr) (R : Tr) (P : Tr) (hR : (R 0 1 = 0 → R 0 2 = -1))   : Ep (fJ_X3_readPiece_J86 x1 x2 s0 K R P) (fun q => (q.2.2.1 0 1 = 0 → q.2.2.1 0 2 = -1)) := by
  unfold fJ_X3_readPiece_J86
  refine Ep_bd (iv_expect K R s0 (4 : Int32) hR (by decide)) (fun q hq => ?_)
  refine Ep_lt (fun r21 er21 => ?_)
  refine Ep_lt (fun R_22 eR_22 => ?_)
  have hR_22 : (R_22 0 1 = 0 → R_22 0 2 = -1) := by rw [eR_22]; exact hq
  refine Ep_ite (fun _ => ?_) (fun _ => ?_)
  · exact Ep_some hR_22
  · refine Ep_any (fun K_26 => ?_)
    refine Ep_bd (iv_X3_takeNumber K_26 R_22 (1 : Int32) (99 : Int32) hR_22) (fun q hq => ?_)
    refine Ep_lt (fun r29 er29 => ?_)
    refine Ep_lt (fun K_30 eK_30 => ?_)
    refine Ep_lt (fun R_31 eR_31 => ?_)
    have hR_31 : (R_31 0 1 = 0 → R_31 0 2 = -1) := by rw [eR_31]; exact hq
    refine Ep_ite (fun _ => ?_) (fun _ => ?_)
    · refine Ep_bd (iv_X3_takeNumber K_30 R_31 (0 : Int32) (9 : Int32) hR_31) (fun q hq => ?_)
      refine Ep_lt (fun r35 er35 => ?_)
      refine Ep_lt (fun K_36 eK_36 => ?_)
      refine Ep_lt (fun R_37 eR_37 => ?_)
      have hR_37 : (R_37 0 1 = 0 → R_37 0 2 = -1) := by rw [eR_37]; exact hq
      exact ivJ_X3_readPiece_J125 x1 x2 r29 r35 K_36 R_37 P hR_37
    · exact ivJ_X3_readPiece_J125 x1 x2 r29 (-1) K_30 R_31 P hR_31
set_option maxHeartbeats 1000000 in
set_option maxRecDepth 100000 in
theorem ivJ_X3_readPiece_J69 (x1 : Int32) (x2 : Int32) (s0 : Int32) (K : Tr) (R : Tr) (P : Tr) (hR : (R 0 1 = 0 → R 0 2 = -1))   : Ep (fJ_X3_readPiece_J69 x1 x2 s0 K R P) (fun q => (q.2.2.1 0 1 = 0 → q.2.2.1 0 2 = -1)) := by
  unfold fJ_X3_readPiece_J69
  refine Ep_bd (iv_expect K R s0 (1 : Int32) hR (by decide)) (fun q hq => ?_)
  refine Ep_lt (fun r15 er15 => ?_)
  refine Ep_lt (fun R_16 eR_16 => ?_)
  have hR_16 : (R_16 0 1 = 0 → R_16 0 2 = -1) := by rw [eR_16]; exact hq
  refine Ep_ite (fun _ => ?_) (fun _ => ?_)
  · exact Ep_some hR_16
  · refine Ep_ite (fun _ => ?_) (fun _ => ?_)
    · exact ivJ_X3_readPiece_J86 x1 x2 0 K R_16 P hR_16
    · exact ivJ_X3_readPiece_J86 x1 x2 1 K R_16 P hR_16
set_option maxHeartbeats 1000000 in
set_option maxRecDepth 100000 in
theorem ivJ_X3_readPiece_J20 (x1 : Int32) (s0 : Int32) (K : Tr) (R : Tr) (P : Tr) (hR : (R 0 1 = 0 → R 0 2 = -1))   : Ep (fJ_X3_readPiece_J20 x1 s0 K R P) (fun q => (q.2.2.1 0 1 = 0 → q.2.2.1 0 2 = -1)) := by
  unfold fJ_X3_readPiece_J20
  refine Ep_bd (iv_expect K R s0 (2 : Int32) hR (by decide)) (fun q hq => ?_)
  refine Ep_lt (fun r3 er3 => ?_)
  refine Ep_lt (fun R_4 eR_4 => ?_)
  have hR_4 : (R_4 0 1 = 0 → R_4 0 2 = -1) := by rw [eR_4]; exact hq
  refine Ep_ite (fun _ => ?_) (fun _ => ?_)
  · exact Ep_some hR_4
  · refine Ep_any (fun K_8 => ?_)
    refine Ep_any (fun r11 => ?_)
    refine Ep_ite (fun _ => ?_) (fun _ => ?_)
    · exact ivJ_X3_readPiece_J69 x1 r11 1 K_8 R_4 P hR_4
    · exact ivJ_X3_readPiece_J69 x1 r11 0 K_8 R_4 P hR_4
set_option maxHeartbeats 1000000 in
set_option maxRecDepth 100000 in
theorem iv_X3_readPiece (K : Tr) (R : Tr) (P : Tr) (hR : (R 0 1 = 0 → R 0 2 = -1))   : Ep (f_X3_readPiece K R P) (fun q => (q.2.2.1 0 1 = 0 → q.2.2.1 0 2 = -1)) := by
  unfold f_X3_readPiece
  refine Ep_lt (fun y1 ey1 => ?_)
  refine Ep_ite (fun _ => ?_) (fun _ => ?_)
  · exact ivJ_X3_readPiece_J20 y1 0 K R P hR
  · exact ivJ_X3_readPiece_J20 y1 1 K R P hR
set_option maxHeartbeats 1000000 in
set_option maxRecDepth 100000 in
theorem ivJ_X3_readWait_J103 (x1 : Int32) (s0 : Int32) (K : Tr) (R : Tr) (P : Tr) (hR : (R 0 1 = 0 → R 0 2 = -1))   : Ep (fJ_X3_readWait_J103 x1 s0 K R P) (fun q => (q.2.2.1 0 1 = 0 → q.2.2.1 0 2 = -1)) := by
  unfold fJ_X3_readWait_J103
  refine Ep_bd (iv_expect K R s0 (3 : Int32) hR (by decide)) (fun q hq => ?_)
  refine Ep_lt (fun r27 er27 => ?_)
  refine Ep_lt (fun R_28 eR_28 => ?_)
  have hR_28 : (R_28 0 1 = 0 → R_28 0 2 = -1) := by rw [eR_28]; exact hq
  refine Ep_ite (fun _ => ?_) (fun _ => ?_)
  · exact Ep_some hR_28
  · refine Ep_any (fun K_32 => ?_)
    refine Ep_bd (iv_X3_takeNumber K_32 R_28 (0 : Int32) (999 : Int32) hR_28) (fun q hq => ?_)
    refine Ep_lt (fun r35 er35 => ?_)
    refine Ep_lt (fun K_36 eK_36 => ?_)
    refine Ep_lt (fun R_37 eR_37 => ?_)
    have hR_37 : (R_37 0 1 = 0 → R_37 0 2 = -1) := by rw [eR_37]; exact hq
    refine Ep_ite (fun _ => ?_) (fun _ => ?_)
    · refine Ep_lt (fun R_41 eR_41 => ?_)
      have hR_41 : (R_41 0 1 = 0 → R_41 0 2 = -1) := by rw [eR_41]; exact iv_st hR_37 (by omega)
      refine Ep_ck ?_
      refine Ep_lt (fun P_43 eP_43 => ?_)
      exact Ep_some hR_41
    · exact Ep_some hR_37
set_option maxHeartbeats 1000000 in
set_option maxRecDepth 100000 in
theorem ivJ_X3_readWait_J79 (x1 : Int32) (s0 : Int32) (K : Tr) (R : Tr) (P : Tr) (hR : (R 0 1 = 0 → R 0 2 = -1))   : Ep (fJ_X3_readWait_J79 x1 s0 K R P) (fun q => (q.2.2.1 0 1 = 0 → q.2.2.1 0 2 = -1)) := by
  unfold fJ_X3_readWait_J79
  refine Ep_bd (iv_expect K R s0 (2 : Int32) hR (by decide)) (fun q hq => ?_)
  refine Ep_lt (fun r21 er21 => ?_)
  refine Ep_lt (fun R_22 eR_22 => ?_)
  have hR_22 : (R_22 0 1 = 0 → R_22 0 2 = -1) := by rw [eR_22]; exact hq
  refine Ep_ite (fun _ => ?_) (fun _ => ?_)
  · exact Ep_some hR_22
  · refine Ep_ite (fun _ => ?_) (fun _ => ?_)
    · exact ivJ_X3_readWait_J103 x1 1 K R_22 P hR_22
    · exact ivJ_X3_readWait_J103 x1 0 K R_22 P hR_22
set_option maxHeartbeats 1000000 in
set_option maxRecDepth 100000 in
theorem ivJ_X3_readWait_J60 (x1 : Int32) (s0 : Int32) (K : Tr) (R : Tr) (P : Tr) (hR : (R 0 1 = 0 → R 0 2 = -1))   : Ep (fJ_X3_readWait_J60 x1 s0 K R P) (fun q => (q.2.2.1 0 1 = 0 → q.2.2.1 0 2 = -1)) := by
  unfold fJ_X3_readWait_J60
  refine Ep_bd (iv_expect K R s0 (1 : Int32) hR (by decide)) (fun q hq => ?_)
  refine Ep_lt (fun r15 er15 => ?_)
  refine Ep_lt (fun R_16 eR_16 => ?_)
  have hR_16 : (R_16 0 1 = 0 → R_16 0 2 = -1) := by rw [eR_16]; exact hq
  refine Ep_ite (fun _ => ?_) (fun _ => ?_)
  · exact Ep_some hR_16
  · refine Ep_ite (fun _ => ?_) (fun _ => ?_)
    · exact ivJ_X3_readWait_J79 x1 0 K R_16 P hR_16
    · exact ivJ_X3_readWait_J79 x1 1 K R_16 P hR_16
set_option maxHeartbeats 1000000 in
set_option maxRecDepth 100000 in
theorem ivJ_X3_readWait_J18 (s0 : Int32) (K : Tr) (R : Tr) (P : Tr) (hR : (R 0 1 = 0 → R 0 2 = -1))   : Ep (fJ_X3_readWait_J18 s0 K R P) (fun q => (q.2.2.1 0 1 = 0 → q.2.2.1 0 2 = -1)) := by
  unfold fJ_X3_readWait_J18
  refine Ep_bd (iv_expect K R s0 (2 : Int32) hR (by decide)) (fun q hq => ?_)
  refine Ep_lt (fun r5 er5 => ?_)
  refine Ep_lt (fun R_6 eR_6 => ?_)
  have hR_6 : (R_6 0 1 = 0 → R_6 0 2 = -1) := by rw [eR_6]; exact hq
  refine Ep_ite (fun _ => ?_) (fun _ => ?_)
  · exact Ep_some hR_6
  · refine Ep_any (fun K_10 => ?_)
    refine Ep_lt (fun y13 ey13 => ?_)
    refine Ep_ite (fun _ => ?_) (fun _ => ?_)
    · exact ivJ_X3_readWait_J60 y13 1 K_10 R_6 P hR_6
    · exact ivJ_X3_readWait_J60 y13 0 K_10 R_6 P hR_6
set_option maxHeartbeats 1000000 in
set_option maxRecDepth 100000 in
theorem iv_X3_readWait (K : Tr) (R : Tr) (P : Tr) (hR : (R 0 1 = 0 → R 0 2 = -1))   : Ep (f_X3_readWait K R P) (fun q => (q.2.2.1 0 1 = 0 → q.2.2.1 0 2 = -1)) := by
  unfold f_X3_readWait
  refine Ep_any (fun r1 => ?_)
  refine Ep_ite (fun _ => ?_) (fun _ => ?_)
  · exact ivJ_X3_readWait_J18 0 K R P hR
  · exact ivJ_X3_readWait_J18 1 K R P hR
set_option maxHeartbeats 1000000 in
set_option maxRecDepth 100000 in
theorem ivJ_X3_startOnce_J27 (x1 : Int32) (s0 : Int32) (K : Tr) (R : Tr) (hR : (R 0 1 = 0 → R 0 2 = -1))   : Ep (fJ_X3_startOnce_J27 x1 s0 K R) (fun q => (q.2.2 0 1 = 0 → q.2.2 0 2 = -1)) := by
  unfold fJ_X3_startOnce_J27
  refine Ep_bd (iv_expect K R s0 (3 : Int32) hR (by decide)) (fun q hq => ?_)
  refine Ep_lt (fun r3 er3 => ?_)
  refine Ep_lt (fun R_4 eR_4 => ?_)
  have hR_4 : (R_4 0 1 = 0 → R_4 0 2 = -1) := by rw [eR_4]; exact hq
  refine Ep_ite (fun _ => ?_) (fun _ => ?_)
  · exact Ep_some hR_4
  · refine Ep_lt (fun R_8 eR_8 => ?_)
    have hR_8 : (R_8 0 1 = 0 → R_8 0 2 = -1) := by rw [eR_8]; exact iv_st hR_4 (by omega)
    refine Ep_any (fun K_9 => ?_)
    exact Ep_some hR_8
set_option maxHeartbeats 1000000 in
set_option maxRecDepth 100000 in
theorem iv_X3_startOnce (K : Tr) (R : Tr) (hR : (R 0 1 = 0 → R 0 2 = -1))   : Ep (f_X3_startOnce K R) (fun q => (q.2.2 0 1 = 0 → q.2.2 0 2 = -1)) := by
  unfold f_X3_startOnce
  refine Ep_lt (fun y1 ey1 => ?_)
  refine Ep_ite (fun _ => ?_) (fun _ => ?_)
  · exact ivJ_X3_startOnce_J27 y1 1 K R hR
  · exact ivJ_X3_startOnce_J27 y1 0 K R hR
set_option maxHeartbeats 1000000 in
set_option maxRecDepth 100000 in
theorem iv_X3_readRule (K : Tr) (R : Tr) (P : Tr) (hR : (R 0 1 = 0 → R 0 2 = -1))   : Ep (f_X3_readRule K R P) (fun q => (q.2.2.1 0 1 = 0 → q.2.2.1 0 2 = -1)) := by
  unfold f_X3_readRule
  refine Ep_bd (iv_X3_startOnce K R hR) (fun q hq => ?_)
  refine Ep_lt (fun r1 er1 => ?_)
  refine Ep_lt (fun K_2 eK_2 => ?_)
  refine Ep_lt (fun R_3 eR_3 => ?_)
  have hR_3 : (R_3 0 1 = 0 → R_3 0 2 = -1) := by rw [eR_3]; exact hq
  refine Ep_ite (fun _ => ?_) (fun _ => ?_)
  · exact Ep_some hR_3
  · refine Ep_bd (iv_X3_takeWord K_2 R_3 (13 : Int32) (15 : Int32) hR_3) (fun q hq => ?_)
    refine Ep_lt (fun r7 er7 => ?_)
    refine Ep_lt (fun K_8 eK_8 => ?_)
    refine Ep_lt (fun R_9 eR_9 => ?_)
    have hR_9 : (R_9 0 1 = 0 → R_9 0 2 = -1) := by rw [eR_9]; exact hq
    refine Ep_lt (fun P_12 eP_12 => ?_)
    refine Ep_ite (fun _ => ?_) (fun _ => ?_)
    · exact Ep_some hR_9
    · exact Ep_some hR_9
set_option maxHeartbeats 1000000 in
set_option maxRecDepth 100000 in
theorem iv_X3_readCurve (K : Tr) (R : Tr) (P : Tr) (hR : (R 0 1 = 0 → R 0 2 = -1))   : Ep (f_X3_readCurve K R P) (fun q => (q.2.2.1 0 1 = 0 → q.2.2.1 0 2 = -1)) := by
  unfold f_X3_readCurve
  refine Ep_bd (iv_X3_startOnce K R hR) (fun q hq => ?_)
  refine Ep_lt (fun r1 er1 => ?_)
  refine Ep_lt (fun K_2 eK_2 => ?_)
  refine Ep_lt (fun R_3 eR_3 => ?_)
  have hR_3 : (R_3 0 1 = 0 → R_3 0 2 = -1) := by rw [eR_3]; exact hq
  refine Ep_ite (fun _ => ?_) (fun _ => ?_)
  · exact Ep_some hR_3
  · refine Ep_bd (iv_X3_takeNumber K_2 R_3 (0 : Int32) (99 : Int32) hR_3) (fun q hq => ?_)
    refine Ep_lt (fun r7 er7 => ?_)
    refine Ep_lt (fun K_8 eK_8 => ?_)
    refine Ep_lt (fun R_9 eR_9 => ?_)
    have hR_9 : (R_9 0 1 = 0 → R_9 0 2 = -1) := by rw [eR_9]; exact hq
    refine Ep_lt (fun P_12 eP_12 => ?_)
    refine Ep_ite (fun _ => ?_) (fun _ => ?_)
    · exact Ep_some hR_9
    · exact Ep_some hR_9
set_option maxHeartbeats 1000000 in
set_option maxRecDepth 100000 in
theorem iv_X3_readSeed (K : Tr) (R : Tr) (P : Tr) (hR : (R 0 1 = 0 → R 0 2 = -1))   : Ep (f_X3_readSeed K R P) (fun q => (q.2.2.1 0 1 = 0 → q.2.2.1 0 2 = -1)) := by
  unfold f_X3_readSeed
  refine Ep_bd (iv_X3_startOnce K R hR) (fun q hq => ?_)
  refine Ep_lt (fun r1 er1 => ?_)
  refine Ep_lt (fun K_2 eK_2 => ?_)
  refine Ep_lt (fun R_3 eR_3 => ?_)
  have hR_3 : (R_3 0 1 = 0 → R_3 0 2 = -1) := by rw [eR_3]; exact hq
  refine Ep_ite (fun _ => ?_) (fun _ => ?_)
  · exact Ep_some hR_3
  · refine Ep_bd (iv_X3_takeNumber K_2 R_3 (0 : Int32) (99999 : Int32) hR_3) (fun q hq => ?_)
    refine Ep_lt (fun r7 er7 => ?_)
    refine Ep_lt (fun K_8 eK_8 => ?_)
    refine Ep_lt (fun R_9 eR_9 => ?_)
    have hR_9 : (R_9 0 1 = 0 → R_9 0 2 = -1) := by rw [eR_9]; exact hq
    refine Ep_lt (fun P_12 eP_12 => ?_)
    refine Ep_ite (fun _ => ?_) (fun _ => ?_)
    · exact Ep_some hR_9
    · exact Ep_some hR_9
set_option maxHeartbeats 1000000 in
set_option maxRecDepth 100000 in
theorem ivB_X3_closeSigns_L0 (j : Nat) (x2 : Int32)    (N : Nat) : ∀ (R : Tr) (P : Tr), (R 0 1 = 0 → R 0 2 = -1) → Ep (lpF (fun _ _ => none) (fB_X3_closeSigns_L0 j x2) N R P) (fun q => (q.1 0 1 = 0 → q.1 0 2 = -1)) := by
  induction N with
  | zero => intro R P _; exact Ep_none
  | succ N ih =>
    intro R P hR
    show Ep (fB_X3_closeSigns_L0 j x2 (lpF (fun _ _ => none) (fB_X3_closeSigns_L0 j x2) N) R P) _
    have hk0 := ih
    clear ih
    generalize lpF (fun _ _ => none) (fB_X3_closeSigns_L0 j x2) N = k0 at hk0 ⊢
    unfold fB_X3_closeSigns_L0
    refine Ep_ite (fun _ => ?_) (fun _ => ?_)
    · exact Ep_some hR
    · refine Ep_any (fun r2 => ?_)
      refine Ep_ite (fun _ => ?_) (fun _ => ?_)
      · exact Ep_some hR
      · refine Ep_lt (fun R_6 eR_6 => ?_)
        have hR_6 : (R_6 0 1 = 0 → R_6 0 2 = -1) := by rw [eR_6]; exact iv_st hR (by omega)
        refine Ep_ck ?_
        refine Ep_any (fun P_8 => ?_)
        exact hk0 R_6 P_8 hR_6
set_option maxHeartbeats 1000000 in
set_option maxRecDepth 100000 in
theorem ivL_X3_closeSigns_L0 (j : Nat) (x2 : Int32)    (R : Tr) (P : Tr) (hR : (R 0 1 = 0 → R 0 2 = -1)) : Ep (fL_X3_closeSigns_L0 j x2 R P) (fun q => (q.1 0 1 = 0 → q.1 0 2 = -1)) := by
  unfold fL_X3_closeSigns_L0
  exact ivB_X3_closeSigns_L0 j x2 2000 R P hR
set_option maxHeartbeats 1000000 in
set_option maxRecDepth 100000 in
theorem iv_X3_closeSigns (j : Nat) (R : Tr) (P : Tr) (x2 : Int32) (hR : (R 0 1 = 0 → R 0 2 = -1))   : Ep (f_X3_closeSigns j R P x2) (fun q => (q.1 0 1 = 0 → q.1 0 2 = -1)) := by
  unfold f_X3_closeSigns
  exact ivL_X3_closeSigns_L0 j x2 R P hR
set_option maxHeartbeats 1000000 in
set_option maxRecDepth 100000 in
theorem ivJ_X3_readFormula_J173 (j : Nat) (s0 : Int32) (K : Tr) (R : Tr) (P : Tr) (hR : (R 0 1 = 0 → R 0 2 = -1))   : Ep (fJ_X3_readFormula_J173 j s0 K R P) (fun q => (q.2.2.1 0 1 = 0 → q.2.2.1 0 2 = -1)) := by
  unfold fJ_X3_readFormula_J173
  refine Ep_bd (iv_expect K R s0 (1 : Int32) hR (by decide)) (fun q hq => ?_)
  refine Ep_lt (fun r10 er10 => ?_)
  refine Ep_lt (fun R_11 eR_11 => ?_)
  have hR_11 : (R_11 0 1 = 0 → R_11 0 2 = -1) := by rw [eR_11]; exact hq
  refine Ep_ite (fun _ => ?_) (fun _ => ?_)
  · exact Ep_some hR_11
  · exact Ep_some hR_11
set_option maxHeartbeats 1000000 in
set_option maxRecDepth 100000 in
theorem ivJ_X3_readFormula_J147 (j : Nat) (K : Tr) (R : Tr) (P : Tr) (hR : (R 0 1 = 0 → R 0 2 = -1))   : Ep (fJ_X3_readFormula_J147 j K R P) (fun q => (q.2.2.1 0 1 = 0 → q.2.2.1 0 2 = -1)) := by
  unfold fJ_X3_readFormula_J147
  refine Ep_bd (iv_X3_closeSigns j R P (1 : Int32) hR) (fun q hq => ?_)
  refine Ep_lt (fun R_4 eR_4 => ?_)
  have hR_4 : (R_4 0 1 = 0 → R_4 0 2 = -1) := by rw [eR_4]; exact hq
  refine Ep_lt (fun P_5 eP_5 => ?_)
  refine Ep_ite (fun _ => ?_) (fun _ => ?_)
  · refine Ep_ite (fun _ => ?_) (fun _ => ?_)
    · exact ivJ_X3_readFormula_J173 j 1 K R_4 P_5 hR_4
    · exact ivJ_X3_readFormula_J173 j 0 K R_4 P_5 hR_4
  · exact Ep_some hR_4
set_option maxHeartbeats 1000000 in
set_option maxRecDepth 100000 in
theorem ivJ_X3_readFormula_J130 (k17 : Int32 → Int32 → Int32 → Tr → Tr → Tr → Option (Int32 × Tr × Tr × Tr)) (j : Nat) (x2 : Int32) (x3 : Int32) (x4 : Int32) (K : Tr) (R : Tr) (P : Tr) (hR : (R 0 1 = 0 → R 0 2 = -1)) (hk17 : ∀ (x2 : Int32) (x3 : Int32) (x4 : Int32) (K : Tr) (R : Tr) (P : Tr), (R 0 1 = 0 → R 0 2 = -1) → Ep (k17 x2 x3 x4 K R P) (fun q => (q.2.2.1 0 1 = 0 → q.2.2.1 0 2 = -1)))  : Ep (fJ_X3_readFormula_J130 k17 j x2 x3 x4 K R P) (fun q => (q.2.2.1 0 1 = 0 → q.2.2.1 0 2 = -1)) := by
  unfold fJ_X3_readFormula_J130
  refine Ep_ite (fun _ => ?_) (fun _ => ?_)
  · refine Ep_lt (fun y24 ey24 => ?_)
    exact hk17 x2 x3 y24 K R P hR
  · refine Ep_any (fun K_25 => ?_)
    refine Ep_lt (fun y28 ey28 => ?_)
    exact hk17 x2 x3 y28 K_25 R P hR
set_option maxHeartbeats 1000000 in
set_option maxRecDepth 100000 in
theorem iv_X3_closeBracket (j : Nat) (R : Tr) (P : Tr) (hR : (R 0 1 = 0 → R 0 2 = -1))   : Ep (f_X3_closeBracket j R P) (fun q => (q.1 0 1 = 0 → q.1 0 2 = -1)) := by
  unfold f_X3_closeBracket
  refine Ep_bd (iv_X3_closeSigns j R P (1 : Int32) hR) (fun q hq => ?_)
  refine Ep_lt (fun R_1 eR_1 => ?_)
  have hR_1 : (R_1 0 1 = 0 → R_1 0 2 = -1) := by rw [eR_1]; exact hq
  refine Ep_lt (fun P_2 eP_2 => ?_)
  refine Ep_lt (fun R_5 eR_5 => ?_)
  have hR_5 : (R_5 0 1 = 0 → R_5 0 2 = -1) := by rw [eR_5]; exact iv_st hR_1 (by omega)
  refine Ep_lt (fun R_6 eR_6 => ?_)
  have hR_6 : (R_6 0 1 = 0 → R_6 0 2 = -1) := by rw [eR_6]; exact iv_st hR_5 (by omega)
  exact Ep_some hR_6
set_option maxHeartbeats 1000000 in
set_option maxRecDepth 100000 in
theorem ivJ_X3_readFormula_J120 (k17 : Int32 → Int32 → Int32 → Tr → Tr → Tr → Option (Int32 × Tr × Tr × Tr)) (j : Nat) (x2 : Int32) (x4 : Int32) (s0 : Int32) (K : Tr) (R : Tr) (P : Tr) (hR : (R 0 1 = 0 → R 0 2 = -1)) (hk17 : ∀ (x2 : Int32) (x3 : Int32) (x4 : Int32) (K : Tr) (R : Tr) (P : Tr), (R 0 1 = 0 → R 0 2 = -1) → Ep (k17 x2 x3 x4 K R P) (fun q => (q.2.2.1 0 1 = 0 → q.2.2.1 0 2 = -1)))  : Ep (fJ_X3_readFormula_J120 k17 j x2 x4 s0 K R P) (fun q => (q.2.2.1 0 1 = 0 → q.2.2.1 0 2 = -1)) := by
  unfold fJ_X3_readFormula_J120
  refine Ep_ite (fun _ => ?_) (fun _ => ?_)
  · exact ivJ_X3_readFormula_J130 k17 j x2 s0 x4 K R P hR hk17
  · refine Ep_bd (iv_X3_closeBracket j R P hR) (fun q hq => ?_)
    refine Ep_lt (fun R_29 eR_29 => ?_)
    have hR_29 : (R_29 0 1 = 0 → R_29 0 2 = -1) := by rw [eR_29]; exact hq
    refine Ep_lt (fun P_30 eP_30 => ?_)
    exact ivJ_X3_readFormula_J130 k17 j x2 s0 x4 K R_29 P_30 hR_29 hk17
set_option maxHeartbeats 1000000 in
set_option maxRecDepth 100000 in
theorem ivJ_X3_readFormula_J119 (k17 : Int32 → Int32 → Int32 → Tr → Tr → Tr → Option (Int32 × Tr × Tr × Tr)) (j : Nat) (x2 : Int32) (x4 : Int32) (K : Tr) (R : Tr) (P : Tr) (hR : (R 0 1 = 0 → R 0 2 = -1)) (hk17 : ∀ (x2 : Int32) (x3 : Int32) (x4 : Int32) (K : Tr) (R : Tr) (P : Tr), (R 0 1 = 0 → R 0 2 = -1) → Ep (k17 x2 x3 x4 K R P) (fun q => (q.2.2.1 0 1 = 0 → q.2.2.1 0 2 = -1)))  : Ep (fJ_X3_readFormula_J119 k17 j x2 x4 K R P) (fun q => (q.2.2.1 0 1 = 0 → q.2.2.1 0 2 = -1)) := by
  unfold fJ_X3_readFormula_J119
  exact ivJ_X3_readFormula_J120 k17 j x2 x4 0 K R P hR hk17
set_option maxHeartbeats 1000000 in
set_option maxRecDepth 100000 in
theorem ivJ_X3_countKnot_J18 (K : Tr) (s0 : Int32) (R : Tr) (P : Tr) (hR : (R 0 1 = 0 → R 0 2 = -1))   : Ep (fJ_X3_countKnot_J18 K s0 R P) (fun q => (q.2.1 0 1 = 0 → q.2.1 0 2 = -1)) := by
  unfold fJ_X3_countKnot_J18
  refine Ep_bd (iv_expect K R s0 (2 : Int32) hR (by decide)) (fun q hq => ?_)
  refine Ep_lt (fun r2 er2 => ?_)
  refine Ep_lt (fun R_3 eR_3 => ?_)
  have hR_3 : (R_3 0 1 = 0 → R_3 0 2 = -1) := by rw [eR_3]; exact hq
  refine Ep_ite (fun _ => ?_) (fun _ => ?_)
  · exact Ep_some hR_3
  · refine Ep_lt (fun P_7 eP_7 => ?_)
    exact Ep_some hR_3
set_option maxHeartbeats 1000000 in
set_option maxRecDepth 100000 in
theorem iv_X3_countKnot (K : Tr) (R : Tr) (P : Tr) (hR : (R 0 1 = 0 → R 0 2 = -1))   : Ep (f_X3_countKnot K R P) (fun q => (q.2.1 0 1 = 0 → q.2.1 0 2 = -1)) := by
  unfold f_X3_countKnot
  refine Ep_ite (fun _ => ?_) (fun _ => ?_)
  · exact ivJ_X3_countKnot_J18 K 0 R P hR
  · exact ivJ_X3_countKnot_J18 K 1 R P hR
set_option maxHeartbeats 1000000 in
set_option maxRecDepth 100000 in
theorem iv_X3_openSign (R : Tr) (x1 : Int32) (hR : (R 0 1 = 0 → R 0 2 = -1))   : Ep (f_X3_openSign R x1) (fun q => (q.2 0 1 = 0 → q.2 0 2 = -1)) := by
  unfold f_X3_openSign
  refine Ep_ite (fun _ => ?_) (fun _ => ?_)
  · exact Ep_some hR
  · refine Ep_ck ?_
    refine Ep_lt (fun R_3 eR_3 => ?_)
    have hR_3 : (R_3 0 1 = 0 → R_3 0 2 = -1) := by rw [eR_3]; exact iv_st hR (by omega)
    refine Ep_lt (fun R_4 eR_4 => ?_)
    have hR_4 : (R_4 0 1 = 0 → R_4 0 2 = -1) := by rw [eR_4]; exact iv_st hR_3 (by omega)
    exact Ep_some hR_4
set_option maxHeartbeats 1000000 in
set_option maxRecDepth 100000 in
theorem ivJ_X3_readJoining_J57 (j : Nat) (K : Tr) (s0 : Int32) (R : Tr) (P : Tr) (hR : (R 0 1 = 0 → R 0 2 = -1))   : Ep (fJ_X3_readJoining_J57 j K s0 R P) (fun q => (q.2.1 0 1 = 0 → q.2.1 0 2 = -1)) := by
  unfold fJ_X3_readJoining_J57
  refine Ep_bd (iv_expect K R s0 (1 : Int32) hR (by decide)) (fun q hq => ?_)
  refine Ep_lt (fun r10 er10 => ?_)
  refine Ep_lt (fun R_11 eR_11 => ?_)
  have hR_11 : (R_11 0 1 = 0 → R_11 0 2 = -1) := by rw [eR_11]; exact hq
  refine Ep_ite (fun _ => ?_) (fun _ => ?_)
  · exact Ep_some hR_11
  · refine Ep_bd (iv_X3_countKnot K R_11 P hR_11) (fun q hq => ?_)
    refine Ep_lt (fun r15 er15 => ?_)
    refine Ep_lt (fun R_16 eR_16 => ?_)
    have hR_16 : (R_16 0 1 = 0 → R_16 0 2 = -1) := by rw [eR_16]; exact hq
    refine Ep_lt (fun P_17 eP_17 => ?_)
    refine Ep_ite (fun _ => ?_) (fun _ => ?_)
    · exact Ep_some hR_16
    · refine Ep_bd (iv_X3_openSign R_16 (K 0 1) hR_16) (fun q hq => ?_)
      refine Ep_lt (fun r21 er21 => ?_)
      refine Ep_lt (fun R_22 eR_22 => ?_)
      have hR_22 : (R_22 0 1 = 0 → R_22 0 2 = -1) := by rw [eR_22]; exact hq
      refine Ep_ite (fun _ => ?_) (fun _ => ?_)
      · exact Ep_some hR_22
      · exact Ep_some hR_22
set_option maxHeartbeats 1000000 in
set_option maxRecDepth 100000 in
theorem ivJ_X3_readJoining_J52 (j : Nat) (K : Tr) (R : Tr) (P : Tr) (hR : (R 0 1 = 0 → R 0 2 = -1))   : Ep (fJ_X3_readJoining_J52 j K R P) (fun q => (q.2.1 0 1 = 0 → q.2.1 0 2 = -1)) := by
  unfold fJ_X3_readJoining_J52
  exact ivJ_X3_readJoining_J57 j K 1 R P hR
set_option maxHeartbeats 1000000 in
set_option maxRecDepth 100000 in
theorem ivJ_X3_readJoining_J36 (j : Nat) (K : Tr) (x2 : Int32) (x3 : Int32) (s0 : Int32) (R : Tr) (P : Tr) (hR : (R 0 1 = 0 → R 0 2 = -1))   : Ep (fJ_X3_readJoining_J36 j K x2 x3 s0 R P) (fun q => (q.2.1 0 1 = 0 → q.2.1 0 2 = -1)) := by
  unfold fJ_X3_readJoining_J36
  refine Ep_bd (iv_X3_closeSigns j R P s0 hR) (fun q hq => ?_)
  refine Ep_lt (fun R_5 eR_5 => ?_)
  have hR_5 : (R_5 0 1 = 0 → R_5 0 2 = -1) := by rw [eR_5]; exact hq
  refine Ep_lt (fun P_6 eP_6 => ?_)
  refine Ep_ite (fun _ => ?_) (fun _ => ?_)
  · exact ivJ_X3_readJoining_J52 j K R_5 P_6 hR_5
  · refine Ep_any (fun r26 => ?_)
    refine Ep_ite (fun _ => ?_) (fun _ => ?_)
    · exact ivJ_X3_readJoining_J57 j K 0 R_5 P_6 hR_5
    · exact ivJ_X3_readJoining_J52 j K R_5 P_6 hR_5
set_option maxHeartbeats 1000000 in
set_option maxRecDepth 100000 in
theorem ivJ_X3_readJoining_J22 (j : Nat) (K : Tr) (x2 : Int32) (s0 : Int32) (R : Tr) (P : Tr) (hR : (R 0 1 = 0 → R 0 2 = -1))   : Ep (fJ_X3_readJoining_J22 j K x2 s0 R P) (fun q => (q.2.1 0 1 = 0 → q.2.1 0 2 = -1)) := by
  unfold fJ_X3_readJoining_J22
  refine Ep_ite (fun _ => ?_) (fun _ => ?_)
  · exact ivJ_X3_readJoining_J36 j K x2 s0 x2 R P hR
  · exact ivJ_X3_readJoining_J36 j K x2 s0 (x2 + 1) R P hR
set_option maxHeartbeats 1000000 in
set_option maxRecDepth 100000 in
theorem iv_X3_readJoining (j : Nat) (K : Tr) (R : Tr) (P : Tr) (hR : (R 0 1 = 0 → R 0 2 = -1))   : Ep (f_X3_readJoining j K R P) (fun q => (q.2.1 0 1 = 0 → q.2.1 0 2 = -1)) := by
  unfold f_X3_readJoining
  refine Ep_ck ?_
  refine Ep_lt (fun y2 ey2 => ?_)
  refine Ep_ite (fun _ => ?_) (fun _ => ?_)
  · exact ivJ_X3_readJoining_J22 j K y2 1 R P hR
  · exact ivJ_X3_readJoining_J22 j K y2 0 R P hR
set_option maxHeartbeats 1000000 in
set_option maxRecDepth 100000 in
theorem iv_X3_openBracket (R : Tr) (hR : (R 0 1 = 0 → R 0 2 = -1))   : Ep (f_X3_openBracket R) (fun q => (q.2 0 1 = 0 → q.2 0 2 = -1)) := by
  unfold f_X3_openBracket
  refine Ep_lt (fun R_1 eR_1 => ?_)
  have hR_1 : (R_1 0 1 = 0 → R_1 0 2 = -1) := by rw [eR_1]; exact iv_st hR (by omega)
  refine Ep_bd (iv_X3_openSign R_1 (39 : Int32) hR_1) (fun q hq => ?_)
  refine Ep_lt (fun r2 er2 => ?_)
  refine Ep_lt (fun R_3 eR_3 => ?_)
  have hR_3 : (R_3 0 1 = 0 → R_3 0 2 = -1) := by rw [eR_3]; exact hq
  refine Ep_ck ?_
  exact Ep_some hR_3
set_option maxHeartbeats 1000000 in
set_option maxRecDepth 100000 in
theorem ivJ_X3_readOperand_J29 (j : Nat) (K : Tr) (s0 : Int32) (R : Tr) (P : Tr) (hR : (R 0 1 = 0 → R 0 2 = -1))   : Ep (fJ_X3_readOperand_J29 j K s0 R P) (fun q => (q.2.1 0 1 = 0 → q.2.1 0 2 = -1)) := by
  unfold fJ_X3_readOperand_J29
  refine Ep_bd (iv_expect K R s0 (2 : Int32) hR (by decide)) (fun q hq => ?_)
  refine Ep_lt (fun r63 er63 => ?_)
  refine Ep_lt (fun R_64 eR_64 => ?_)
  have hR_64 : (R_64 0 1 = 0 → R_64 0 2 = -1) := by rw [eR_64]; exact hq
  refine Ep_ite (fun _ => ?_) (fun _ => ?_)
  · exact Ep_some hR_64
  · refine Ep_bd (iv_X3_openBracket R_64 hR_64) (fun q hq => ?_)
    refine Ep_lt (fun r68 er68 => ?_)
    refine Ep_lt (fun R_69 eR_69 => ?_)
    have hR_69 : (R_69 0 1 = 0 → R_69 0 2 = -1) := by rw [eR_69]; exact hq
    refine Ep_ite (fun _ => ?_) (fun _ => ?_)
    · exact Ep_some hR_69
    · exact Ep_some hR_69
set_option maxHeartbeats 1000000 in
set_option maxRecDepth 100000 in
theorem ivJ_X3_readOperand_J73 (j : Nat) (K : Tr) (x2 : Int32) (s0 : Int32) (R : Tr) (P : Tr) (hR : (R 0 1 = 0 → R 0 2 = -1))   : Ep (fJ_X3_readOperand_J73 j K x2 s0 R P) (fun q => (q.2.1 0 1 = 0 → q.2.1 0 2 = -1)) := by
  unfold fJ_X3_readOperand_J73
  refine Ep_bd (iv_expect K R s0 (1 : Int32) hR (by decide)) (fun q hq => ?_)
  refine Ep_lt (fun r46 er46 => ?_)
  refine Ep_lt (fun R_47 eR_47 => ?_)
  have hR_47 : (R_47 0 1 = 0 → R_47 0 2 = -1) := by rw [eR_47]; exact hq
  refine Ep_ite (fun _ => ?_) (fun _ => ?_)
  · exact Ep_some hR_47
  · refine Ep_bd (iv_X3_countKnot K R_47 P hR_47) (fun q hq => ?_)
    refine Ep_lt (fun r51 er51 => ?_)
    refine Ep_lt (fun R_52 eR_52 => ?_)
    have hR_52 : (R_52 0 1 = 0 → R_52 0 2 = -1) := by rw [eR_52]; exact hq
    refine Ep_lt (fun P_53 eP_53 => ?_)
    refine Ep_ite (fun _ => ?_) (fun _ => ?_)
    · exact Ep_some hR_52
    · refine Ep_bd (iv_X3_openSign R_52 x2 hR_52) (fun q hq => ?_)
      refine Ep_lt (fun r57 er57 => ?_)
      refine Ep_lt (fun R_58 eR_58 => ?_)
      have hR_58 : (R_58 0 1 = 0 → R_58 0 2 = -1) := by rw [eR_58]; exact hq
      refine Ep_ite (fun _ => ?_) (fun _ => ?_)
      · exact Ep_some hR_58
      · exact Ep_some hR_58
set_option maxHeartbeats 1000000 in
set_option maxRecDepth 100000 in
theorem ivJ_X3_readOperand_J126 (j : Nat) (K : Tr) (s0 : Int32) (R : Tr) (P : Tr) (hR : (R 0 1 = 0 → R 0 2 = -1))   : Ep (fJ_X3_readOperand_J126 j K s0 R P) (fun q => (q.2.1 0 1 = 0 → q.2.1 0 2 = -1)) := by
  unfold fJ_X3_readOperand_J126
  refine Ep_bd (iv_expect K R s0 (2 : Int32) hR (by decide)) (fun q hq => ?_)
  refine Ep_lt (fun r25 er25 => ?_)
  refine Ep_lt (fun R_26 eR_26 => ?_)
  have hR_26 : (R_26 0 1 = 0 → R_26 0 2 = -1) := by rw [eR_26]; exact hq
  refine Ep_ite (fun _ => ?_) (fun _ => ?_)
  · exact Ep_some hR_26
  · refine Ep_bd (iv_X3_countKnot K R_26 P hR_26) (fun q hq => ?_)
    refine Ep_lt (fun r30 er30 => ?_)
    refine Ep_lt (fun R_31 eR_31 => ?_)
    have hR_31 : (R_31 0 1 = 0 → R_31 0 2 = -1) := by rw [eR_31]; exact hq
    refine Ep_lt (fun P_32 eP_32 => ?_)
    refine Ep_ite (fun _ => ?_) (fun _ => ?_)
    · exact Ep_some hR_31
    · refine Ep_any (fun q => ?_)
      refine Ep_lt (fun r36 er36 => ?_)
      refine Ep_lt (fun P_37 eP_37 => ?_)
      refine Ep_ite (fun _ => ?_) (fun _ => ?_)
      · exact Ep_some hR_31
      · exact Ep_some hR_31
set_option maxHeartbeats 1000000 in
set_option maxRecDepth 100000 in
theorem iv_X3_readOperand (j : Nat) (K : Tr) (R : Tr) (P : Tr) (hR : (R 0 1 = 0 → R 0 2 = -1))   : Ep (f_X3_readOperand j K R P) (fun q => (q.2.1 0 1 = 0 → q.2.1 0 2 = -1)) := by
  unfold f_X3_readOperand
  refine Ep_lt (fun y1 ey1 => ?_)
  refine Ep_ite (fun _ => ?_) (fun _ => ?_)
  · refine Ep_ite (fun _ => ?_) (fun _ => ?_)
    · exact ivJ_X3_readOperand_J29 j K 0 R P hR
    · exact ivJ_X3_readOperand_J29 j K 1 R P hR
  · refine Ep_ite (fun _ => ?_) (fun _ => ?_)
    · refine Ep_any (fun r41 => ?_)
      refine Ep_ck ?_
      refine Ep_ite (fun _ => ?_) (fun _ => ?_)
      · exact ivJ_X3_readOperand_J73 j K y1 0 R P hR
      · exact ivJ_X3_readOperand_J73 j K y1 1 R P hR
    · refine Ep_ite (fun _ => ?_) (fun _ => ?_)
      · refine Ep_ite (fun _ => ?_) (fun _ => ?_)
        · exact ivJ_X3_readOperand_J126 j K 0 R P hR
        · exact ivJ_X3_readOperand_J126 j K 1 R P hR
      · refine Ep_any (fun r5 => ?_)
        refine Ep_bd (iv_expect K R r5 (1 : Int32) hR (by decide)) (fun q hq => ?_)
        refine Ep_lt (fun r8 er8 => ?_)
        refine Ep_lt (fun R_9 eR_9 => ?_)
        have hR_9 : (R_9 0 1 = 0 → R_9 0 2 = -1) := by rw [eR_9]; exact hq
        refine Ep_ite (fun _ => ?_) (fun _ => ?_)
        · exact Ep_some hR_9
        · refine Ep_bd (iv_X3_countKnot K R_9 P hR_9) (fun q hq => ?_)
          refine Ep_lt (fun r13 er13 => ?_)
          refine Ep_lt (fun R_14 eR_14 => ?_)
          have hR_14 : (R_14 0 1 = 0 → R_14 0 2 = -1) := by rw [eR_14]; exact hq
          refine Ep_lt (fun P_15 eP_15 => ?_)
          refine Ep_ite (fun _ => ?_) (fun _ => ?_)
          · exact Ep_some hR_14
          · refine Ep_any (fun q => ?_)
            refine Ep_lt (fun r19 er19 => ?_)
            refine Ep_lt (fun P_20 eP_20 => ?_)
            refine Ep_ite (fun _ => ?_) (fun _ => ?_)
            · exact Ep_some hR_14
            · exact Ep_some hR_14
set_option maxHeartbeats 1000000 in
set_option maxRecDepth 100000 in
theorem ivJ_X3_readFormula_J62 (k17 : Int32 → Int32 → Int32 → Tr → Tr → Tr → Option (Int32 × Tr × Tr × Tr)) (j : Nat) (x4 : Int32) (s0 : Int32) (K : Tr) (R : Tr) (P : Tr) (hR : (R 0 1 = 0 → R 0 2 = -1)) (hk17 : ∀ (x2 : Int32) (x3 : Int32) (x4 : Int32) (K : Tr) (R : Tr) (P : Tr), (R 0 1 = 0 → R 0 2 = -1) → Ep (k17 x2 x3 x4 K R P) (fun q => (q.2.2.1 0 1 = 0 → q.2.2.1 0 2 = -1)))  : Ep (fJ_X3_readFormula_J62 k17 j x4 s0 K R P) (fun q => (q.2.2.1 0 1 = 0 → q.2.2.1 0 2 = -1)) := by
  unfold fJ_X3_readFormula_J62
  refine Ep_bd (iv_X3_readOperand j K R P hR) (fun q hq => ?_)
  refine Ep_lt (fun r40 er40 => ?_)
  refine Ep_lt (fun R_41 eR_41 => ?_)
  have hR_41 : (R_41 0 1 = 0 → R_41 0 2 = -1) := by rw [eR_41]; exact hq
  refine Ep_lt (fun P_42 eP_42 => ?_)
  exact ivJ_X3_readFormula_J130 k17 j s0 r40 x4 K R_41 P_42 hR_41 hk17
set_option maxHeartbeats 1000000 in
set_option maxRecDepth 100000 in
theorem ivJ_X3_readFormula_J57 (k17 : Int32 → Int32 → Int32 → Tr → Tr → Tr → Option (Int32 × Tr × Tr × Tr)) (j : Nat) (x4 : Int32) (K : Tr) (R : Tr) (P : Tr) (hR : (R 0 1 = 0 → R 0 2 = -1)) (hk17 : ∀ (x2 : Int32) (x3 : Int32) (x4 : Int32) (K : Tr) (R : Tr) (P : Tr), (R 0 1 = 0 → R 0 2 = -1) → Ep (k17 x2 x3 x4 K R P) (fun q => (q.2.2.1 0 1 = 0 → q.2.2.1 0 2 = -1)))  : Ep (fJ_X3_readFormula_J57 k17 j x4 K R P) (fun q => (q.2.2.1 0 1 = 0 → q.2.2.1 0 2 = -1)) := by
  unfold fJ_X3_readFormula_J57
  exact ivJ_X3_readFormula_J62 k17 j x4 1 K R P hR hk17
set_option maxHeartbeats 1000000 in
set_option maxRecDepth 100000 in
theorem ivB_X3_readFormula_L17 (j : Nat)    (N : Nat) : ∀ (x2 : Int32) (x3 : Int32) (x4 : Int32) (K : Tr) (R : Tr) (P : Tr), (R 0 1 = 0 → R 0 2 = -1) → Ep (lpF (fun _ _ _ _ _ _ => none) (fB_X3_readFormula_L17 j) N x2 x3 x4 K R P) (fun q => (q.2.2.1 0 1 = 0 → q.2.2.1 0 2 = -1)) := by
  induction N with
  | zero => intro x2 x3 x4 K R P _; exact Ep_none
  | succ N ih =>
    intro x2 x3 x4 K R P hR
    show Ep (fB_X3_readFormula_L17 j (lpF (fun _ _ _ _ _ _ => none) (fB_X3_readFormula_L17 j) N) x2 x3 x4 K R P) _
    have hk17 := ih
    clear ih
    generalize lpF (fun _ _ _ _ _ _ => none) (fB_X3_readFormula_L17 j) N = k17 at hk17 ⊢
    unfold fB_X3_readFormula_L17
    refine Ep_ite (fun _ => ?_) (fun _ => ?_)
    · exact ivJ_X3_readFormula_J147 j K R P hR
    · refine Ep_ite (fun _ => ?_) (fun _ => ?_)
      · exact ivJ_X3_readFormula_J147 j K R P hR
      · refine Ep_ite (fun _ => ?_) (fun _ => ?_)
        · refine Ep_any (fun r17 => ?_)
          refine Ep_ite (fun _ => ?_) (fun _ => ?_)
          · refine Ep_ite (fun _ => ?_) (fun _ => ?_)
            · refine Ep_ite (fun _ => ?_) (fun _ => ?_)
              · exact ivJ_X3_readFormula_J119 k17 j x2 x4 K R P hR hk17
              · exact ivJ_X3_readFormula_J120 k17 j x2 x4 1 K R P hR hk17
            · exact ivJ_X3_readFormula_J119 k17 j x2 x4 K R P hR hk17
          · refine Ep_bd (iv_X3_readJoining j K R P hR) (fun q hq => ?_)
            refine Ep_lt (fun r34 er34 => ?_)
            refine Ep_lt (fun R_35 eR_35 => ?_)
            have hR_35 : (R_35 0 1 = 0 → R_35 0 2 = -1) := by rw [eR_35]; exact hq
            refine Ep_lt (fun P_36 eP_36 => ?_)
            exact ivJ_X3_readFormula_J130 k17 j 1 r34 x4 K R_35 P_36 hR_35 hk17
        · refine Ep_ite (fun _ => ?_) (fun _ => ?_)
          · exact ivJ_X3_readFormula_J57 k17 j x4 K R P hR hk17
          · refine Ep_ite (fun _ => ?_) (fun _ => ?_)
            · exact ivJ_X3_readFormula_J57 k17 j x4 K R P hR hk17
            · exact ivJ_X3_readFormula_J62 k17 j x4 0 K R P hR hk17
set_option maxHeartbeats 1000000 in
set_option maxRecDepth 100000 in
theorem ivL_X3_readFormula_L17 (j : Nat)    (x2 : Int32) (x3 : Int32) (x4 : Int32) (K : Tr) (R : Tr) (P : Tr) (hR : (R 0 1 = 0 → R 0 2 = -1)) : Ep (fL_X3_readFormula_L17 j x2 x3 x4 K R P) (fun q => (q.2.2.1 0 1 = 0 → q.2.2.1 0 2 = -1)) := by
  unfold fL_X3_readFormula_L17
  exact ivB_X3_readFormula_L17 j 2000 x2 x3 x4 K R P hR
set_option maxHeartbeats 1000000 in
set_option maxRecDepth 100000 in
theorem iv_X3_readFormula (j : Nat) (K : Tr) (R : Tr) (P : Tr) (hR : (R 0 1 = 0 → R 0 2 = -1))   : Ep (f_X3_readFormula j K R P) (fun q => (q.2.2.1 0 1 = 0 → q.2.2.1 0 2 = -1)) := by
  unfold f_X3_readFormula
  refine Ep_lt (fun R_1 eR_1 => ?_)
  have hR_1 : (R_1 0 1 = 0 → R_1 0 2 = -1) := by rw [eR_1]; exact iv_st hR (by omega)
  refine Ep_lt (fun R_2 eR_2 => ?_)
  have hR_2 : (R_2 0 1 = 0 → R_2 0 2 = -1) := by rw [eR_2]; exact iv_st hR_1 (by omega)
  exact ivL_X3_readFormula_L17 j 1 1 0 K R_2 P hR_2
set_option maxHeartbeats 1000000 in
set_option maxRecDepth 100000 in
theorem ivJ_X3_readLaw_J61 (x1 : Int32) (s0 : Int32) (K : Tr) (R : Tr) (P : Tr) (hR : (R 0 1 = 0 → R 0 2 = -1))   : Ep (fJ_X3_readLaw_J61 x1 s0 K R P) (fun q => (q.2.2.1 0 1 = 0 → q.2.2.1 0 2 = -1)) := by
  unfold fJ_X3_readLaw_J61
  refine Ep_bd (iv_expect K R s0 (3 : Int32) hR (by decide)) (fun q hq => ?_)
  refine Ep_lt (fun r13 er13 => ?_)
  refine Ep_lt (fun R_14 eR_14 => ?_)
  have hR_14 : (R_14 0 1 = 0 → R_14 0 2 = -1) := by rw [eR_14]; exact hq
  refine Ep_ite (fun _ => ?_) (fun _ => ?_)
  · exact Ep_some hR_14
  · refine Ep_any (fun K_18 => ?_)
    refine Ep_ck ?_
    refine Ep_bd (iv_X3_readFormula x1.toNatClampNeg K_18 R_14 P hR_14) (fun q hq => ?_)
    refine Ep_lt (fun r22 er22 => ?_)
    refine Ep_lt (fun K_23 eK_23 => ?_)
    refine Ep_lt (fun R_24 eR_24 => ?_)
    have hR_24 : (R_24 0 1 = 0 → R_24 0 2 = -1) := by rw [eR_24]; exact hq
    refine Ep_lt (fun P_25 eP_25 => ?_)
    refine Ep_ck ?_
    exact Ep_some hR_24
set_option maxHeartbeats 1000000 in
set_option maxRecDepth 100000 in
theorem ivJ_X3_readLaw_J33 (x1 : Int32) (s0 : Int32) (K : Tr) (R : Tr) (P : Tr) (hR : (R 0 1 = 0 → R 0 2 = -1))   : Ep (fJ_X3_readLaw_J33 x1 s0 K R P) (fun q => (q.2.2.1 0 1 = 0 → q.2.2.1 0 2 = -1)) := by
  unfold fJ_X3_readLaw_J33
  refine Ep_bd (iv_expect K R s0 (1 : Int32) hR (by decide)) (fun q hq => ?_)
  refine Ep_lt (fun r6 er6 => ?_)
  refine Ep_lt (fun R_7 eR_7 => ?_)
  have hR_7 : (R_7 0 1 = 0 → R_7 0 2 = -1) := by rw [eR_7]; exact hq
  refine Ep_ite (fun _ => ?_) (fun _ => ?_)
  · exact Ep_some hR_7
  · refine Ep_ck ?_
    refine Ep_ite (fun _ => ?_) (fun _ => ?_)
    · exact ivJ_X3_readLaw_J61 x1 1 K R_7 P hR_7
    · exact ivJ_X3_readLaw_J61 x1 0 K R_7 P hR_7
set_option maxHeartbeats 1000000 in
set_option maxRecDepth 100000 in
theorem ivJ_X3_readLaw_J32 (x1 : Int32) (K : Tr) (R : Tr) (P : Tr) (hR : (R 0 1 = 0 → R 0 2 = -1))   : Ep (fJ_X3_readLaw_J32 x1 K R P) (fun q => (q.2.2.1 0 1 = 0 → q.2.2.1 0 2 = -1)) := by
  unfold fJ_X3_readLaw_J32
  exact ivJ_X3_readLaw_J33 x1 0 K R P hR
set_option maxHeartbeats 1000000 in
set_option maxRecDepth 100000 in
theorem iv_X3_readLaw (K : Tr) (R : Tr) (P : Tr) (hR : (R 0 1 = 0 → R 0 2 = -1))   : Ep (f_X3_readLaw K R P) (fun q => (q.2.2.1 0 1 = 0 → q.2.2.1 0 2 = -1)) := by
  unfold f_X3_readLaw
  refine Ep_any (fun K_1 => ?_)
  refine Ep_lt (fun y4 ey4 => ?_)
  refine Ep_ite (fun _ => ?_) (fun _ => ?_)
  · exact ivJ_X3_readLaw_J32 y4 K_1 R P hR
  · refine Ep_ite (fun _ => ?_) (fun _ => ?_)
    · exact ivJ_X3_readLaw_J32 y4 K_1 R P hR
    · exact ivJ_X3_readLaw_J33 y4 1 K_1 R P hR
set_option maxHeartbeats 1000000 in
set_option maxRecDepth 100000 in
theorem iv_X3_readLine (K : Tr) (R : Tr) (P : Tr) (hR : (R 0 1 = 0 → R 0 2 = -1))   : Ep (f_X3_readLine K R P) (fun q => (q.2.2.1 0 1 = 0 → q.2.2.1 0 2 = -1)) := by
  unfold f_X3_readLine
  refine Ep_lt (fun y1 ey1 => ?_)
  refine Ep_ite (fun _ => ?_) (fun _ => ?_)
  · refine Ep_bd (iv_X3_readPlace K R P hR) (fun q hq => ?_)
    refine Ep_lt (fun r3 er3 => ?_)
    refine Ep_lt (fun K_4 eK_4 => ?_)
    refine Ep_lt (fun R_5 eR_5 => ?_)
    have hR_5 : (R_5 0 1 = 0 → R_5 0 2 = -1) := by rw [eR_5]; exact hq
    refine Ep_lt (fun P_6 eP_6 => ?_)
    refine Ep_ck ?_
    exact Ep_some hR_5
  · refine Ep_ite (fun _ => ?_) (fun _ => ?_)
    · refine Ep_bd (iv_X3_readPerson K R P hR) (fun q hq => ?_)
      refine Ep_lt (fun r11 er11 => ?_)
      refine Ep_lt (fun K_12 eK_12 => ?_)
      refine Ep_lt (fun R_13 eR_13 => ?_)
      have hR_13 : (R_13 0 1 = 0 → R_13 0 2 = -1) := by rw [eR_13]; exact hq
      refine Ep_lt (fun P_14 eP_14 => ?_)
      refine Ep_ck ?_
      exact Ep_some hR_13
    · refine Ep_ite (fun _ => ?_) (fun _ => ?_)
      · refine Ep_bd (iv_X3_readPiece K R P hR) (fun q hq => ?_)
        refine Ep_lt (fun r19 er19 => ?_)
        refine Ep_lt (fun K_20 eK_20 => ?_)
        refine Ep_lt (fun R_21 eR_21 => ?_)
        have hR_21 : (R_21 0 1 = 0 → R_21 0 2 = -1) := by rw [eR_21]; exact hq
        refine Ep_lt (fun P_22 eP_22 => ?_)
        refine Ep_ck ?_
        exact Ep_some hR_21
      · refine Ep_ite (fun _ => ?_) (fun _ => ?_)
        · refine Ep_bd (iv_X3_readWait K R P hR) (fun q hq => ?_)
          refine Ep_lt (fun r27 er27 => ?_)
          refine Ep_lt (fun K_28 eK_28 => ?_)
          refine Ep_lt (fun R_29 eR_29 => ?_)
          have hR_29 : (R_29 0 1 = 0 → R_29 0 2 = -1) := by rw [eR_29]; exact hq
          refine Ep_lt (fun P_30 eP_30 => ?_)
          refine Ep_ck ?_
          exact Ep_some hR_29
        · refine Ep_ite (fun _ => ?_) (fun _ => ?_)
          · refine Ep_bd (iv_X3_readRule K R P hR) (fun q hq => ?_)
            refine Ep_lt (fun r35 er35 => ?_)
            refine Ep_lt (fun K_36 eK_36 => ?_)
            refine Ep_lt (fun R_37 eR_37 => ?_)
            have hR_37 : (R_37 0 1 = 0 → R_37 0 2 = -1) := by rw [eR_37]; exact hq
            refine Ep_lt (fun P_38 eP_38 => ?_)
            refine Ep_ck ?_
            exact Ep_some hR_37
          · refine Ep_ite (fun _ => ?_) (fun _ => ?_)
            · refine Ep_bd (iv_X3_readCurve K R P hR) (fun q hq => ?_)
              refine Ep_lt (fun r43 er43 => ?_)
              refine Ep_lt (fun K_44 eK_44 => ?_)
              refine Ep_lt (fun R_45 eR_45 => ?_)
              have hR_45 : (R_45 0 1 = 0 → R_45 0 2 = -1) := by rw [eR_45]; exact hq
              refine Ep_lt (fun P_46 eP_46 => ?_)
              refine Ep_ck ?_
              exact Ep_some hR_45
            · refine Ep_ite (fun _ => ?_) (fun _ => ?_)
              · refine Ep_bd (iv_X3_readSeed K R P hR) (fun q hq => ?_)
                refine Ep_lt (fun r51 er51 => ?_)
                refine Ep_lt (fun K_52 eK_52 => ?_)
                refine Ep_lt (fun R_53 eR_53 => ?_)
                have hR_53 : (R_53 0 1 = 0 → R_53 0 2 = -1) := by rw [eR_53]; exact hq
                refine Ep_lt (fun P_54 eP_54 => ?_)
                refine Ep_ck ?_
                exact Ep_some hR_53
              · refine Ep_ite (fun _ => ?_) (fun _ => ?_)
                · refine Ep_bd (iv_X3_readLaw K R P hR) (fun q hq => ?_)
                  refine Ep_lt (fun r59 er59 => ?_)
                  refine Ep_lt (fun K_60 eK_60 => ?_)
                  refine Ep_lt (fun R_61 eR_61 => ?_)
                  have hR_61 : (R_61 0 1 = 0 → R_61 0 2 = -1) := by rw [eR_61]; exact hq
                  refine Ep_lt (fun P_62 eP_62 => ?_)
                  refine Ep_ck ?_
                  exact Ep_some hR_61
                · refine Ep_bd (iv_expect K R (0 : Int32) (1 : Int32) hR (by decide)) (fun q hq => ?_)
                  refine Ep_lt (fun r66 er66 => ?_)
                  refine Ep_lt (fun R_67 eR_67 => ?_)
                  have hR_67 : (R_67 0 1 = 0 → R_67 0 2 = -1) := by rw [eR_67]; exact hq
                  refine Ep_ck ?_
                  exact Ep_some hR_67
set_option maxHeartbeats 1000000 in
set_option maxRecDepth 100000 in
theorem ivJ_X3_readText_J93 (k42 : Int32 → Tr → Tr → Tr → Option (Int32 × Tr × Tr × Tr)) (x2 : Int32) (s0 : Int32) (K : Tr) (R : Tr) (P : Tr) (hR : (R 0 1 = 0 → R 0 2 = -1)) (hk42 : ∀ (x2 : Int32) (K : Tr) (R : Tr) (P : Tr), (R 0 1 = 0 → R 0 2 = -1) → Ep (k42 x2 K R P) (fun q => (q.2.2.1 0 1 = 0 → q.2.2.1 0 2 = -1)))  : Ep (fJ_X3_readText_J93 k42 x2 s0 K R P) (fun q => (q.2.2.1 0 1 = 0 → q.2.2.1 0 2 = -1)) := by
  unfold fJ_X3_readText_J93
  refine Ep_bd (iv_expect K R s0 (1 : Int32) hR (by decide)) (fun q hq => ?_)
  refine Ep_lt (fun r25 er25 => ?_)
  refine Ep_lt (fun R_26 eR_26 => ?_)
  have hR_26 : (R_26 0 1 = 0 → R_26 0 2 = -1) := by rw [eR_26]; exact hq
  refine Ep_ite (fun _ => ?_) (fun _ => ?_)
  · refine Ep_lt (fun y30 ey30 => ?_)
    exact hk42 y30 K R_26 P hR_26
  · refine Ep_any (fun K_31 => ?_)
    refine Ep_lt (fun R_34 eR_34 => ?_)
    have hR_34 : (R_34 0 1 = 0 → R_34 0 2 = -1) := by rw [eR_34]; exact iv_st hR_26 (by omega)
    refine Ep_lt (fun y35 ey35 => ?_)
    exact hk42 y35 K_31 R_34 P hR_34
set_option maxHeartbeats 1000000 in
set_option maxRecDepth 100000 in
theorem ivB_X3_readText_L42     (N : Nat) : ∀ (x2 : Int32) (K : Tr) (R : Tr) (P : Tr), (R 0 1 = 0 → R 0 2 = -1) → Ep (lpF (fun _ _ _ _ => none) (fB_X3_readText_L42) N x2 K R P) (fun q => (q.2.2.1 0 1 = 0 → q.2.2.1 0 2 = -1)) := by
  induction N with
  | zero => intro x2 K R P _; exact Ep_none
  | succ N ih =>
    intro x2 K R P hR
    show Ep (fB_X3_readText_L42 (lpF (fun _ _ _ _ => none) (fB_X3_readText_L42) N) x2 K R P) _
    have hk42 := ih
    clear ih
    generalize lpF (fun _ _ _ _ => none) (fB_X3_readText_L42) N = k42 at hk42 ⊢
    unfold fB_X3_readText_L42
    refine Ep_ite (fun _ => ?_) (fun _ => ?_)
    · exact ivJ_X3_readText_J123 K R P hR
    · refine Ep_ite (fun _ => ?_) (fun _ => ?_)
      · refine Ep_ite (fun _ => ?_) (fun _ => ?_)
        · exact ivJ_X3_readText_J123 K R P hR
        · refine Ep_bd (iv_X3_readLine K R P hR) (fun q hq => ?_)
          refine Ep_lt (fun r16 er16 => ?_)
          refine Ep_lt (fun K_17 eK_17 => ?_)
          refine Ep_lt (fun R_18 eR_18 => ?_)
          have hR_18 : (R_18 0 1 = 0 → R_18 0 2 = -1) := by rw [eR_18]; exact hq
          refine Ep_lt (fun P_19 eP_19 => ?_)
          refine Ep_ite (fun _ => ?_) (fun _ => ?_)
          · refine Ep_lt (fun y23 ey23 => ?_)
            exact hk42 y23 K_17 R_18 P_19 hR_18
          · refine Ep_ite (fun _ => ?_) (fun _ => ?_)
            · exact ivJ_X3_readText_J93 k42 x2 1 K_17 R_18 P_19 hR_18 hk42
            · exact ivJ_X3_readText_J93 k42 x2 0 K_17 R_18 P_19 hR_18 hk42
      · exact ivJ_X3_readText_J123 K R P hR
set_option maxHeartbeats 1000000 in
set_option maxRecDepth 100000 in
theorem ivL_X3_readText_L42     (x2 : Int32) (K : Tr) (R : Tr) (P : Tr) (hR : (R 0 1 = 0 → R 0 2 = -1)) : Ep (fL_X3_readText_L42 x2 K R P) (fun q => (q.2.2.1 0 1 = 0 → q.2.2.1 0 2 = -1)) := by
  unfold fL_X3_readText_L42
  exact ivB_X3_readText_L42 2000 x2 K R P hR
