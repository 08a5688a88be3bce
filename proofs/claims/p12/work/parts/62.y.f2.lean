/-! a line of a place, a line of a person: read by both -/
theorem bd_bd {α β γ : Type} {x : Option α} {f : α → Option β} {g : β → Option γ} : bd (bd x f) g = bd x (fun a => bd (f a) g) := by
  cases x <;> rfl
theorem i_cn {x : Int32} {n : Nat} (h : x.toInt = n) : x.toNatClampNeg = n := by simp only [i_cl]; omega
theorem i_z {x : Int32} {k : Int32} (h : x.toInt = k.toInt) : x = k := Int32.toInt_inj.mp h
theorem n_le {k : Int32} (hk : k.toInt = -1) : ¬ (0 : Int32) ≤ k := fun q => by have := tq_le (a := 0) (by decide) hk q; omega
theorem e_place {K R P T : Tr} (h : tkS K T) (hr : RD R P T) (h0 : R 0 1 = 0) : E2 (f_X3_readPlace K R P) (f_X8_placeLine T) (lnQ K R T) := by
  unfold f_X3_readPlace f_X8_placeLine
  obtain ⟨g1, g2, g3, g4, g5, g6⟩ := hr
  obtain ⟨p1, p2, p3⟩ := g1
  refine E2_ltl (fun y ey => ?_)
  obtain ⟨n, hn⟩ : ∃ n : Nat, (T 0 16).toInt = n := ⟨(T 0 16).toInt.toNat, by omega⟩
  have hy : y.toInt = n := by rw [ey, p1]; exact hn
  by_cases c : n = 5
  · rw [if_pos (show T 0 16 = 5 from i_z (by rw [hn, c]; decide)), if_pos (show 5 ≤ y from Int32.le_iff_toInt_le.mpr (by rw [hy, c]; decide))]
    unfold fJ_X3_readPlace_J19
    rw [ex0, wrE]
    exact E2_p2l (E2_pl rfl (ln_fail h.2.2.2.1 (by decide) frK_r))
  · rw [if_neg (show ¬ T 0 16 = 5 from fun q => c (by rw [q] at hn; have : (5 : Int32).toInt = 5 := by decide
                                                      omega)), if_neg (show ¬ 5 ≤ y from fun q => by have := tq_le (a := 5) (by decide) hy q; omega)]
    unfold fJ_X3_readPlace_J19
    rw [ex1]
    refine E2_p2l (E2_ql (by decide) (E2_bd (e_advS h) (fun K2 T2 h2 => ?_)))
    obtain ⟨k2, k2f, t2f, k2p⟩ := h2
    have kk := k2.2.2.2.2.1
    have kw := k_word kk (a := 8) (b := 12) (by omega) (by omega)
    have nofit : ¬ (8 ≤ (K2 0 1).toInt ∧ (K2 0 1).toInt ≤ 12) → E2 (bd (f_X3_takeWord K2 R (8 : Int32) (12 : Int32)) fun q => lt q.1 fun r11 => lt q.2.1 fun K_12 => lt q.2.2 fun R_13 => if 0 ≤ r11 then (bd (f_X3_takeNumber K_12 R_13 (0 : Int32) (999 : Int32)) fun q => lt q.1 fun r17 => lt q.2.1 fun K_18 => lt q.2.2 fun R_19 => fJ_X3_readPlace_J60  y r11 r17 K_18 R_19 P) else (fJ_X3_readPlace_J60  y r11 (-1) K_12 R_13 P)) (fJ_X8_placeLine_J44 T2) (lnQ K R T) := by
      intro hno
      unfold fJ_X8_placeLine_J44
      rw [tw_no (lo := 8) (hi := 12) hno, wrE]
      refine E2_sl (E2_v3l (E2_ql (by decide) ?_))
      unfold fJ_X3_readPlace_J60
      exact E2_ql (by decide) (ln_fail k2.2.2.2.1 (by decide) k2f)
    by_cases d1 : (T2 0 8).toInt = 1
    · rw [if_pos (show T2 0 8 = 1 from i_z (by rw [d1]; decide))]
      by_cases d2 : (T2 0 9).toInt < 8
      · rw [if_pos (show T2 0 9 < 8 from Int32.lt_iff_toInt_lt.mpr (by show _ < (8 : Int); exact d2))]
        exact nofit (by omega)
      · rw [if_neg (show ¬ T2 0 9 < 8 from fun q => d2 (tq_lt rfl (b := 8) (by decide) q))]
        by_cases d3 : (T2 0 9).toInt ≤ 12
        · rw [if_pos (show T2 0 9 ≤ 12 from Int32.le_iff_toInt_le.mpr (by show _ ≤ (12 : Int); exact d3))]
          have kq := kw.mpr ⟨d1, by omega, d3⟩
          have kv : K2 0 1 = T2 0 9 := i_z (k_weq kk d1 (by omega))
          rw [tw_yes (show (8 : Int32).toInt ≤ _ from kq.1) (show _ ≤ (12 : Int32).toInt from kq.2), bd_bd]
          refine E2_ckr (fun _ => E2_ltr (fun T3 f3 => ?_))
          have t216 : T2 0 16 = T 0 16 := t2f 0 16 (by omega)
          have i5 : ((5 : Int32) + T2 0 16).toInt = 5 + n := by rw [t216]; exact i_addK (by decide) hn (by omega) (by omega)
          have c5 : ((5 : Int32) + T2 0 16).toNatClampNeg = 5 + n := i_cn (by omega)
          rw [c5] at f3
          have k3 : tkS K2 T3 := by rw [f3]; exact tkS_st k2 (by omega)
          refine E2_bd (e_advS k3) (fun K4 T4 h4 => ?_)
          obtain ⟨k4, k4f, t4f, k4p⟩ := h4
          have e8 : (K2 0 1 - 8).toInt = (K2 0 1).toInt - 8 := i_subK rfl (by decide) (by omega) (by omega)
          refine E2_sl (E2_v3l (E2_pl (Int32.le_iff_toInt_le.mpr (by rw [e8]; show (0 : Int) ≤ _; omega)) ?_))
          refine E2_bd (e_nq k4 (lo := 0) (hi := 999) (by decide) (by decide)) (fun q q' hq => ?_)
          obtain ⟨r, K5, R5⟩ := q
          obtain ⟨r', T5⟩ := q'
          refine E2_v3l (E2_v2r ?_)
          unfold fJ_X3_readPlace_J60
          rcases hq with ⟨q1, q2, q3, q4⟩ | ⟨q1, q2, q3, q4, q5, q6, q7, q8, q9⟩
          · have q1 : r = -1 := q1
            have q2 : r' = 0 := q2
            subst q1; subst q2
            exact E2_ql (by decide) (E2_pr rfl (E2_some (Or.inl ⟨rfl, rfl, q3, frK_t (frK_t k2f k4f) q4⟩)))
          · have q1 : r' = 1 := q1
            have q6 : R5 = R := q6
            subst q1; subst q6
            have q2 : 0 ≤ r.toInt := q2
            have q4 : T5 0 11 = r := q4
            have q5 : tkS K5 T5 := q5
            have q8 : frR T4 T5 := q8
            have q9 : (T4 0 7).toInt ≤ (T5 0 10).toInt := q9
            refine E2_pl (Int32.le_iff_toInt_le.mpr (by show (0 : Int) ≤ _; exact q2)) (E2_qr (by decide) (E2_ckl (fun _ => E2_ckr (fun _ => E2_ltl (fun P1 e1 => E2_ltl (fun P2 e2 => E2_ltl (fun P3 e3 => E2_ltr (fun T6 f6 => E2_ltr (fun T7 f7 => E2_some ?_)))))))))
            have yn : y.toNatClampNeg = n := i_cn hy
            rw [yn] at e1 e2
            have t516 : T5 0 16 = T 0 16 := by rw [q8 0 16 (by omega), t4f 0 16 (by omega), f3, st_no (by omega), t216]
            have c6 : ((5 : Int32) + T5 0 16).toNatClampNeg = 5 + n := by rw [t516, ← t216]; exact c5
            rw [c6] at f6
            have fr : ∀ a j, ¬ ((a = 0 ∧ (4 ≤ j ∧ j ≤ 11 ∨ j = 16)) ∨ a = 24 ∨ a = 25) → T7 a j = T a j := fun a j hn => by
              rw [f7, st_no (by omega), f6, st_no (by omega), q8 a j (by omega), t4f a j (by omega), f3, st_no (by omega), t2f a j (by omega)]
            have frP : ∀ a j, ¬ ((a = 0 ∧ j = 0) ∨ a = 8 ∨ a = 9) → P3 a j = P a j := fun a j hn => by
              rw [e3, st_no (by omega), e2, st_no (by omega), e1, st_no (by omega)]
            have s16 : T7 0 16 = T 0 16 + 1 := by rw [f7, st_same, f6, st_no (by omega), t516]
            have s16i : (T7 0 16).toInt = n + 1 := by rw [s16]; exact i_addK hn (by decide) (by omega) (by omega)
            refine Or.inr ⟨rfl, rfl, ?_, ⟨⟨?_, ?_, fun i hi => ?_⟩, ?_, ?_, ?_, ?_, ?_⟩, h0, rfl, frK_t (frK_t k2f k4f) q7, ?_⟩
            · show tkS K5 T7
              rw [f7, f6]; exact tkS_st (tkS_st q5 (by omega)) (by omega)
            · show P3 0 0 = T7 0 16
              rw [s16, e3, st_same, e2, st_no (by omega), e1, st_no (by omega), p1]
            · show 0 ≤ (T7 0 16).toInt ∧ (T7 0 16).toInt ≤ 5
              omega
            · have hi : (i : Int) < (T7 0 16).toInt := hi
              show P3 8 i = T7 24 (5 + i) ∧ P3 9 i = T7 25 (5 + i)
              by_cases e : i = n
              · subst e
                constructor
                · rw [e3, st_no (by omega), e2, st_no (by omega), e1, st_same, f7, st_no (by omega), f6, st_no (by omega), q8 _ _ (by omega), t4f _ _ (by omega), f3, st_same, kv]
                · rw [e3, st_no (by omega), e2, st_same, f7, st_no (by omega), f6, st_same, q4]
              · have p := p3 i (by omega)
                constructor
                · rw [e3, st_no (by omega), e2, st_no (by omega), e1, st_no (by omega), f7, st_no (by omega), f6, st_no (by omega), q8 _ _ (by omega), t4f _ _ (by omega), f3, st_no (by omega), t2f _ _ (by omega)]
                  exact p.1
                · rw [e3, st_no (by omega), e2, st_no (by omega), e1, st_no (by omega), f7, st_no (by omega), f6, st_no (by omega), q8 _ _ (by omega), t4f _ _ (by omega), f3, st_no (by omega), t2f _ _ (by omega)]
                  exact p.2
            · exact rPe_of g2 (fun a j g => frP a j (by omega)) (fun a j g => fr a j (by omega))
            · exact rPi_of g3 (fun a j g => frP a j (by omega)) (fun a j g => fr a j (by omega))
            · exact rW_of g4 rfl (fun j => frP 18 j (by omega)) (fun a j g => fr a j (by omega))
            · exact rO_of g5 rfl (fun j _ _ => frP 0 j (by omega)) (fun a j g => fr a j (by omega))
            · exact rL_of g6 (fun a j g => frP a j (by omega)) (fun a j g => fr a j (by omega))
            · show (T 0 7).toInt ≤ (T7 0 10).toInt
              have x1 := tk_on k2
              have x2 := tk_on k4
              have x3 : T3 0 7 = T2 0 7 := by rw [f3, st_no (by omega)]
              rw [x3] at k4p
              rw [f7, st_no (by omega), f6, st_no (by omega)]
              omega
        · rw [if_neg (show ¬ T2 0 9 ≤ 12 from fun q => d3 (tq_le rfl (b := 12) (by decide) q))]
          exact nofit (by omega)
    · rw [if_neg (show ¬ T2 0 8 = 1 from fun q => d1 (by rw [q]; decide))]
      exact nofit (by omega)
theorem e_find {P T : Tr} (h : rPe P T) {x x' : Int32} (hx : x = x') : E2 (f_X2_personNamed P x) (f_X8_find_26 T 6 (T 0 17) x') (fun r r' => r = r' ∧ (r.toInt = -1 ∨ (0 ≤ r.toInt ∧ r.toInt < (T 0 17).toInt))) := by
  subst hx
  unfold f_X2_personNamed fL_X2_personNamed_L2 f_X8_find_26 fL_X8_find_26_L3
  obtain ⟨p1, p2, p3⟩ := h
  have main : ∀ (N n : Nat) (y : Int32), y.toInt = n → n ≤ 6 → E2 (lpF (fun _ => none) (fB_X2_personNamed_L2 P x) N y) (lpF (fun _ => none) (fB_X8_find_26_L3 T 6 (T 0 17) x) N y) (fun r r' => r = r' ∧ (r.toInt = -1 ∨ (0 ≤ r.toInt ∧ r.toInt < (T 0 17).toInt))) := by
    intro N
    induction N with
    | zero => intro n y _ _; exact E2_nl
    | succ N ih =>
      intro n y hy hn
      show E2 (fB_X2_personNamed_L2 P x (lpF (fun _ => none) (fB_X2_personNamed_L2 P x) N) y) (fB_X8_find_26_L3 T 6 (T 0 17) x (lpF (fun _ => none) (fB_X8_find_26_L3 T 6 (T 0 17) x) N) y) _
      generalize lpF (fun _ => none) (fB_X2_personNamed_L2 P x) N = k1 at ih ⊢
      generalize lpF (fun _ => none) (fB_X8_find_26_L3 T 6 (T 0 17) x) N = k2 at ih ⊢
      unfold fB_X2_personNamed_L2 fB_X8_find_26_L3
      rw [p1]
      by_cases c : T 0 17 ≤ y
      · rw [if_pos c, if_pos c]
        exact E2_some ⟨rfl, Or.inl (by decide)⟩
      · rw [if_neg c, if_neg c]
        have c1 := tq_len rfl hy c
        have e6 : ((6 : Int32) + y).toNatClampNeg = 6 + n := i_cn (by rw [i_addK (x := 6) (y := n) (by decide) hy (by omega) (by omega)]; omega)
        rw [i_cn hy, e6, (p3 n c1).1]
        refine E2_ckl (fun _ => E2_ckr (fun _ => E2_it Iff.rfl (fun _ _ => E2_some ⟨rfl, Or.inr ⟨by omega, by omega⟩⟩) (fun _ _ => E2_ltl (fun z ez => E2_ltr (fun z' ez' => ?_)))))
        rw [ez', ← ez]
        exact ih (n + 1) z (by rw [ez, i_addK hy (y := 1) (by decide) (by omega) (by omega)]; omega) (by omega)
  exact main 2000 0 0 (by decide) (by omega)
