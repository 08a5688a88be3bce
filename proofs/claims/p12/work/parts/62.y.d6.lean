/-- what a token leaves in both -/
def tkEq (T K1 T1 : Tr) : Prop := K1 0 7 = T1 0 7 ∧ 0 ≤ (T1 0 7).toInt ∧ (T1 0 7).toInt ≤ (T 0 6).toInt ∧ K1 0 2 = T1 0 10 ∧ kI (K1 0 1).toInt (T1 0 8).toInt (T1 0 9).toInt ∧ ((T1 0 8).toInt = 2 → K1 0 3 = T1 0 9) ∧ ((T1 0 8).toInt = 3 → nR (K1 0 3) (T1 0 9))
theorem tape_nn {K T : Tr} (h : kT K T) {n : Nat} (hn : (n : Int) < (T 0 6).toInt) : 0 ≤ (T 1 n).toInt := by
  rw [← h.2.2.2 n hn]; exact (a255 _).1
theorem e_tok1 {K T : Tr} (hC : wC K) (hT : wT T) (h : kT K T) : E2 (fJ_X5_advance_J38 K) (fJ_X8_token_J52 T) (tkEq T) := by
  unfold fJ_X5_advance_J38 fJ_X8_token_J52
  refine E2_ltl (fun K2 e2 => E2_ltr (fun T2 f2 => ?_))
  have b := h.2.2.1
  have k7 : K2 0 7 = K 0 7 := by rw [e2, st_ne (by decide)]
  have k6 : K2 0 6 = K 0 6 := by rw [e2, st_ne (by decide)]
  have k2 : K2 0 2 = K 0 7 := by rw [e2, st_same]
  have k5 : K2 5 = K 5 := by rw [e2]; rfl
  have t7 : T2 0 7 = T 0 7 := by rw [f2, st_ne (by decide)]
  have t6 : T2 0 6 = T 0 6 := by rw [f2, st_ne (by decide)]
  have t10 : T2 0 10 = T 0 7 := by rw [f2, st_same]
  have t1 : T2 1 = T 1 := by rw [f2]; rfl
  have h2 : kT K2 T2 := kT_of h k6 t6 (by rw [k7, t7]; exact h.2.1) (by rw [t7]; exact ⟨b.1, b.2.1⟩) k5 t1
  have hC2 : wC K2 := fun j hj => by rw [e2]; exact hC j hj
  have hT2 : wT T2 := fun j hj => by rw [f2]; exact hT j hj
  have b2 := h2.2.2.1
  by_cases c : (T2 0 6).toInt ≤ (T2 0 7).toInt
  · rw [at_out h2 (by rw [h2.2.1]; exact c)]
    refine E2_sl (E2_ql (by decide) (E2_ltl (fun K3 e3 => E2_pr (Int32.toInt_inj.mp (by omega)) (E2_ltr (fun T3 f3 => E2_some ?_)))))
    refine ⟨by rw [e3, f3, st_ne (by decide), st_ne (by decide), h2.2.1], by rw [f3, st_ne (by decide)]; exact b2.1, by rw [f3, st_ne (by decide), ← t6]; exact b2.2.1, by rw [e3, f3, st_ne (by decide), st_ne (by decide), k2, t10, h.2.1], ?_, fun g => ?_, fun g => ?_⟩
    · rw [e3, f3, st_same, st_same]
      exact Or.inl ⟨by decide, by decide⟩
    · rw [f3, st_same] at g; exact absurd g (by decide)
    · rw [f3, st_same] at g; exact absurd g (by decide)
  · obtain ⟨n, hn⟩ : ∃ n : Nat, (T2 0 7).toInt = n := ⟨(T2 0 7).toInt.toNat, by omega⟩
    have hl : (n : Int) < (T2 0 6).toInt := by omega
    have hK7 : (K2 0 7).toInt = n := by rw [h2.2.1]; exact hn
    have nn := tape_nn h2 hl
    rw [at_in h2 hK7 hl, sm_in h2 hn hl, dg_in h2 hn hl]
    refine E2_sl (E2_pl (Int32.le_iff_toInt_le.mpr (by show (0 : Int) ≤ _; exact nn)) (E2_qr (fun q => c (by rw [q]; exact Int.le_refl _)) ?_))
    rcases sm_val (T2 1 n) with ⟨g, g2⟩ | ⟨g, g2⟩
    · rw [g]
      refine E2_sl (E2_sr (E2_pl rfl (E2_pr rfl ?_)))
      rcases dg_val (T2 1 n) with ⟨g3, g4⟩ | ⟨g3, g4⟩
      · rw [g3]
        refine E2_sl (E2_sr (E2_pl rfl (E2_pr rfl ?_)))
        have hq := q_sign h2 hn hl (c := T2 1 n) rfl rfl
        have hk2 : Ep (lt (st K2 0 7 ((K2 0 7) + 1)) fun K_15 => bd (f_X5_at K_15 (K_15 0 7)) fun r16 => bd (f_X5_sign (T2 1 n) r16) fun r19 => lt (st K_15 0 1 r19) fun K_22 => if (K_22 0 1) = 30 then (fJ_X5_advance_J149  K_22) else (if (K_22 0 1) = 32 then (fJ_X5_advance_J149  K_22) else (if (K_22 0 1) = 33 then (fJ_X5_advance_J149  K_22) else (some K_22)))) (fun q => q 0 2 = K2 0 2) := by
          have h149 : ∀ q : Tr, q 0 2 = K2 0 2 → Ep (fJ_X5_advance_J149 q) (fun q => q 0 2 = K2 0 2) := fun q hq => by
            unfold fJ_X5_advance_J149
            exact Ep_lt (fun z e => Ep_some (by rw [e, st_ne (by decide)]; exact hq))
          refine Ep_lt (fun q3 e3 => Ep_any (fun _ => Ep_any (fun _ => Ep_lt (fun q4 e4 => ?_))))
          have h4 : q4 0 2 = K2 0 2 := by rw [e4, st_ne (by decide), e3, st_ne (by decide)]
          exact Ep_ite (fun _ => h149 _ h4) (fun _ => Ep_ite (fun _ => h149 _ h4) (fun _ => Ep_ite (fun _ => h149 _ h4) (fun _ => Ep_some h4)))
        have hj := E2_and hk2 (e10_sg (T := T2)) hq
        intro K1 T1 x1 x2
        obtain ⟨T3, y1, y2⟩ := tx_bd x2
        have y2 := tx_1 y2
        subst y2
        obtain ⟨⟨r1, r2, r3, r4, r5⟩, r6, r7⟩ := hj K1 T3 x1 y1
        unfold e10 at r7
        exact ⟨r1, by omega, by rw [← t6]; omega, by rw [r6, r7, k2, t10, h.2.1], r2, r3, r4⟩
      · rw [g3]
        refine E2_sl (E2_sr (E2_ql (by decide) (E2_qr (by decide) ?_)))
        unfold f_X5_readNumber fL_X5_readNumber_L5 fL_X8_token_L213
        intro K1 T1 x1 x2
        obtain ⟨K4, z1, z2⟩ := tx_bd x1
        have z2 := tx_1 z2
        subst z2
        obtain ⟨K3, e3, z3⟩ := tx_lt z1
        obtain ⟨T3, f3, x2⟩ := tx_lt x2
        obtain ⟨T4, f4, x2⟩ := tx_lt x2
        have f3 := f3.symm
        have f4 := f4.symm
        have e3 := e3.symm
        have hk : kT K3 T4 := kT_of h2 (by rw [e3, st_ne (by decide)]) (by rw [f4, st_ne (by decide), f3, st_ne (by decide)]) (by rw [e3, st_ne (by decide), f4, st_ne (by decide), f3, st_ne (by decide)]; exact h2.2.1) (by rw [f4, st_ne (by decide), f3, st_ne (by decide)]; exact ⟨b2.1, b2.2.1⟩) (by rw [e3]; rfl) (by rw [f4, f3]; rfl)
        obtain ⟨K5, T5, w1, w2, w3, w4, w5, w6, w7, w8⟩ := num_eq 2000 K3 T4 hk (by rw [e3, f4, st_same, st_same]; exact Or.inl ⟨rfl, by decide, by decide⟩) (by rw [f4, st_ne (by decide), f3, st_same]) (by have := hk.2.2.1; omega)
        rw [z3] at w1
        rw [x2] at w2
        have w1 := tx_1 w1
        have w2 := tx_1 w2
        subst w1
        subst w2
        have b5 := w3.2.2.1
        have s6 : T1 0 6 = T 0 6 := by rw [w8 0 6 (by omega), f4, st_ne (by decide), f3, st_ne (by decide), t6]
        refine ⟨w3.2.1, b5.1, by rw [← s6]; exact b5.2.1, ?_, ?_, fun q => ?_, fun q => w6⟩
        · rw [w7 0 2 (by omega), w8 0 10 (by omega), e3, f4, st_ne (by decide), st_ne (by decide), f3, st_ne (by decide), k2, t10, h.2.1]
        · rw [w4, w5]
          right; right; right; left
          exact ⟨by decide, by decide⟩
        · rw [w5] at q; exact absurd q (by decide)
    · rw [g]
      refine E2_sl (E2_sr (E2_ql (by decide) (E2_qr (by decide) ?_)))
      unfold f_X5_readWord fL_X5_readWord_L2 fL_X8_token_L90
      have hw := e_word 2000 0 0 K2 T2 n hC2 hT2 h2 (by rw [k2, h.2.1, ← t7]; exact hn) (by rw [t10, ← t7]; exact hn) (by rw [hn]; omega) (fun i hi => absurd hi (Nat.not_lt_zero i)) (by show (0 : Int32).toInt = 0; decide) (fun _ => ⟨g2.1, g2.2, hl⟩)
      intro K1 T1 x1 x2
      obtain ⟨K4, z1, z2⟩ := tx_bd x1
      have z2 := tx_1 z2
      subst z2
      obtain ⟨⟨r1, r2, r3⟩, r4, r5, r6, r7, r8⟩ := hw K4 T1 z1 x2
      exact ⟨r4, by omega, by rw [← t6]; exact r6, by rw [r7, r8, k2, t10, h.2.1], r1, r2, r3⟩
theorem e_tok0 (N : Nat) : ∀ (K T : Tr), wC K → wT T → kT K T → E2 (lpF (fun _ => none) fB_X5_advance_L0 N K) (lpF (fun _ => none) fB_X8_token_L0 N T) (tkEq T) := by
  induction N with
  | zero => intro K T _ _ _; exact E2_nl
  | succ N ih =>
    intro K T hC hT h
    show E2 (fB_X5_advance_L0 (lpF (fun _ => none) fB_X5_advance_L0 N) K) (fB_X8_token_L0 (lpF (fun _ => none) fB_X8_token_L0 N) T) _
    generalize lpF (fun _ => none) fB_X5_advance_L0 N = k1 at ih ⊢
    generalize lpF (fun _ => none) fB_X8_token_L0 N = k2 at ih ⊢
    have b := h.2.2.1
    unfold fB_X5_advance_L0 fB_X8_token_L0
    by_cases c : (T 0 6).toInt ≤ (T 0 7).toInt
    · exact E2_pl (by rw [h.1, h.2.1]; exact Int32.le_iff_toInt_le.mpr c) (E2_pr (Int32.le_iff_toInt_le.mpr c) (e_tok1 hC hT h))
    · obtain ⟨n, hn⟩ : ∃ n : Nat, (T 0 7).toInt = n := ⟨(T 0 7).toInt.toNat, by omega⟩
      have hl : (n : Int) < (T 0 6).toInt := by omega
      have hK7 : (K 0 7).toInt = n := by rw [h.2.1]; exact hn
      have hc : (T 0 7).toNatClampNeg = n := by simp only [i_cl]; omega
      refine E2_ql (by rw [h.1, h.2.1]; exact fun q => c (Int32.le_iff_toInt_le.mp q)) (E2_qr (fun q => c (Int32.le_iff_toInt_le.mp q)) ?_)
      rw [at_in h hK7 hl, hc]
      unfold fJ_X8_token_J39
      refine E2_sl (E2_ckr (fun _ => ?_))
      have nxt : E2 (lt (st K 0 7 ((K 0 7) + 1)) fun K_41 => k1 K_41) (lt (st T 0 7 ((T 0 7) + 1)) fun S_45 => k2 S_45) (tkEq T) := by
        refine E2_ltl (fun K2 e2 => E2_ltr (fun T2 f2 => ?_))
        have t6 : T2 0 6 = T 0 6 := by rw [f2, st_ne (by decide)]
        have t7 : (T2 0 7).toInt = n + 1 := by rw [f2, st_same]; exact i_addK hn (by decide) (by omega) (by omega)
        refine E2_mono (ih K2 T2 (fun j hj => by rw [e2]; exact hC j hj) (fun j hj => by rw [f2]; exact hT j hj) (kT_of h (by rw [e2, st_ne (by decide)]) t6 (by rw [e2, f2, st_same, st_same, h.2.1]) ⟨by omega, by omega⟩ (by rw [e2]; rfl) (by rw [f2]; rfl))) (fun K1 T1 q => ?_)
        unfold tkEq at q ⊢
        rw [t6] at q
        exact q
      unfold f_X5_isBlank
      by_cases c1 : T 1 n = 10
      · rw [if_pos c1, if_pos c1]
        exact E2_sl (E2_ql (by decide) nxt)
      · rw [if_neg c1, if_neg c1]
        by_cases c2 : T 1 n = 32
        · rw [if_pos c2, if_pos c2]
          exact E2_sl (E2_ql (by decide) nxt)
        · rw [if_neg c2, if_neg c2]
          exact E2_sl (E2_pl rfl (e_tok1 hC hT h))
theorem e_tok {K T : Tr} (hC : wC K) (hT : wT T) (h : kT K T) : E2 (f_X5_advance K) (f_X8_token T) (fun K1 T1 => tkEq T K1 T1 ∧ frK K K1) := by
  have h1 := e_tok0 2000 K T hC hT h
  exact fun a b e1 e2 => ⟨h1 a b e1 e2, frK_adv a e1⟩
