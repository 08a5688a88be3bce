theorem e_line {K R P T : Tr} (h : tkS K T) (hr : RD R P T) (h0 : R 0 1 = 0) : E2 (f_X3_readLine K R P) (f_X8_lineRead T) (lsQ K R T) := by
  unfold f_X3_readLine f_X8_lineRead
  have kk := h.2.2.2.2.1
  have kw := k_word kk (a := 0) (b := 7) (by omega) (by omega)
  refine E2_ltl (fun y ey => ?_)
  by_cases d : 0 ≤ (K 0 1).toInt ∧ (K 0 1).toInt ≤ 7
  · have d2 := kw.mp d
    have kv := k_weq kk d2.1 (by omega)
    refine E2_pr (i_z (by rw [d2.1]; decide)) (E2_pr (Int32.le_iff_toInt_le.mpr (by show _ ≤ (7 : Int); exact d2.2.2)) (E2_ltr (fun y8 e8 => ?_)))
    have hy : y.toInt = (K 0 1).toInt := by rw [ey]
    have hy8 : y8.toInt = (K 0 1).toInt := by rw [e8, kv]
    by_cases c0 : (K 0 1).toInt = 0
    · have hc := c0
      refine E2_pl (i_z (by rw [hy, hc]; decide)) (E2_pr (i_z (by rw [hy8, hc]; decide)) ?_)
      exact e_ln (P := P) (e_place h hr h0)
    · refine E2_ql (fun q => c0 (by rw [← hy, q]; decide)) (E2_qr (fun q => c0 (by rw [← hy8, q]; decide)) ?_)
      by_cases c1 : (K 0 1).toInt = 1
      · have hc := c1
        refine E2_pl (i_z (by rw [hy, hc]; decide)) (E2_pr (i_z (by rw [hy8, hc]; decide)) ?_)
        exact e_ln (P := P) (e_person h hr h0)
      · refine E2_ql (fun q => c1 (by rw [← hy, q]; decide)) (E2_qr (fun q => c1 (by rw [← hy8, q]; decide)) ?_)
        by_cases c2 : (K 0 1).toInt = 2
        · have hc := c2
          refine E2_pl (i_z (by rw [hy, hc]; decide)) (E2_pr (i_z (by rw [hy8, hc]; decide)) ?_)
          exact e_ln (P := P) (e_piece h hr h0)
        · refine E2_ql (fun q => c2 (by rw [← hy, q]; decide)) (E2_qr (fun q => c2 (by rw [← hy8, q]; decide)) ?_)
          by_cases c3 : (K 0 1).toInt = 3
          · have hc := c3
            refine E2_pl (i_z (by rw [hy, hc]; decide)) (E2_pr (i_z (by rw [hy8, hc]; decide)) ?_)
            exact e_ln (P := P) (e_wait h hr h0)
          · refine E2_ql (fun q => c3 (by rw [← hy, q]; decide)) (E2_qr (fun q => c3 (by rw [← hy8, q]; decide)) ?_)
            by_cases c4 : (K 0 1).toInt = 4
            · have hc := c4
              refine E2_pl (i_z (by rw [hy, hc]; decide)) (E2_pr (i_z (by rw [hy8, hc]; decide)) ?_)
              exact e_rule h hr h0 hc
            · refine E2_ql (fun q => c4 (by rw [← hy, q]; decide)) (E2_qr (fun q => c4 (by rw [← hy8, q]; decide)) ?_)
              by_cases c5 : (K 0 1).toInt = 5
              · have hc := c5
                refine E2_pl (i_z (by rw [hy, hc]; decide)) (E2_pr (i_z (by rw [hy8, hc]; decide)) ?_)
                exact e_curve h hr h0 hc
              · refine E2_ql (fun q => c5 (by rw [← hy, q]; decide)) (E2_qr (fun q => c5 (by rw [← hy8, q]; decide)) ?_)
                by_cases c6 : (K 0 1).toInt = 6
                · have hc := c6
                  refine E2_pl (i_z (by rw [hy, hc]; decide)) (E2_pr (i_z (by rw [hy8, hc]; decide)) ?_)
                  exact e_seed h hr h0 hc
                · refine E2_ql (fun q => c6 (by rw [← hy, q]; decide)) (E2_qr (fun q => c6 (by rw [← hy8, q]; decide)) ?_)
                  have hc : (K 0 1).toInt = 7 := by omega
                  refine E2_pl (i_z (by rw [hy, hc]; decide)) ?_
                  exact e_law h hr h0
  · have no : ∀ i : Int32, 0 ≤ i.toInt → i.toInt ≤ 7 → ¬ y = i := fun i h1 h2 q => d (by rw [← ey, q]; exact ⟨h1, h2⟩)
    refine E2_ql (no 0 (by decide) (by decide)) (E2_ql (no 1 (by decide) (by decide)) (E2_ql (no 2 (by decide) (by decide)) (E2_ql (no 3 (by decide) (by decide)) (E2_ql (no 4 (by decide) (by decide)) (E2_ql (no 5 (by decide) (by decide)) (E2_ql (no 6 (by decide) (by decide)) (E2_ql (no 7 (by decide) (by decide)) ?_)))))))
    have j17 : E2 (bd (f_X3_expect K R (0 : Int32) (1 : Int32)) fun q => lt q.1 fun r66 => lt q.2 fun R_67 => ck (okB r66) (some (r66, K, R_67, P))) (fJ_X8_lineRead_J17 T) (lsQ K R T) := by
      unfold fJ_X8_lineRead_J17
      rw [ex0, wrE]
      exact E2_p2l (E2_ckl (fun _ => E2_some (Or.inl ⟨rfl, rfl, flt_of h.2.2.2.1 (by decide), frK_r⟩)))
    by_cases d1 : T 0 8 = 1
    · refine E2_pr d1 (E2_qr (fun q => ?_) j17)
      have q2 := tq_le (b := 7) rfl (by decide) q
      have d11 : (T 0 8).toInt = 1 := by rw [d1]; decide
      exact d (kw.mpr ⟨d11, by unfold kI at kk; omega, q2⟩)
    · exact E2_qr d1 j17
/-! all lines -/
def txQ (L : Lo) (K : Tr) (q : Int32 × Tr × Tr × Tr) (q' : Int32 × Tr × Lo) : Prop := (q.1 = 0 ∧ q'.1 = -1 ∧ flt q.2.2.1 q'.2.1 ∧ frK K q.2.1) ∨ (q.1 = 1 ∧ ∃ T0, f_X8_keepText T0 L = some q'.2 ∧ RD q.2.2.1 q.2.2.2 T0 ∧ q.2.2.1 0 1 = 0 ∧ q.2.2.1 0 3 = q'.1 ∧ 0 ≤ q'.1.toInt ∧ frK K q.2.1)
theorem tx_mono {L : Lo} {K K0 : Tr} {q : Int32 × Tr × Tr × Tr} {q' : Int32 × Tr × Lo} (hK : frK K0 K) (h : txQ L K q q') : txQ L K0 q q' := by
  rcases h with ⟨a, b, c, d⟩ | ⟨a, T0, b, c, d, e, f, g⟩
  · exact Or.inl ⟨a, b, c, frK_t hK d⟩
  · exact Or.inr ⟨a, T0, b, c, d, e, f, frK_t hK g⟩
theorem tx_stop {L : Lo} {K K0 R P T : Tr} {x : Int32} (hf : flt R T) (hK : frK K0 K) (N : Nat) : E2 (lpF (fun _ _ _ _ => none) fB_X3_readText_L42 N x K R P) (some ((-1 : Int32), T, L)) (txQ L K0) := by
  cases N with
  | zero => exact E2_nl
  | succ N =>
    show E2 (fB_X3_readText_L42 (lpF (fun _ _ _ _ => none) fB_X3_readText_L42 N) x K R P) _ _
    generalize lpF (fun _ _ _ _ => none) fB_X3_readText_L42 N = k
    have j : E2 (fJ_X3_readText_J123 K R P) (some ((-1 : Int32), T, L)) (txQ L K0) := by
      unfold fJ_X3_readText_J123
      exact E2_ql hf.2.2 (E2_some (Or.inl ⟨rfl, rfl, hf, hK⟩))
    unfold fB_X3_readText_L42
    exact E2_itl (fun _ => j) (fun _ => E2_ql hf.2.2 j)
theorem e_text (L : Lo) (N : Nat) : ∀ (x : Int32) (K R P T : Tr), tkS K T → RD R P T → R 0 1 = 0 → R 0 3 = x → 0 ≤ x.toInt → x.toInt ≤ (T 0 10).toInt → E2 (lpF (fun _ _ _ _ => none) fB_X3_readText_L42 N x K R P) (lpF (fun _ _ => none) (fB_X8_text_L55 L) N x T) (txQ L K) := by
  induction N with
  | zero => intro x K R P T _ _ _ _ _ _; exact E2_nl
  | succ N ih =>
    intro x K R P T kt hr h0 h3 x0 x10
    show E2 (fB_X3_readText_L42 (lpF (fun _ _ _ _ => none) fB_X3_readText_L42 N) x K R P) (fB_X8_text_L55 L (lpF (fun _ _ => none) (fB_X8_text_L55 L) N) x T) _
    have stop : ∀ (K1 R1 P1 T1 : Tr) (y : Int32), flt R1 T1 → frK K K1 → E2 (lpF (fun _ _ _ _ => none) fB_X3_readText_L42 N y K1 R1 P1) (some ((-1 : Int32), T1, L)) (txQ L K) := fun K1 R1 P1 T1 y h hk => tx_stop h hk N
    generalize lpF (fun _ _ _ _ => none) fB_X3_readText_L42 N = k1 at ih stop ⊢
    generalize lpF (fun _ _ => none) (fB_X8_text_L55 L) N = k2 at ih ⊢
    have b := kt.1.2.2.1
    have on := tk_on kt
    have ke := k_end kt.2.2.2.2.1
    have ei : (x + 1).toInt = x.toInt + 1 := i_addK rfl (by decide) (by omega) (by omega)
    unfold fB_X3_readText_L42 fB_X8_text_L55
    refine E2_ql (fun q => by have := tq_lt (a := 700) (by decide) rfl q; omega) (E2_pl h0 ?_)
    by_cases c : (T 0 8).toInt = 0
    · refine E2_pl (i_z (by rw [ke.mpr c]; decide)) (E2_pr (i_z (by rw [c]; decide)) ?_)
      unfold fJ_X3_readText_J123 fJ_X8_text_J77
      refine E2_pl h0 ?_
      intro A B e1 e2
      obtain ⟨v, v1, v2⟩ := tx_bd e2
      have e1 := tx_1 e1
      have v2 : some (x, v.1, v.2) = some B := v2
      have v2 := tx_1 v2
      subst e1; subst v2
      exact Or.inr ⟨rfl, T, v1, hr, h0, h3, x0, frK_r⟩
    · refine E2_ql (fun q => c (ke.mp (by rw [q]; decide))) (E2_qr (fun q => c (by rw [q]; decide)) (E2_bd (e_line kt hr h0) (fun q q' hq => ?_)))
      have lt7 : (T 0 10).toInt < (T 0 7).toInt := by
        rcases kt.2.2.2.2.2.2.2.2 with g | g
        · exact absurd (by rw [g.1]; decide) c
        · exact g
      obtain ⟨r, K1, R1, P1⟩ := q
      obtain ⟨r', T1⟩ := q'
      refine E2_v4l (E2_v2r ?_)
      have hq : (r = 0 ∧ r' = 0 ∧ flt R1 T1 ∧ frK K K1) ∨ (r = 1 ∧ ¬ K1 0 1 = 41 ∧ r' = 0 ∧ T1 0 4 = 1 ∧ T1 0 5 = K1 0 2 ∧ frK K K1 ∧ R1 0 1 = 0) ∨ (r = 1 ∧ K1 0 1 = 41 ∧ r' = 1 ∧ ∃ T0, f_X8_token T0 = some T1 ∧ tkS K1 T0 ∧ RD R1 P1 T0 ∧ R1 0 1 = 0 ∧ R1 0 3 = R 0 3 ∧ frK K K1 ∧ (T 0 7).toInt ≤ (T0 0 10).toInt) := hq
      rcases hq with ⟨rfl, rfl, u1, u2⟩ | ⟨rfl, u1, rfl, u2, u3, u4, u5⟩ | ⟨rfl, u1, rfl, T0, u2, u3, u4, u5, u6, u7, u8⟩
      · exact E2_pl rfl (E2_ltl (fun y _ => E2_pr rfl (stop _ _ _ _ _ u1 u2)))
      · refine E2_ql (by decide) (E2_ql u1 (E2_pr rfl ?_))
        unfold fJ_X3_readText_J93
        rw [ex0]
        refine E2_p2l (E2_pl rfl (E2_ltl (fun y _ => stop _ _ _ _ _ ⟨?_, ?_, ?_⟩ u4)))
        · rw [st_no (by omega), st_same]; exact u2.symm
        · rw [st_same]; exact u3.symm
        · rw [st_no (by omega), st_same]; decide
      · refine E2_ql (by decide) (E2_pl u1 (E2_qr (by decide) (E2_ltr (fun y' ey' => ?_))))
        unfold fJ_X3_readText_J93
        rw [ex1]
        refine E2_p2l (E2_ql (by decide) ?_)
        intro A B e1 e2
        obtain ⟨K2, v1, v2⟩ := tx_bd e1
        obtain ⟨kt2, k2f, t2f, k2p⟩ := e_advS u3 K2 T1 v1 u2
        have on0 := tk_on u3
        refine tx_mono (frK_t u7 k2f) (ih (x + 1) K2 (st R1 0 3 (R1 0 3 + 1)) P1 T1 kt2 (RD_of u4 (by rw [st_no (by omega)]) (by rw [st_no (by omega)]) (fun a i hn => t2f a i (by omega))) (by rw [st_no (by omega)]; exact u5) (by rw [st_same, u6, h3]) (by omega) (by omega) A B v2 (by rw [← ey']; exact e2))
