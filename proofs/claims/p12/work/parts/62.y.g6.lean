theorem E2_tr {α β γ : Type} {Q : α → β → Prop} {x : Option α} {y : Option γ} {k : γ → Option β} (h : ∀ a, E2 x (k a) Q) : E2 x (bd y k) Q := E2_br (R := fun _ => True) (fun _ _ => trivial) (fun a _ => h a)
theorem fm_bad {j f : Nat} {K R P T : Tr} {x2 x4 : Int32} (hk : K 0 2 = T 0 10) (r01 : R 0 1 = 0) (hc : ¬ K 0 1 = 41 ∨ ¬ R 0 9 = 0) (N : Nat) : E2 (lpF (fun _ _ _ _ _ _ => none) (fB_X3_readFormula_L17 j) N x2 0 x4 K R P) (some ((0 : Int32), st (st T 0 4 1) 0 5 (T 0 10))) (fmQ j f K R P T) := by
  cases N with
  | zero => exact E2_nl
  | succ N =>
    show E2 (fB_X3_readFormula_L17 j (lpF (fun _ _ _ _ _ _ => none) (fB_X3_readFormula_L17 j) N) x2 0 x4 K R P) _ _
    generalize lpF (fun _ _ _ _ _ _ => none) (fB_X3_readFormula_L17 j) N = k
    have h147 : E2 (fJ_X3_readFormula_J147 j K R P) (some ((0 : Int32), st (st T 0 4 1) 0 5 (T 0 10))) (fmQ j f K R P T) := by
      unfold fJ_X3_readFormula_J147
      refine E2_bl frS_close (fun q hq => ?_)
      obtain ⟨R1, P1⟩ := q
      have hq : ∀ a i, ¬ (a = 0 ∧ i = 8) → R1 a i = R a i := hq
      have q1 : R1 0 1 = 0 := by rw [hq 0 1 (by omega)]; exact r01
      have q9 : R1 0 9 = R 0 9 := hq 0 9 (by omega)
      refine E2_v2l (E2_pl q1 ?_)
      unfold fJ_X3_readFormula_J173
      by_cases c9 : R 0 9 = 0
      · refine E2_pl (by rw [q9]; exact c9) ?_
        rw [ex1]
        refine E2_p2l (E2_ql (by decide) (E2_some (Or.inr (Or.inl ⟨rfl, ?_, rfl, ?_, ?_, frK_r, q1⟩))))
        · rcases hc with g | g
          · exact g
          · exact absurd c9 g
        · show st (st T 0 4 1) 0 5 (T 0 10) 0 4 = 1
          rw [st_no (by omega), st_same]
        · show st (st T 0 4 1) 0 5 (T 0 10) 0 5 = K 0 2
          rw [st_same]; exact hk.symm
      · refine E2_ql (by rw [q9]; exact c9) ?_
        rw [ex0]
        exact E2_p2l (E2_pl rfl (E2_some (Or.inl ⟨rfl, rfl, flt_of hk (by decide), frK_r⟩)))
    unfold fB_X3_readFormula_L17
    exact E2_itl (fun _ => h147) (fun _ => E2_pl rfl h147)
theorem fm_exit {j f n s : Nat} {K R P T : Tr} {x2 x4 : Int32} (hj : j < 3) (kt : tkS K T) (G : qC j f 1 0 n s R P T) (r01 : R 0 1 = 0) (hc : K 0 1 = 41) (hb : (T 0 45).toInt = 0) (N : Nat) : E2 (lpF (fun _ _ _ _ _ _ => none) (fB_X3_readFormula_L17 j) N x2 0 x4 K R P) (fJ_X8_sumRead_J74 T) (fmQ j f K R P T) := by
  cases N with
  | zero => exact E2_nl
  | succ N =>
    show E2 (fB_X3_readFormula_L17 j (lpF (fun _ _ _ _ _ _ => none) (fB_X3_readFormula_L17 j) N) x2 0 x4 K R P) _ _
    generalize lpF (fun _ _ _ _ _ _ => none) (fB_X3_readFormula_L17 j) N = k
    have h147 : E2 (fJ_X3_readFormula_J147 j K R P) (fJ_X8_sumRead_J74 T) (fmQ j f K R P T) := by
      unfold fJ_X3_readFormula_J147 fJ_X8_sumRead_J74
      refine E2_bd (e_closeF (x2 := 1) hj (by decide) G) (fun q T1 hq => ?_)
      obtain ⟨R1, P1⟩ := q
      have hq : clQ j f 1 0 n s 1 R P T R1 P1 T1 := hq
      have k1 := cl_tk hq kt
      have F1 := cl_F hq
      obtain ⟨n1, s1, v1, v2, v3, v4, v5, v6, v7, v8⟩ := hq
      have q1 : R1 0 1 = 0 := by rw [v6 0 1 (by omega)]; exact r01
      have q9 : R1 0 9 = 0 := by
        rw [v6 0 9 (by omega), G.1.2.1]
        exact i_z (by rw [hb]; decide)
      have n0 : n1 = 0 := by
        rcases v4 with g | ⟨m, g1, g2⟩
        · exact g
        · exfalso
          have hz := rk_0 (v1.1.1.2.2.2 m (by omega)) (by rw [v8 42 m (by omega)]; exact g2)
          have h6 := v1.1.2.2.1
          rw [g1, zc_z hz, v8 0 45 (by omega), hb] at h6
          omega
      subst n0
      refine E2_v2l (E2_pl q1 (E2_pl q9 ?_))
      unfold fJ_X3_readFormula_J173
      rw [ex1]
      refine E2_p2l (E2_ql (by decide) (E2_some (Or.inr (Or.inr ⟨rfl, hc, rfl, k1, ⟨s1, v1⟩, q1, frK_r, F1, ?_⟩))))
      show (T 0 10).toInt ≤ (T1 0 10).toInt
      rw [v8 0 10 (by omega)]; exact Int.le_refl _
    unfold fB_X3_readFormula_L17
    exact E2_itl (fun _ => h147) (fun _ => E2_pl rfl h147)
theorem r_noj {T : Tr} {c : Int} (h : kI c (T 0 8).toInt (T 0 9).toInt) (hJ : ¬ isJ c) (hb : ¬ c = 40 ∨ (T 0 45).toInt ≤ 0) : f_X8_signs T = some (0, st (st T 0 4 1) 0 5 (T 0 10)) := by
  obtain ⟨v, ev, hv⟩ := r_sign h
  have hv : v = 0 := by
    rcases hv with ⟨g, _⟩ | ⟨_, g⟩
    · exact absurd g hJ
    · exact g
  have e : fJ_X8_signs_J47 T = some (0, st (st T 0 4 1) 0 5 (T 0 10)) := by
    rw [ev, hv]
    unfold fJ_X8_signs_J147
    rw [if_pos rfl, wrE]
  unfold f_X8_signs
  by_cases c40 : (T 0 8).toInt = 4 ∧ (T 0 9).toInt = 41
  · have : c = 40 := by unfold kI at h; omega
    have hb : (T 0 45).toInt ≤ 0 := by
      rcases hb with g | g
      · exact absurd this g
      · exact g
    rw [is_sg.1 ⟨c40.1, by rw [c40.2]; decide⟩]
    show (if (T 0 45) ≤ 0 then (fJ_X8_signs_J47 T) else _) = _
    rw [if_pos (Int32.le_iff_toInt_le.mpr (by show _ ≤ (0 : Int); exact hb)), e]
  · rw [is_sg.2 (fun q => c40 ⟨q.1, by rw [q.2]; decide⟩)]
    show fJ_X8_signs_J47 T = _
    exact e
theorem e_fm {j f : Nat} (hj : j < 3) (N : Nat) : ∀ (w x4 : Int32) (K R P T : Tr), fmS j f w K R P T → (w = 0 ∨ w = 1) → 0 ≤ x4.toInt → x4.toInt ≤ (T 0 10).toInt → E2 (lpF (fun _ _ _ _ _ _ => none) (fB_X3_readFormula_L17 j) N w 1 x4 K R P) (lpF (fun _ => none) fB_X8_sumRead_L25 N T) (fmQ j f K R P T) := by
  induction N with
  | zero => intro w x4 K R P T _ _ _ _; exact E2_nl
  | succ N ih =>
    intro w x4 K R P T F hw h0 h4
    show E2 (fB_X3_readFormula_L17 j (lpF (fun _ _ _ _ _ _ => none) (fB_X3_readFormula_L17 j) N) w 1 x4 K R P) (fB_X8_sumRead_L25 (lpF (fun _ => none) fB_X8_sumRead_L25 N) T) _
    have stop : ∀ (R1 P1 T1 : Tr) (x y : Int32), flt R1 T1 → E2 (lpF (fun _ _ _ _ _ _ => none) (fB_X3_readFormula_L17 j) N x 0 y K R1 P1) (some ((0 : Int32), T1)) (fmQ j f K R P T) := fun R1 P1 T1 x y h => fm_stop h frK_r N
    have bad : ∀ (x y : Int32), (¬ K 0 1 = 41 ∨ ¬ R 0 9 = 0) → E2 (lpF (fun _ _ _ _ _ _ => none) (fB_X3_readFormula_L17 j) N x 0 y K R P) (some ((0 : Int32), st (st T 0 4 1) 0 5 (T 0 10))) (fmQ j f K R P T) := fun x y h => fm_bad F.1.2.2.2.1 F.2.2.2 h N
    have exit : ∀ (n s : Nat) (x y : Int32), qC j f 1 0 n s R P T → K 0 1 = 41 → (T 0 45).toInt = 0 → E2 (lpF (fun _ _ _ _ _ _ => none) (fB_X3_readFormula_L17 j) N x 0 y K R P) (fJ_X8_sumRead_J74 T) (fmQ j f K R P T) := fun n s x y g hc hb => fm_exit hj F.1 g F.2.2.2 hc hb N
    generalize lpF (fun _ _ _ _ _ _ => none) (fB_X3_readFormula_L17 j) N = k1 at ih stop bad exit ⊢
    generalize lpF (fun _ => none) fB_X8_sumRead_L25 N = k2 at ih ⊢
    have kt := F.1
    have kk := kt.2.2.2.2.1
    have bd7 := kt.1.2.2.1
    have on := tk_on kt
    have ei : (x4 + 1).toInt = x4.toInt + 1 := i_addK rfl (by decide) (by omega) (by omega)
    have step : ∀ (x : Option (Int32 × Tr × Tr)) (y : Option (Int32 × Tr)) (w' : Int32), (w' = 0 ∨ w' = 1) → E2 x y (opQ j f w' K R P T) → E2 (bd x fun q => lt q.1 fun r40 => lt q.2.1 fun R_41 => lt q.2.2 fun P_42 => fJ_X3_readFormula_J130 k1 j w' r40 x4 K R_41 P_42) (bd y fun q => lt q.1 fun r16 => lt q.2 fun S_17 => if r16 = 0 then (some ((0 : Int32), S_17)) else (k2 S_17)) (fmQ j f K R P T) := by
      intro x y w' hw' hxy
      refine E2_bd hxy (fun q q' hq => ?_)
      obtain ⟨r, R1, P1⟩ := q
      obtain ⟨r', T2⟩ := q'
      have hq : (r = 0 ∧ r' = 0 ∧ flt R1 T2) ∨ (r = 1 ∧ r' = 1 ∧ ¬ (K 0 1).toInt = 45 ∧ ∃ T1, f_X8_token T1 = some T2 ∧ fmS j f w' K R1 P1 T1 ∧ qF j f R P T R1 P1 T1) := hq
      refine E2_v3l (E2_v2r ?_)
      unfold fJ_X3_readFormula_J130
      rcases hq with ⟨rfl, rfl, hf⟩ | ⟨rfl, rfl, h45, T1, t1, F1, Q1⟩
      · exact E2_pl rfl (E2_ltl (fun z _ => E2_pr rfl (stop _ _ _ _ _ hf)))
      · refine E2_ql (by decide) (E2_qr (by decide) ?_)
        intro A B e1 e2
        obtain ⟨K2, x1, x2⟩ := tx_bd e1
        obtain ⟨kt2, k2f, t2f, k2p⟩ := e_advS F1.1 K2 T2 x1 t1
        obtain ⟨kt1, ⟨e, n, s, he, G, M⟩, w47, r01⟩ := F1
        have t10 : T1 0 10 = T 0 10 := by rw [← kt1.2.2.2.1, ← kt.2.2.2.1]
        have n8 : ¬ T1 0 8 = 0 := fun q => h45 ((k_end kt1.2.2.2.2.1).mpr (by rw [q]; decide))
        have lt7 : (T1 0 10).toInt < (T1 0 7).toInt := by
          rcases kt1.2.2.2.2.2.2.2.2 with g | g
          · exact absurd g.1 n8
          · exact g
        have F2 : fmS j f w' K2 R1 P1 T2 := ⟨kt2, ⟨e, n, s, he, qC_of G (fun a i g => t2f a i (by omega)), fun g => by rw [t2f 0 48 (by omega), show T2 42 = T1 42 from funext fun i => t2f 42 i (by omega)]; exact M g⟩, by rw [t2f 0 47 (by omega)]; exact w47, r01⟩
        have Q2 : qF j f R P T R1 P1 T2 := qF_t Q1 ⟨fun _ _ _ => rfl, fun _ _ _ => rfl, fun a i g => t2f a i (by omega)⟩
        rw [t10] at lt7
        exact fm_mono k2f Q2 (by omega) (ih w' (x4 + 1) K2 R1 P1 T2 F2 hw' (by omega) (by omega) A B x2 e2)
    unfold fB_X3_readFormula_L17 fB_X8_sumRead_L25
    refine E2_ql (fun q => by have := tq_lt (a := 700) (by decide) rfl q; omega) (E2_ql (by decide) ?_)
    rcases hw with rfl | rfl
    · refine E2_pl rfl ?_
      have w47 := F.2.2.1
      have X : ∀ z : Option (Int32 × Tr × Tr × Tr), E2 z (bd (f_X8_signs T) fun q => lt q.1 fun r11 => lt q.2 fun S_12 => if r11 = 0 then (some ((0 : Int32), S_12)) else (k2 S_12)) (fmQ j f K R P T) → E2 z (fJ_X8_sumRead_J48 k2 T) (fmQ j f K R P T) := fun z hz => by
        unfold fJ_X8_sumRead_J48
        exact E2_pr w47 hz
      have nosemi : ¬ (K 0 1).toInt = 41 → f_X8_isSign T (59 : Int32) = some 0 := fun h => is_sg.2 (fun q => h ((k_semi kk).mpr ⟨q.1, by rw [q.2]; decide⟩))
      by_cases hJ : isJ (K 0 1).toInt
      · rw [c_join.1 hJ, nosemi (by unfold isJ at hJ; omega)]
        exact E2_sl (E2_ql (by decide) (E2_sr (E2_pr rfl (X _ (step _ _ 1 (Or.inr rfl) (e_joins hj F hJ))))))
      · rw [c_join.2 hJ]
        refine E2_sl (E2_pl rfl ?_)
        have s5 := F.2.1
        obtain ⟨e, n, s, he, G, M⟩ := s5
        have he1 : e = 1 := by
          rcases he with ⟨_, g⟩ | ⟨g, _⟩
          · exact g
          · exact absurd g (by decide)
        subst he1
        have r9 := G.1.2.1
        have z45 := G.1.2.2.1
        by_cases c40 : (K 0 1).toInt = 40 ∧ ¬ (R 0 9).toInt ≤ 0
        · rw [nosemi (by omega)]
          refine E2_pl (i_z (by rw [c40.1]; decide)) (E2_ql (fun q => c40.2 (by have := tq_le (b := 0) rfl (by decide) q; exact this)) (E2_sr (E2_pr rfl (X _ ?_))))
          have z := step _ _ 0 (Or.inl rfl) (e_brk hj F c40.1 c40.2)
          rw [bd_bd] at z
          unfold fJ_X3_readFormula_J120
          exact E2_ql (by decide) z
        · have cls : E2 (fJ_X3_readFormula_J119 k1 j 0 x4 K R P) (bd (f_X8_isSign T (59 : Int32)) fun r6 => if r6 = 0 then (fJ_X8_sumRead_J48 k2 T) else (if (T 0 47) = 0 then (if (T 0 45) ≤ 0 then (fJ_X8_sumRead_J74 T) else (fJ_X8_sumRead_J48 k2 T)) else (fJ_X8_sumRead_J48 k2 T))) (fmQ j f K R P T) := by
            unfold fJ_X3_readFormula_J119 fJ_X3_readFormula_J120 fJ_X3_readFormula_J130
            refine E2_pl rfl (E2_pl rfl (E2_ltl (fun y24 _ => ?_)))
            have nb : ¬ (K 0 1).toInt = 40 ∨ (T 0 45).toInt ≤ 0 := by
              by_cases g : (K 0 1).toInt = 40
              · right
                by_cases g2 : (R 0 9).toInt ≤ 0
                · rw [r9] at g2; exact g2
                · exact absurd ⟨g, g2⟩ c40
              · exact Or.inl g
            have no := r_noj kk hJ nb
            by_cases c41 : (K 0 1).toInt = 41
            · have e41 : K 0 1 = 41 := i_z (by rw [c41]; decide)
              have k41 := (k_semi kk).mp c41
              rw [is_sg.1 ⟨k41.1, by rw [k41.2]; decide⟩]
              refine E2_sr (E2_qr (by decide) (E2_pr w47 ?_))
              by_cases cb : (T 0 45).toInt ≤ 0
              · exact E2_pr (Int32.le_iff_toInt_le.mpr (by show _ ≤ (0 : Int); exact cb)) (exit n s _ _ G e41 (by omega))
              · refine E2_qr (fun q => cb (by have := tq_le (b := 0) rfl (by decide) q; exact this)) (X _ ?_)
                rw [no]
                exact E2_p2r (E2_pr rfl (bad _ _ (Or.inr (fun q => cb (by rw [← r9, q]; decide)))))
            · rw [nosemi c41]
              refine E2_sr (E2_pr rfl (X _ ?_))
              rw [no]
              exact E2_p2r (E2_pr rfl (bad _ _ (Or.inl (fun q => c41 (by rw [q]; decide)))))
          by_cases g40 : K 0 1 = 40
          · refine E2_pl g40 (E2_pl (Int32.le_iff_toInt_le.mpr ?_) cls)
            by_cases g2 : (R 0 9).toInt ≤ 0
            · show _ ≤ (0 : Int); exact g2
            · exact absurd ⟨by rw [g40]; decide, g2⟩ c40
          · exact E2_ql g40 cls
    · refine E2_ql (by decide) ?_
      have w47 := F.2.2.1
      have X : ∀ z : Option (Int32 × Tr × Tr × Tr), E2 z (bd (f_X8_leafRead T) fun q => lt q.1 fun r16 => lt q.2 fun S_17 => if r16 = 0 then (some ((0 : Int32), S_17)) else (k2 S_17)) (fmQ j f K R P T) → E2 z (bd (f_X8_isSign T (59 : Int32)) fun r6 => if r6 = 0 then (fJ_X8_sumRead_J48 k2 T) else (if (T 0 47) = 0 then (if (T 0 45) ≤ 0 then (fJ_X8_sumRead_J74 T) else (fJ_X8_sumRead_J48 k2 T)) else (fJ_X8_sumRead_J48 k2 T))) (fmQ j f K R P T) := fun z hz => by
        have n47 : ¬ T 0 47 = 0 := by rw [w47]; decide
        have hz2 : E2 z (fJ_X8_sumRead_J48 k2 T) (fmQ j f K R P T) := by
          unfold fJ_X8_sumRead_J48
          exact E2_qr n47 hz
        exact E2_tr (fun r6 => E2_itr (fun _ => hz2) (fun _ => E2_qr n47 hz2))
      refine X _ ?_
      unfold fJ_X3_readFormula_J57 fJ_X3_readFormula_J62
      by_cases c39 : (K 0 1).toInt = 39
      · exact E2_pl (i_z (by rw [c39]; decide)) (step _ _ 1 (Or.inr rfl) (e_op1 hj F c39))
      · refine E2_ql (fun q => c39 (by rw [q]; decide)) ?_
        by_cases c21 : (K 0 1).toInt = 21
        · exact E2_pl (i_z (by rw [c21]; decide)) (step _ _ 1 (Or.inr rfl) (e_op2 hj F c21))
        · exact E2_ql (fun q => c21 (by rw [q]; decide)) (step _ _ 0 (Or.inl rfl) (e_op3 hj F c39 c21))
