/-! faults alike -/
def flR (R S : Tr) : Prop := R 0 1 = S 0 4 ∧ R 0 2 = S 0 5
theorem fk_tx {S0 : Tr} (L : Lo) (N : Nat) : ∀ (x2 : Int32) (T : Tr), fk S0 T → Ep (lpF (fun _ _ => none) (fB_X8_text_L55 L) N x2 T) (fun q => ¬ q.1 = -1 → fk S0 q.2.1) := by
  induction N with
  | zero => intro x2 T _; exact Ep_none
  | succ N ih =>
    intro x2 T h
    show Ep (fB_X8_text_L55 L (lpF (fun _ _ => none) (fB_X8_text_L55 L) N) x2 T) _
    generalize lpF (fun _ _ => none) (fB_X8_text_L55 L) N = k at ih ⊢
    unfold fB_X8_text_L55 fJ_X8_text_J77
    refine Ep_ite (fun _ => Ep_bd (fz_X8_keepText T L h) (fun q hq => Ep_some (fun _ => hq))) (fun _ => Ep_bd (fk_line h) (fun q hq => Ep_lt (fun r20 e20 => Ep_lt (fun T1 e1 => Ep_ite (fun _ => Ep_some (fun h9 => absurd rfl h9)) (fun c => Ep_lt (fun y _ => ih y T1 ?_))))))
    have e20 : r20 = q.1 := e20
    have e1 : T1 = q.2 := e1
    rw [e1]; exact hq (by rw [← e20]; exact c)
theorem fk_txt (S8 : Tr) (L : Lo) : Ep (bd (f_X8_plain S8) fun S_9 => bd (f_X8_token S_9) fun S_12 => fL_X8_text_L55 L 0 S_12) (fun q => ¬ q.1 = -1 → fk S8 q.2.1) := Ep_bd (e_plain S8) (fun T hT => Ep_bd (fk_tok (S := S8) (T := T) ⟨hT.2.2.2 0 4 (by omega), hT.2.2.2 0 5 (by omega)⟩) (fun T1 h1 => fk_tx L 2000 0 T1 h1))
theorem iv_txt (K R P : Tr) (x : Int32) : Ep (f_X3_readText K R P x) (fun q => q.2.2.1 0 1 = 0 → q.2.2.1 0 2 = -1) := by
  unfold f_X3_readText
  refine Ep_any (fun P1 => Ep_lt (fun R4 r4 => Ep_lt (fun R5 r5 => Ep_lt (fun R6 r6 => Ep_lt (fun R7 r7 => Ep_lt (fun R8 r8 => Ep_any (fun K1 => ?_)))))))
  refine ivL_X3_readText_L42 0 K1 R8 P1 (fun _ => ?_)
  rw [r8, st_ne (by decide), r7, st_ne (by decide), r6, st_ne (by decide), r5, st_same]
theorem e_flt (pa qa : Nat → Nat) (X K R P2 Tn C Z S : Tr) (L : Lo) (q0 q4 q5 : Nat) (x1 : Int32) (h : relT K S) (hb : 0 ≤ (K 0 0).toInt ∧ (K 0 0).toInt ≤ 700) (hf : flR R S) : E2 (f_X7_text pa qa X K R P2 Tn C Z q0 q4 q5 x1) (f_X8_text S L x1) (fun q q' => flR q.2.2.2.1 q'.2.1) := by
  obtain ⟨⟨t1, t2⟩, hC, hT⟩ := h
  unfold f_X7_text f_X8_text
  refine E2_ltr (fun S1 e1 => ?_)
  have s1 : S1 1 = S 1 := by rw [e1, st_oth (by decide)]
  have s01 : S1 0 1 = K 0 0 := by rw [e1, st_ne (by decide)]; exact t1.symm
  have f1 : flR R S1 := ⟨by rw [e1, st_ne (by decide)]; exact hf.1, by rw [e1, st_ne (by decide)]; exact hf.2⟩
  by_cases c : x1 < 0
  · exact E2_pl c (E2_pr c (E2_some f1))
  · refine E2_ql c (E2_qr c ?_)
    rw [s01]
    have c0 := tq_ltn (b := 0) rfl (by decide) c
    by_cases d : x1 ≤ K 0 0
    · have d0 := tq_le rfl rfl d
      refine E2_pl d (E2_pr d (E2_ckl (fun _ => E2_ltr (fun S4 f4 => E2_ltr (fun S5 f5 => E2_ltr (fun S6 f6 => E2_ltr (fun S7 f7 => E2_ltr (fun S8 f8 => ?_))))))))
      have o8 : ∀ a, ¬ a = 0 → S8 a = S a := fun a ha => by rw [f8, st_oth ha, f7, st_oth ha, f6, st_oth ha, f5, st_oth ha, f4, st_oth ha, e1, st_oth ha]
      have s6 : S8 0 6 = x1 := by rw [f8, st_ne (by decide), f7, st_ne (by decide), f6, st_ne (by decide), f5, st_ne (by decide), f4, st_same]
      have s7 : S8 0 7 = 0 := by rw [f8, st_same]
      have s4 : S8 0 4 = 0 := by rw [f8, st_ne (by decide), f7, st_ne (by decide), f6, st_same]
      have s5 : S8 0 5 = -1 := by rw [f8, st_ne (by decide), f7, st_same]
      have hT8 : wT S8 := fun j hj => by rw [o8 4 (by decide)]; exact hT j hj
      have z := e_rt (K := K) (R := R) (P := P2) (S8 := S8) (L := L) (x1 := x1) hC hT8 c0 (by omega) s6 s7 (fun j hj => by rw [o8 1 (by decide)]; exact t2 j (by omega))
      intro A B ea eb
      obtain ⟨v, v1, v2⟩ := tx_bd ea
      have hi := iv_txt K R P2 x1 v v1
      obtain ⟨r, K5, R6, P7⟩ := v
      have hiR : R6 0 1 = 0 → R6 0 2 = -1 := hi
      have hq := z (r, K5, R6, P7) B v1 eb
      have hk := fk_txt S8 L B eb
      have v2 : (if r = 0 then (some ((-1 : Int32), X, st K5 0 0 0, R6, P7, Tn, C, Z, q0, q4, qa 0)) else (bd (f_X6_begin qa Tn P7 q0) fun q => lt q.1 fun Tn_12 => lt q.2 fun q0_13 => lt (st X 0 4 0) fun X_16 => lt (st C 0 0 0) fun C_17 => bd (f_X4_forget_x pa qa Z) fun Z_18 => some ((R6 0 3), X_16, st K5 0 0 0, R6, P7, Tn_12, C_17, Z_18, q0_13, qa 0, q4))) = some A := v2
      have hq : (r = 0 ∧ B.1 = -1 ∧ flt R6 B.2.1 ∧ frK (st (st K 0 6 x1) 0 7 0) K5) ∨ (r = 1 ∧ ∃ T0, f_X8_keepText T0 L = some B.2 ∧ RD R6 P7 T0 ∧ R6 0 1 = 0 ∧ R6 0 3 = B.1 ∧ 0 ≤ B.1.toInt ∧ frK (st (st K 0 6 x1) 0 7 0) K5) := hq
      rcases hq with ⟨rfl, u1, u2, u3⟩ | ⟨rfl, T0, u1, u2, u3, u4, u5, u6⟩
      · rw [if_pos rfl] at v2
        have v2 := tx_1 v2
        subst v2
        exact ⟨u2.1, u2.2.1⟩
      · rw [if_neg (by decide)] at v2
        obtain ⟨w1, _, w2⟩ := tx_bd v2
        have w2 : bd (f_X4_forget_x pa qa Z) (fun Z_18 => some ((R6 0 3), st X 0 4 0, st K5 0 0 0, R6, P7, w1.1, st C 0 0 0, Z_18, w1.2, qa 0, q4)) = some A := w2
        obtain ⟨w3, _, w4⟩ := tx_bd w2
        have w4 := tx_1 w4
        subst w4
        have hk := hk (fun e => by rw [e] at u5; exact absurd u5 (by decide))
        exact ⟨by show R6 0 1 = B.2.1 0 4; rw [u3, hk.1, s4], by show R6 0 2 = B.2.1 0 5; rw [hiR u3, hk.2, s5]⟩
    · exact E2_ql d (E2_qr d (E2_some f1))
