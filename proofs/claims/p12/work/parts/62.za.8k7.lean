/-! a text read, or not: what is kept -/
def kFT (S S1 : Tr) : Prop := ∀ a j, Wp a j = false → ¬ (a = 0 ∧ j ≤ 11) → S1 a j = S a j
def kTX (S : Tr) (L : Lo) (q : Int32 × Tr × Lo) : Prop := (q.1.toInt < 0 ∧ kFT S q.2.1 ∧ q.2.2 = L) ∨ (0 ≤ q.1.toInt ∧ ∃ z T0, rP 3 z T0 ∧ kFT S T0 ∧ f_X8_keepText T0 L = some q.2)
theorem r_L55b {z : Tr} (L : Lo) (hj : jR z) (N : Nat) : ∀ (x2 : Int32) (T : Tr), 0 ≤ x2.toInt → x2.toInt + (N : Int) ≤ 100000 → rP 3 z T → 40 - mu T < (N : Int) → D (lpF (fun _ _ => none) (fB_X8_text_L55 L) N x2 T) (kTX z L) := by
  induction N with
  | zero => intro x2 T _ _ h hn; have := mu_le h.1; omega
  | succ N ih =>
    intro x2 T h0 h1 h hn
    show D (fB_X8_text_L55 L (lpF (fun _ _ => none) (fB_X8_text_L55 L) N) x2 T) _
    generalize lpF (fun _ _ => none) (fB_X8_text_L55 L) N = k at ih ⊢
    unfold fB_X8_text_L55
    refine D_ite (fun _ => ?_) (fun _ => ?_)
    · unfold fJ_X8_text_J77
      exact D_bd (r_keepText L hj.2.2.2.2.2 h) (fun q e _ => D_some (Or.inr ⟨h0, z, T, h, fun a j g _ => h.2.1 a j g, e⟩))
    · refine D_bd (r_lineRead (rP_self h)) (fun q _ hq => ?_)
      rcases hq with ⟨hz, x, hr⟩ | ⟨hz, hm, hr⟩
      · refine D_ite (fun _ => ?_) (fun c => absurd hz c)
        have hr2 := rP_tr h hr
        exact D_some (Or.inl ⟨(by decide : (-1 : Int32).toInt < 0), fun a j g _ => hr2.2.1 a j g, rfl⟩)
      · refine D_ite (fun c => ?_) (fun _ => D_lt (fun y ey => ?_))
        · exact absurd (c.symm.trans hz) (by decide)
        · have e2 : y.toInt = x2.toInt + 1 := by rw [ey]; exact i_addK rfl (by decide) (by omega) (by omega)
          exact ih y q.2 (by omega) (by omega) (rP_tr h hr) (by omega)
theorem R_text2 (S : Tr) (L : Lo) (x1 : Int32) (h : jX S) : D (f_X8_text S L x1) (kTX S L) := by
  obtain ⟨h, hw⟩ := h
  have g := jR_thr (v := 0) h
  have b1 : 0 ≤ (S 0 1).toInt ∧ (S 0 1).toInt ≤ 700 := h.1 0 1
  unfold f_X8_text
  refine D_lt (fun S1 e1 => ?_)
  rw [← e1] at g
  have hw1 : wK S1 := wK_S (fun j => by rw [e1, st_oth (by decide)]) hw
  have t1 : S1 0 1 = S 0 1 := by rw [e1, st_ne (by decide)]
  have f1 : kFT S S1 := fun a j _ n => by rw [e1, st_no (fun e => n ⟨e.1, by omega⟩)]
  refine D_ite (fun c => ?_) (fun c => ?_)
  · exact D_some (Or.inl ⟨(by decide : (-2 : Int32).toInt < 0), f1, rfl⟩)
  have k := tq_ltn (x := x1) (y := (0 : Int32)) rfl (b := 0) (by decide) c
  refine D_ite (fun c2 => ?_) (fun c2 => ?_)
  rotate_left
  · exact D_some (Or.inl ⟨(by decide : (-2 : Int32).toInt < 0), f1, rfl⟩)
  have k2 := tq_le (x := x1) (y := S1 0 1) rfl rfl c2
  rw [t1] at k2
  refine D_lt (fun S4 e4 => D_lt (fun S5 e5 => D_lt (fun S6 e6 => D_lt (fun S7 e7 => D_lt (fun S8 e8 => ?_)))))
  have i4 : iR BM S4 := by
    rw [e4]; refine iR_set (a := 0) (i := 6) g.1 ?_ ?_
    · show (0 : Int) ≤ _; omega
    · show _ ≤ (700 : Int); omega
  have i5 : iR BM S5 := by rw [e5]; exact iR_set (a := 0) (i := 1) i4 (by decide) (by decide)
  have i6 : iR BM S6 := by rw [e6]; exact iR_setU i5 rfl
  have i7 : iR BM S7 := by rw [e7]; exact iR_setU i6 rfl
  have i8 : iR BM S8 := by rw [e8]; exact iR_set (a := 0) (i := 7) i7 (by decide) (by decide)
  have o8 : ∀ a, ¬ a = 0 → S8 a = S1 a := fun a ha => by rw [e8, st_oth ha, e7, st_oth ha, e6, st_oth ha, e5, st_oth ha, e4, st_oth ha]
  have z8 : ∀ j, 8 ≤ j → S8 0 j = S1 0 j := fun j hj => by rw [e8, st_ne (by omega), e7, st_ne (by omega), e6, st_ne (by omega), e5, st_ne (by omega), e4, st_ne (by omega)]
  have z7 : S8 0 7 = 0 := by rw [e8, st_same]
  have z1 : S8 0 1 = 0 := by rw [e8, st_ne (by decide), e7, st_ne (by decide), e6, st_ne (by decide), e5, st_same]
  have j8 : jR S8 := jR_fr g i8 (fun a n0 _ => o8 a n0) (z8 13 (by decide)) (z8 14 (by decide)) (z8 82 (by decide)) (z8 84 (by decide))
  have w8 : wK S8 := wK_S (fun j => by rw [o8 4 (by decide)]) hw1
  refine D_bd (D_and (t_X8_plain S8 i8) (t2_plain S8)) (fun S9 _ h9 => ?_)
  obtain ⟨⟨i9, a9⟩, y16, y17, y18, y19, y46, y36, y0, yo⟩ := h9
  have b6 : 0 ≤ (S9 0 6).toInt ∧ (S9 0 6).toInt ≤ 700 := i9 0 6
  have l0 : (0 : Int32).toInt = 0 := by decide
  have w9 : wK S9 := wK_S (fun j => by rw [yo 4 (by decide) (by decide) (by decide) (by decide) (by decide) (by decide)]) w8
  refine D_bd (t_X8_token S9 i9 w9 (by rw [y0 7 (by decide), z7, l0]; exact b6.1)) (fun S12 _ h12 => ?_)
  obtain ⟨i12, a12, k12⟩ := h12
  have n12 : ∀ k, nodeOK S12 k := fun k => nodeOK_eq (j8.2.1.1 k) (by rw [a12 39 k rfl, yo 39 (by decide) (by decide) (by decide) (by decide) (by decide) (by decide)]) (by rw [a12 40 k rfl, yo 40 (by decide) (by decide) (by decide) (by decide) (by decide) (by decide)]) (by rw [a12 41 k rfl, yo 41 (by decide) (by decide) (by decide) (by decide) (by decide) (by decide)])
  have aP12 : aP S8 S12 := aP_tr a9 (fun a j hf => aN_K a12 a j (Wn_p hf))
  have j12 : jR S12 := jR_P j8 i12 aP12 n12
  have r12 : rP 3 S12 S12 := by
    refine ⟨i12, aP_rfl, wK_K a12 w9, k12, ⟨fun i _ hl => ?_, fun p _ hl => ?_, n12, fun w hw1 _ hl => ?_, fun _ => ?_⟩, Int.le_refl _⟩
    · rw [a12 0 18 rfl, y18, l0] at hl; omega
    · rw [a12 0 17 rfl, y17, l0] at hl; omega
    · rw [a12 36 _ rfl, y36 w hw1] at hl; exact absurd rfl hl
    · rw [a12 0 19 rfl, a12 0 46 rfl, y19, y46]
  have mu0 : 0 ≤ mu S12 := by
    have f1 := flg_b (S12 22 0)
    have f2 := flg_b (S12 22 1)
    have f3 := flg_b (S12 22 2)
    have f4 := flg_b (S12 36 3)
    have f5 := flg_b (S12 36 4)
    have f6 := flg_b (S12 36 5)
    have b16 : 0 ≤ (S12 0 16).toInt ∧ (S12 0 16).toInt ≤ 5 := i12 0 16
    have b17 : 0 ≤ (S12 0 17).toInt ∧ (S12 0 17).toInt ≤ 6 := i12 0 17
    have b18 : 0 ≤ (S12 0 18).toInt ∧ (S12 0 18).toInt ≤ 10 := i12 0 18
    have b20 : 0 ≤ (S12 0 20).toInt ∧ (S12 0 20).toInt ≤ 10 := i12 0 20
    unfold mu; omega
  have f12 : kFT S S12 := fun a j g n => by
    rw [aP12 a j g]
    by_cases ha : a = 0
    · subst ha
      rw [z8 j (by omega), e1, st_ne (by omega)]
    · rw [o8 a ha, e1, st_oth ha]
  refine D_mono (r_L55b L j12 2000 0 S12 (by decide) (by decide) r12 (by omega)) (fun q hq => ?_)
  rcases hq with ⟨u1, u2, u3⟩ | ⟨u1, z, T0, u2, u3, u4⟩
  · exact Or.inl ⟨u1, fun a j g n => (u2 a j g n).trans (f12 a j g n), u3⟩
  · exact Or.inr ⟨u1, z, T0, u2, fun a j g n => (u3 a j g n).trans (f12 a j g n), u4⟩
/-- class and reference at the end of text -/
def kmQ (pa qa : Nat → Nat) (X Tn C Z : Tr) (q0 q4 : Nat) (L : Lo) (q : Int32 × Tr × Tr × Tr × Tr × Tr × Tr × Tr × Nat × Nat × Nat) (q' : Int32 × Tr × Lo) : Prop := (q'.1.toInt < 0 ∧ q.2.2.2.2.2.2.2.2.1 = q0 ∧ q.2.2.2.2.2.2.2.2.2.1 = q4 ∧ q.2.2.2.2.2.2.2.2.2.2 = qa 0 ∧ q.2.1 = X ∧ q.2.2.2.2.2.1 = Tn ∧ q.2.2.2.2.2.2.1 = C ∧ q.2.2.2.2.2.2.2.1 = Z) ∨ (0 ≤ q'.1.toInt ∧ q.2.2.2.2.2.2.2.2.2.1 = qa 0 ∧ q.2.2.2.2.2.2.2.2.2.2 = q4 ∧ q.2.1 = st X 0 4 0 ∧ q.2.2.2.2.2.2.1 = st C 0 0 0 ∧ f_X4_forget_x pa qa Z = some q.2.2.2.2.2.2.2.1 ∧ f_X6_begin qa Tn q.2.2.2.2.1 q0 = some (q.2.2.2.2.2.1, q.2.2.2.2.2.2.2.2.1) ∧ ∃ T0, f_X8_keepText T0 L = some q'.2 ∧ RD q.2.2.2.1 q.2.2.2.2.1 T0)
theorem e_nmt (pa qa : Nat → Nat) (X K R P2 Tn C Z S : Tr) (L : Lo) (q0 q4 q5 : Nat) (x1 : Int32) (h : relT K S) (hb : 0 ≤ (K 0 0).toInt ∧ (K 0 0).toInt ≤ 700) (h5 : q5 = qa 0) : E2 (f_X7_text pa qa X K R P2 Tn C Z q0 q4 q5 x1) (f_X8_text S L x1) (kmQ pa qa X Tn C Z q0 q4 L) := by
  obtain ⟨⟨t1, t2⟩, hC, hT⟩ := h
  unfold f_X7_text f_X8_text
  refine E2_ltr (fun S1 e1 => ?_)
  have s1 : S1 1 = S 1 := by rw [e1, st_oth (by decide)]
  have s01 : S1 0 1 = K 0 0 := by rw [e1, st_ne (by decide)]; exact t1.symm
  by_cases c : x1 < 0
  · exact E2_pl c (E2_pr c (E2_some (Or.inl ⟨(by decide : (-2 : Int32).toInt < 0), rfl, rfl, h5, rfl, rfl, rfl, rfl⟩)))
  · refine E2_ql c (E2_qr c ?_)
    rw [s01]
    have c0 := tq_ltn (b := 0) rfl (by decide) c
    by_cases d : x1 ≤ K 0 0
    · have d0 := tq_le rfl rfl d
      refine E2_pl d (E2_pr d (E2_ckl (fun _ => E2_ltr (fun S4 f4 => E2_ltr (fun S5 f5 => E2_ltr (fun S6 f6 => E2_ltr (fun S7 f7 => E2_ltr (fun S8 f8 => ?_))))))))
      have o8 : ∀ a, ¬ a = 0 → S8 a = S a := fun a ha => by rw [f8, st_oth ha, f7, st_oth ha, f6, st_oth ha, f5, st_oth ha, f4, st_oth ha, e1, st_oth ha]
      have s6 : S8 0 6 = x1 := by rw [f8, st_ne (by decide), f7, st_ne (by decide), f6, st_ne (by decide), f5, st_ne (by decide), f4, st_same]
      have s7 : S8 0 7 = 0 := by rw [f8, st_same]
      have hT8 : wT S8 := fun j hj => by rw [o8 4 (by decide)]; exact hT j hj
      have z := e_rt (K := K) (R := R) (P := P2) (S8 := S8) (L := L) (x1 := x1) hC hT8 c0 (by omega) s6 s7 (fun j hj => by rw [o8 1 (by decide)]; exact t2 j (by omega))
      intro A B ea eb
      obtain ⟨v, v1, v2⟩ := tx_bd ea
      obtain ⟨r, K5, R6, P7⟩ := v
      have hq := z (r, K5, R6, P7) B v1 eb
      have v2 : (if r = 0 then (some ((-1 : Int32), X, st K5 0 0 0, R6, P7, Tn, C, Z, q0, q4, qa 0)) else (bd (f_X6_begin qa Tn P7 q0) fun q => lt q.1 fun Tn_12 => lt q.2 fun q0_13 => lt (st X 0 4 0) fun X_16 => lt (st C 0 0 0) fun C_17 => bd (f_X4_forget_x pa qa Z) fun Z_18 => some ((R6 0 3), X_16, st K5 0 0 0, R6, P7, Tn_12, C_17, Z_18, q0_13, qa 0, q4))) = some A := v2
      have hq : (r = 0 ∧ B.1 = -1 ∧ flt R6 B.2.1 ∧ frK (st (st K 0 6 x1) 0 7 0) K5) ∨ (r = 1 ∧ ∃ T0, f_X8_keepText T0 L = some B.2 ∧ RD R6 P7 T0 ∧ R6 0 1 = 0 ∧ R6 0 3 = B.1 ∧ 0 ≤ B.1.toInt ∧ frK (st (st K 0 6 x1) 0 7 0) K5) := hq
      rcases hq with ⟨rfl, u1, u2, u3⟩ | ⟨rfl, T0, u1, u2, u3, u4, u5, u6⟩
      · rw [if_pos rfl] at v2
        have v2 := tx_1 v2
        subst v2
        exact Or.inl ⟨by rw [u1]; decide, rfl, rfl, rfl, rfl, rfl, rfl, rfl⟩
      · rw [if_neg (by decide)] at v2
        obtain ⟨w1, w0, w2⟩ := tx_bd v2
        have w2 : bd (f_X4_forget_x pa qa Z) (fun Z_18 => some ((R6 0 3), st X 0 4 0, st K5 0 0 0, R6, P7, w1.1, st C 0 0 0, Z_18, w1.2, qa 0, q4)) = some A := w2
        obtain ⟨w3, w9, w4⟩ := tx_bd w2
        have w4 := tx_1 w4
        subst w4
        exact Or.inr ⟨u5, rfl, rfl, rfl, rfl, w9, w0, T0, u1, u2⟩
    · exact E2_ql d (E2_qr d (E2_some (Or.inl ⟨(by decide : (-2 : Int32).toInt < 0), rfl, rfl, h5, rfl, rfl, rfl, rfl⟩)))
