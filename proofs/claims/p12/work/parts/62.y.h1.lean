/-! text and feed: class and reference -/
theorem e_X7text (pa qa : Nat → Nat) (X K R P2 Tn C Z S : Tr) (L : Lo) (q0 q4 q5 : Nat) (x1 : Int32) (h : relT K S) (hb : 0 ≤ (K 0 0).toInt ∧ (K 0 0).toInt ≤ 700) : E2 (f_X7_text pa qa X K R P2 Tn C Z q0 q4 q5 x1) (f_X8_text S L x1) (fun q q' => q.1 = q'.1 ∧ wC q.2.2.1 ∧ (q.2.2.1 0 0 = 0 ∨ (q.2.2.1 = K ∧ q'.2.1 1 = S 1))) := by
  obtain ⟨⟨t1, t2⟩, hC, hT⟩ := h
  unfold f_X7_text f_X8_text
  refine E2_ltr (fun S1 e1 => ?_)
  have s1 : S1 1 = S 1 := by rw [e1, st_oth (by decide)]
  have s01 : S1 0 1 = K 0 0 := by rw [e1, st_ne (by decide)]; exact t1.symm
  by_cases c : x1 < 0
  · exact E2_pl c (E2_pr c (E2_some ⟨rfl, hC, Or.inr ⟨rfl, s1⟩⟩))
  · refine E2_ql c (E2_qr c ?_)
    rw [s01]
    have c0 := tq_ltn (b := 0) rfl (by decide) c
    by_cases d : x1 ≤ K 0 0
    · have d0 := tq_le rfl rfl d
      refine E2_pl d (E2_pr d (E2_ckl (fun _ => E2_ltr (fun S4 f4 => E2_ltr (fun S5 f5 => E2_ltr (fun S6 f6 => E2_ltr (fun S7 f7 => E2_ltr (fun S8 f8 => ?_))))))))
      have o8 : ∀ a, ¬ a = 0 → S8 a = S a := fun a ha => by rw [f8, st_oth ha, f7, st_oth ha, f6, st_oth ha, f5, st_oth ha, f4, st_oth ha, e1, st_oth ha]
      have s6 : S8 0 6 = x1 := by rw [f8, st_ne (by decide), f7, st_ne (by decide), f6, st_ne (by decide), f5, st_ne (by decide), f4, st_same]
      have s7 : S8 0 7 = 0 := by rw [f8, st_same]
      have hT8 : wT S8 := fun j hj => by rw [o8 4 (by decide)]; exact hT j hj
      have z := e_rt (K := K) (R := R) (P := P2) (S8 := S8) (L := L) (x1 := x1) hC hT8 c0 (by omega) s6 s7 (fun j hj => by rw [o8 1 (by decide)]; exact t2 j (by omega))
      intro A B ea eb
      obtain ⟨v, v1, v2⟩ := tx_bd ea
      obtain ⟨r, K5, R6, P7⟩ := v
      have hq := z (r, K5, R6, P7) B v1 eb
      have k6 : ∀ j, (st (st K 0 6 x1) 0 7 0) 6 j = K 6 j := fun j => by rw [st_no (by omega), st_no (by omega)]
      have hC5 : frK (st (st K 0 6 x1) 0 7 0) K5 → wC (st K5 0 0 0) := fun hf j hj => by
        rw [st_no (by omega), hf 6 j (by omega), k6 j]; exact hC j hj
      have v2 : (if r = 0 then (some ((-1 : Int32), X, st K5 0 0 0, R6, P7, Tn, C, Z, q0, q4, qa 0)) else (bd (f_X6_begin qa Tn P7 q0) fun q => lt q.1 fun Tn_12 => lt q.2 fun q0_13 => lt (st X 0 4 0) fun X_16 => lt (st C 0 0 0) fun C_17 => bd (f_X4_forget_x pa qa Z) fun Z_18 => some ((R6 0 3), X_16, st K5 0 0 0, R6, P7, Tn_12, C_17, Z_18, q0_13, qa 0, q4))) = some A := v2
      have hq : (r = 0 ∧ B.1 = -1 ∧ flt R6 B.2.1 ∧ frK (st (st K 0 6 x1) 0 7 0) K5) ∨ (r = 1 ∧ ∃ T0, f_X8_keepText T0 L = some B.2 ∧ RD R6 P7 T0 ∧ R6 0 1 = 0 ∧ R6 0 3 = B.1 ∧ 0 ≤ B.1.toInt ∧ frK (st (st K 0 6 x1) 0 7 0) K5) := hq
      rcases hq with ⟨rfl, u1, u2, u3⟩ | ⟨rfl, T0, u1, u2, u3, u4, u5, u6⟩
      · rw [if_pos rfl] at v2
        have v2 := tx_1 v2
        subst v2
        exact ⟨u1.symm, hC5 u3, Or.inl (by show st K5 0 0 0 0 0 = 0; rw [st_same])⟩
      · rw [if_neg (by decide)] at v2
        obtain ⟨w1, _, w2⟩ := tx_bd v2
        have w2 : bd (f_X4_forget_x pa qa Z) (fun Z_18 => some ((R6 0 3), st X 0 4 0, st K5 0 0 0, R6, P7, w1.1, st C 0 0 0, Z_18, w1.2, qa 0, q4)) = some A := w2
        obtain ⟨w3, _, w4⟩ := tx_bd w2
        have w4 := tx_1 w4
        subst w4
        exact ⟨u4, hC5 u6, Or.inl (by show st K5 0 0 0 0 0 = 0; rw [st_same])⟩
    · exact E2_ql d (E2_qr d (E2_some ⟨rfl, hC, Or.inr ⟨rfl, s1⟩⟩))
theorem e_X7feed (pa qa : Nat → Nat) (K S : Tr) (x1 x2 x3 x4 x5 : Int32) (h : relT K S) (hb : 0 ≤ (K 0 0).toInt ∧ (K 0 0).toInt ≤ 700) : E2 (f_X7_feed pa qa K x1 x2 x3 x4 x5) (f_X8_feed S x1 x2 x3 x4 x5) (fun q q' => wC q.2 ∧ ∀ j : Nat, (j : Int) < (q.2 0 0).toInt → q.2 5 j &&& 255 = q'.2 1 j) := by
  obtain ⟨⟨t1, t2⟩, hC, hT⟩ := h
  obtain ⟨n0, hn0⟩ : ∃ n : Nat, (K 0 0).toInt = n := ⟨(K 0 0).toInt.toNat, by omega⟩
  have f20 : (K 0 0 + 20).toInt = (K 0 0).toInt + 20 := i_addK rfl (by decide) (by omega) (by omega)
  by_cases c : n0 + 20 ≤ 700
  · have hf := e_feed2 pa qa K x1 x2 x3 x4 x5 n0 hn0 c
    unfold f_X8_feed fL_X8_feed_L23
    refine E2_ltr (fun S1 e1 => ?_)
    have s01 : S1 0 1 = K 0 0 := by rw [e1, st_ne (by decide)]; exact t1.symm
    have s1 : S1 1 = S 1 := by rw [e1, st_oth (by decide)]
    rw [s01]
    refine E2_pr (Int32.le_iff_toInt_le.mpr (by rw [f20]; show _ ≤ (700 : Int); omega)) ?_
    refine E2_ep hf (r_g23 S1 x1 x2 x3 x4 x5 n0 (by rw [s01]; exact hn0) c 2000 0 0 S1 (by decide) (by omega) (fun _ _ => rfl) (fun _ _ => rfl) (fun i hi => absurd hi (Nat.not_lt_zero i))) (fun q q' h1 h2 => ?_)
    obtain ⟨a1, a2, a3, a4, a5⟩ := h1
    obtain ⟨b1, b2⟩ := h2
    refine ⟨fun j hj => by rw [a5 6 (by decide) (by decide)]; exact hC j hj, fun j hj => ?_⟩
    by_cases g : j < n0
    · rw [a2 j g, b1 j g, s1]; exact t2 j (by omega)
    · obtain ⟨i, rfl⟩ : ∃ i, j = n0 + i := ⟨j - n0, by omega⟩
      rw [a3 i (by omega), b2 i (by omega)]
  · unfold f_X7_feed f_X8_feed
    refine E2_ltr (fun S1 e1 => ?_)
    have s01 : S1 0 1 = K 0 0 := by rw [e1, st_ne (by decide)]; exact t1.symm
    have s1 : S1 1 = S 1 := by rw [e1, st_oth (by decide)]
    have no : ¬ (K 0 0 + 20) ≤ 700 := fun q => by have := tq_le (b := 700) f20 (by decide) q; omega
    rw [s01]
    refine E2_ql no (E2_qr no (E2_some ⟨hC, fun j hj => ?_⟩))
    show K 5 j &&& 255 = S1 1 j
    rw [s1]; exact t2 j hj
/-- what a call of the reference leaves of tape and words -/
def kpS (S S1 : Tr) : Prop := S1 0 1 = S 0 1 ∧ (∀ j, S1 1 j = S 1 j) ∧ ∀ j, S1 4 j = S 4 j
theorem relT_S {K S S1 : Tr} (h : relT K S) (e : kpS S S1) : relT K S1 := ⟨⟨h.1.1.trans e.1.symm, fun j hj => by rw [e.2.1 j]; exact h.1.2 j hj⟩, h.2.1, fun j hj => by rw [e.2.2 j]; exact h.2.2 j hj⟩
