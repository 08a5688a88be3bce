/-! what has been seen: class and reference -/
def zR (Z S : Tr) : Prop := Z 0 0 = S 0 78 ∧ Z 0 1 = S 0 79 ∧ ∀ k : Nat, (k : Int) < (S 0 78).toInt → Z 3 k = S 81 (4 * k) ∧ Z 4 k = S 81 (4 * k + 1) ∧ Z 5 k = S 81 (4 * k + 2) ∧ Z 6 k = S 81 (4 * k + 3)
theorem zR_f {Z S S1 : Tr} (h : zR Z S) (f : zk S S1) : zR Z S1 := by
  have e78 := f 0 78 (Or.inr ⟨rfl, Or.inl rfl⟩)
  have e79 := f 0 79 (Or.inr ⟨rfl, Or.inr rfl⟩)
  refine ⟨h.1.trans e78.symm, h.2.1.trans e79.symm, fun k hk => ?_⟩
  rw [e78] at hk
  rw [f 81 (4 * k) (Or.inl rfl), f 81 (4 * k + 1) (Or.inl rfl), f 81 (4 * k + 2) (Or.inl rfl), f 81 (4 * k + 3) (Or.inl rfl)]
  exact h.2.2 k hk
theorem i_ext {x y : Int32} (h : x.toInt = y.toInt) : x = y := Int32.toInt_inj.mp h
theorem zfull {S : Tr} (hc : S 0 78 = 24) : (S 0 78).toInt = 24 := by rw [hc]; decide
theorem e_add (pa qa : Nat → Nat) {Z S : Tr} (h : zR Z S) (b : 0 ≤ (S 0 78).toInt ∧ (S 0 78).toInt ≤ 24) (hc : ¬ S 0 78 = 24) (x1 x2 x3 x4 : Int32) : E2 (f_X4_add_x pa qa Z x1 x2 x3 x4) (f_X8_noted S x1 x2 x3 x4) (fun q q' => q.1 = q'.1 ∧ zR q.2 q'.2) := by
  have hlt : (S 0 78).toInt < 24 := by
    rcases (by omega : (S 0 78).toInt < 24 ∨ (S 0 78).toInt = 24) with g | g
    · exact g
    · exact absurd (i_ext (g.trans (by decide))) hc
  obtain ⟨n, hn⟩ : ∃ n : Nat, (S 0 78).toInt = n := ⟨(S 0 78).toInt.toNat, by omega⟩
  have zn : (Z 0 0).toNatClampNeg = n := by rw [h.1]; exact i_cn hn
  have m4 : ((4 : Int32) * (S 0 78)).toInt = 4 * (S 0 78).toInt := i_mulL 4 (by decide) (by omega) (by omega)
  have s0 : ((4 : Int32) * (S 0 78)).toNatClampNeg = 4 * n := i_cn (by rw [m4]; omega)
  have s1 : (((4 : Int32) * (S 0 78)) + 1).toNatClampNeg = 4 * n + 1 := i_cn (by rw [i_addK m4 (y := 1) (by decide) (by omega) (by omega)]; omega)
  have s2 : (((4 : Int32) * (S 0 78)) + 2).toNatClampNeg = 4 * n + 2 := i_cn (by rw [i_addK m4 (y := 2) (by decide) (by omega) (by omega)]; omega)
  have s3 : (((4 : Int32) * (S 0 78)) + 3).toNatClampNeg = 4 * n + 3 := i_cn (by rw [i_addK m4 (y := 3) (by decide) (by omega) (by omega)]; omega)
  have p1 : (S 0 78 + 1).toInt = n + 1 := by rw [i_addK hn (y := 1) (by decide) (by omega) (by omega)]
  unfold f_X4_add_x f_X8_noted
  refine E2_itl (fun _ => ?_) (fun g => ?_)
  rotate_left
  · have := tq_ltn (x := Z 0 0) (y := (24 : Int32)) rfl (b := 24) (by decide) g
    rw [h.1] at this; omega
  refine E2_ckl (fun _ => E2_ltl (fun Z3 e3 => E2_ckl (fun _ => E2_ltl (fun Z5 e5 => E2_ckl (fun _ => E2_ltl (fun Z7 e7 => E2_ckl (fun _ => E2_ltl (fun Z9 e9 => E2_ltl (fun Z10 e10 => ?_)))))))))
  have y3 : Z3 0 = Z 0 := by rw [e3, st_oth (by decide)]
  rw [y3] at e5
  have y5 : Z5 0 = Z 0 := by rw [e5, st_oth (by decide), y3]
  rw [y5] at e7
  have y7 : Z7 0 = Z 0 := by rw [e7, st_oth (by decide), y5]
  rw [y7] at e9
  have y9 : Z9 0 = Z 0 := by rw [e9, st_oth (by decide), y7]
  rw [y9] at e10
  rw [zn] at e3 e5 e7 e9
  refine E2_ckr (fun _ => E2_ltr (fun S2 f2 => E2_ckr (fun _ => E2_ltr (fun S4 f4 => E2_ckr (fun _ => E2_ltr (fun S6 f6 => E2_ckr (fun _ => E2_ltr (fun S8 f8 => E2_ltr (fun S9 f9 => ?_)))))))))
  have u2 : S2 0 = S 0 := by rw [f2, st_oth (by decide)]
  rw [u2] at f4
  have u4 : S4 0 = S 0 := by rw [f4, st_oth (by decide), u2]
  rw [u4] at f6
  have u6 : S6 0 = S 0 := by rw [f6, st_oth (by decide), u4]
  rw [u6] at f8
  have u8 : S8 0 = S 0 := by rw [f8, st_oth (by decide), u6]
  rw [u8] at f9
  rw [s0] at f2
  rw [s1] at f4
  rw [s2] at f6
  rw [s3] at f8
  have cz : Z10 0 0 = S 0 78 + 1 := by rw [e10, st_same, h.1]
  have cs : S9 0 78 = S 0 78 + 1 := by rw [f9, st_same]
  have o81 : S9 81 = S8 81 := by rw [f9, st_oth (by decide)]
  refine E2_some ⟨by show Z10 0 0 - 1 = S9 0 78 - 1; rw [cz, cs], cz.trans cs.symm, ?_, fun k hk => ?_⟩
  · show Z10 0 1 = S9 0 79
    rw [e10, st_ne (by decide), y9, f9, st_ne (by decide), u8]; exact h.2.1
  · have hk : (k : Int) < (S9 0 78).toInt := hk
    rw [cs, p1] at hk
    show Z10 3 k = S9 81 (4 * k) ∧ Z10 4 k = S9 81 (4 * k + 1) ∧ Z10 5 k = S9 81 (4 * k + 2) ∧ Z10 6 k = S9 81 (4 * k + 3)
    have z3 : Z10 3 = Z3 3 := by rw [e10, st_oth (by decide), e9, st_oth (by decide), e7, st_oth (by decide), e5, st_oth (by decide)]
    have z4 : Z10 4 = Z5 4 := by rw [e10, st_oth (by decide), e9, st_oth (by decide), e7, st_oth (by decide)]
    have z5 : Z10 5 = Z7 5 := by rw [e10, st_oth (by decide), e9, st_oth (by decide)]
    have z6 : Z10 6 = Z9 6 := by rw [e10, st_oth (by decide)]
    rw [z3, z4, z5, z6, o81]
    by_cases g : k = n
    · subst g
      refine ⟨?_, ?_, ?_, ?_⟩
      · rw [e3, st_same, f8, st_ne (by omega), f6, st_ne (by omega), f4, st_ne (by omega), f2, st_same]
      · rw [e5, st_same, f8, st_ne (by omega), f6, st_ne (by omega), f4, st_same]
      · rw [e7, st_same, f8, st_ne (by omega), f6, st_same]
      · rw [e9, st_same, f8, st_same]
    · have q : ∀ j, ¬ j = 4 * n → ¬ j = 4 * n + 1 → ¬ j = 4 * n + 2 → ¬ j = 4 * n + 3 → S8 81 j = S 81 j := fun j n0 n1 n2 n3 => by rw [f8, st_ne n3, f6, st_ne n2, f4, st_ne n1, f2, st_ne n0]
      have a := h.2.2 k (by omega)
      rw [q (4 * k) (by omega) (by omega) (by omega) (by omega), q (4 * k + 1) (by omega) (by omega) (by omega) (by omega), q (4 * k + 2) (by omega) (by omega) (by omega) (by omega), q (4 * k + 3) (by omega) (by omega) (by omega) (by omega)]
      refine ⟨?_, ?_, ?_, ?_⟩
      · rw [e3, st_ne g]; exact a.1
      · rw [e5, st_ne g, e3, st_oth (by decide)]; exact a.2.1
      · rw [e7, st_ne g, e5, st_oth (by decide), e3, st_oth (by decide)]; exact a.2.2.1
      · rw [e9, st_ne g, e7, st_oth (by decide), e5, st_oth (by decide), e3, st_oth (by decide)]; exact a.2.2.2
/-- no room: nothing is noted -/
theorem a_full (pa qa : Nat → Nat) {Z S : Tr} (h : zR Z S) (hc : S 0 78 = 24) (x1 x2 x3 x4 : Int32) : f_X4_add_x pa qa Z x1 x2 x3 x4 = some (-1, Z) := by
  unfold f_X4_add_x
  rw [h.1, hc, if_neg (by decide)]
theorem e_see (pa qa : Nat → Nat) {P Z S : Tr} (q4 : Nat) (hn : nmR P S) (h : zR Z S) (hS : iR BM S) (x1 x2 x3 x4 : Int32) : E2 (f_X7_see pa qa P Z q4 x1 x2 x3 x4) (f_X8_see S x1 x2 x3 x4) (fun q q' => q.1 = q'.1 ∧ zR q.2 q'.2) := by
  unfold f_X7_see f_X8_see
  refine E2_ltr (fun S1 e1 => ?_)
  have f1 : zk S S1 := fun a j q => by rw [e1, st_no (fun g => by rcases q with q | ⟨_, q | q⟩ <;> omega)]
  have h1 := zR_f h f1
  have b1 : 0 ≤ (S1 0 78).toInt ∧ (S1 0 78).toInt ≤ 24 := by rw [f1 0 78 (Or.inr ⟨rfl, Or.inl rfl⟩)]; exact hS 0 78
  have n14 : P 0 2 = S1 0 14 := by rw [e1, st_ne (by decide)]; exact hn.1.2.2.1
  have n12 : P 0 0 = S1 0 12 := by rw [e1, st_ne (by decide)]; exact hn.1.1
  have no : ∀ v v' : Int32, v = v' → E2 (some (v, Z)) (some (v', S1)) (fun q q' => q.1 = q'.1 ∧ zR q.2 q'.2) := fun v v' g => E2_some ⟨g, h1⟩
  by_cases hc : S1 0 78 = 24
  · refine E2_pr hc ?_
    have add : ∀ a b c d, f_X4_add_x pa qa Z a b c d = some (-1, Z) := fun a b c d => a_full pa qa h1 hc a b c d
    refine E2_itl (fun _ => no _ _ rfl) (fun _ => E2_itl (fun _ => no _ _ rfl) (fun _ => E2_any (fun r3 => E2_itl (fun _ => no _ _ rfl) (fun _ => E2_any (fun r7 => E2_itl (fun _ => no _ _ rfl) (fun _ => ?_))))))
    unfold fJ_X7_see_J45
    rw [add, add]
    exact E2_itl (fun _ => no _ _ rfl) (fun _ => no _ _ rfl)
  · refine E2_qr hc ?_
    unfold f_X8_isIn f_X7_isPiece f_X7_isPlace f_X8_isPiece f_X8_isPlace
    by_cases c : x1 < 0
    · refine E2_pl c ?_
      rw [if_pos c]
      exact E2_sr (E2_pr rfl (no _ _ rfl))
    refine E2_ql c ?_
    rw [if_neg c]
    have k := tq_ltn (x := x1) (y := (0 : Int32)) rfl (b := 0) (by decide) c
    by_cases d : (20 : Int32) ≤ x1
    · have g := tq_le (x := (20 : Int32)) (y := x1) (a := 20) (by decide) rfl d
      refine E2_pl d ?_
      have l : (19 : Int32) < x1 := Int32.not_le.mp (fun u => by have := tq_le (x := x1) (y := (19 : Int32)) rfl (b := 19) (by decide) u; omega)
      rw [if_pos l]
      exact E2_sr (E2_pr rfl (no _ _ rfl))
    refine E2_ql d ?_
    have g := tq_len (x := (20 : Int32)) (y := x1) (a := 20) (by decide) rfl d
    have l : ¬ (19 : Int32) < x1 := fun u => by have := tq_lt (x := (19 : Int32)) (y := x1) (a := 19) (by decide) rfl u; omega
    rw [if_neg l]
    refine E2_sr (E2_qr (by decide) ?_)
    by_cases c2 : x2 < 0
    · rw [if_pos c2, if_pos c2]
      exact E2_sl (E2_sr (E2_pl rfl (E2_pr rfl (no _ _ rfl))))
    rw [if_neg c2, if_neg c2]
    refine E2_bd (R := fun r r' => r = r') (E2_ckl (fun _ => ?_)) (fun r r' er => ?_)
    · rw [n14]
      exact E2_it Iff.rfl (fun _ _ => E2_some rfl) (fun _ _ => E2_some rfl)
    rw [er]
    refine E2_it Iff.rfl (fun _ _ => no _ _ rfl) (fun _ _ => ?_)
    by_cases c3 : x3 < 0
    · rw [if_pos c3, if_pos c3]
      exact E2_sl (E2_sr (E2_pl rfl (E2_pr rfl (no _ _ rfl))))
    rw [if_neg c3, if_neg c3]
    refine E2_bd (R := fun r r' => r = r') (E2_ckl (fun _ => ?_)) (fun r r' er => ?_)
    · rw [n12]
      exact E2_it Iff.rfl (fun _ _ => E2_some rfl) (fun _ _ => E2_some rfl)
    rw [er]
    refine E2_it Iff.rfl (fun _ _ => no _ _ rfl) (fun _ _ => ?_)
    unfold fJ_X7_see_J45 fJ_X8_see_J58
    refine E2_it Iff.rfl (fun _ _ => ?_) (fun _ _ => ?_)
    · exact E2_bd (e_add pa qa h1 b1 hc x1 x2 x3 0) (fun q q' hq => E2_some hq)
    · exact E2_bd (e_add pa qa h1 b1 hc x1 x2 x3 1) (fun q q' hq => E2_some hq)
theorem e_strike (pa qa : Nat → Nat) {Z S : Tr} (h : zR Z S) (hS : iR BM S) (x1 : Int32) : E2 (f_X7_strike pa qa Z x1) (f_X8_strike S x1) (fun q q' => q.1 = q'.1 ∧ zR q.2 q'.2) := by
  unfold f_X7_strike f_X8_strike
  refine E2_ltr (fun S1 e1 => ?_)
  have f1 : zk S S1 := fun a j q => by rw [e1, st_no (fun g => by rcases q with q | ⟨_, q | q⟩ <;> omega)]
  have h1 := zR_f h f1
  have b1 : 0 ≤ (S1 0 78).toInt ∧ (S1 0 78).toInt ≤ 24 := by rw [f1 0 78 (Or.inr ⟨rfl, Or.inl rfl⟩)]; exact hS 0 78
  have no : ∀ v v' : Int32, v = v' → E2 (some (v, Z)) (some (v', S1)) (fun q q' => q.1 = q'.1 ∧ zR q.2 q'.2) := fun v v' g => E2_some ⟨g, h1⟩
  by_cases hc : S1 0 78 = 24
  · refine E2_pr hc ?_
    rw [a_full pa qa h1 hc]
    exact E2_itl (fun _ => no _ _ rfl) (fun _ => E2_itl (fun _ => no _ _ rfl) (fun _ => no _ _ rfl))
  · refine E2_qr hc ?_
    rw [h1.1]
    refine E2_it Iff.rfl (fun _ _ => no _ _ rfl) (fun _ _ => E2_it Iff.rfl (fun _ _ => ?_) (fun _ _ => no _ _ rfl))
    exact E2_bd (e_add pa qa h1 b1 hc (-1) x1 0 0) (fun q q' hq => E2_some hq)
theorem e_known (pa qa : Nat → Nat) {Z S : Tr} (h : zR Z S) (x1 : Int32) : E2 (f_X7_known pa qa Z x1) (f_X8_known S x1) (fun q q' => q.1 = q'.1 ∧ zR q.2 q'.2) := by
  unfold f_X7_known f_X8_known f_X8_isIn
  refine E2_ltr (fun S1 e1 => ?_)
  have f1 : zk S S1 := fun a j q => by rw [e1, st_no (fun g => by rcases q with q | ⟨_, q | q⟩ <;> omega)]
  have h1 := zR_f h f1
  by_cases c : x1 < -1
  · refine E2_pl c ?_
    rw [if_pos c]
    exact E2_sr (E2_pr rfl (E2_some ⟨rfl, h1⟩))
  refine E2_ql c ?_
  rw [if_neg c, h1.1]
  by_cases d : x1 ≤ S1 0 78
  · refine E2_pl d ?_
    rw [if_neg (Int32.not_lt.mpr d)]
    refine E2_ltl (fun Z3 e3 => E2_sr (E2_qr (by decide) (E2_ltr (fun S6 e6 => E2_some ⟨rfl, ?_, ?_, fun k hk => ?_⟩))))
    · show Z3 0 0 = S6 0 78
      rw [e3, st_ne (by decide), e6, st_ne (by decide)]; exact h1.1
    · show Z3 0 1 = S6 0 79
      rw [e3, st_same, e6, st_same]
    · have hk : (k : Int) < (S6 0 78).toInt := hk
      rw [e6, st_ne (by decide)] at hk
      have a := h1.2.2 k hk
      show Z3 3 k = S6 81 (4 * k) ∧ Z3 4 k = S6 81 (4 * k + 1) ∧ Z3 5 k = S6 81 (4 * k + 2) ∧ Z3 6 k = S6 81 (4 * k + 3)
      rw [e3, st_oth (by decide), st_oth (by decide), st_oth (by decide), st_oth (by decide), e6, st_oth (by decide)]
      exact a
  · refine E2_ql d ?_
    rw [if_pos (Int32.not_le.mp d)]
    exact E2_sr (E2_pr rfl (E2_some ⟨rfl, h1⟩))
/-- a new text: nothing has been seen -/
theorem k_begin (S : Tr) (L : Lo) : Ep (f_X8_begin S L) (fun q => q.1 0 78 = 0 ∧ q.1 0 79 = -1 ∧ q.1 0 82 = 0 ∧ q.1 0 84 = 0) := by
  unfold f_X8_begin
  refine Ep_any (fun S1 => Ep_lt (fun L4 _ => Ep_any (fun S5 => Ep_lt (fun S8 e8 => Ep_lt (fun S9 e9 => Ep_lt (fun S10 e10 => Ep_lt (fun S11 e11 => Ep_some ?_)))))))
  show S11 0 78 = 0 ∧ S11 0 79 = -1 ∧ S11 0 82 = 0 ∧ S11 0 84 = 0
  refine ⟨?_, ?_, ?_, ?_⟩
  · rw [e11, st_ne (by decide), e10, st_ne (by decide), e9, st_ne (by decide), e8, st_same]
  · rw [e11, st_ne (by decide), e10, st_ne (by decide), e9, st_same]
  · rw [e11, st_ne (by decide), e10, st_same]
  · rw [e11, st_same]
theorem k_kz (T : Tr) (L : Lo) : Ep (f_X8_keepText T L) (fun q => q.1 0 78 = 0 ∧ q.1 0 79 = -1 ∧ q.1 0 82 = 0 ∧ q.1 0 84 = 0) := by
  unfold f_X8_keepText
  refine Ep_lt (fun S1 _ => Ep_lt (fun S2 _ => Ep_lt (fun S3 _ => Ep_lt (fun S4 _ => Ep_any (fun A1 => Ep_any (fun A2 => Ep_any (fun A3 => Ep_any (fun A4 => Ep_any (fun A5 => Ep_any (fun A6 => Ep_any (fun A7 => Ep_any (fun A8 => Ep_any (fun A9 => Ep_any (fun A10 => Ep_any (fun A11 => Ep_any (fun A12 => ?_))))))))))))))))
  refine ke_139 L A12 (fun T36 _ => ?_) 2000 0 A12 (by decide) (by decide) (fun j hj => absurd hj (by rw [show (0 : Int32).toInt = 0 by decide]; omega)) (fun _ _ _ => rfl)
  unfold fJ_X8_keepText_J164
  refine Ep_any (fun B1 => Ep_any (fun B2 => Ep_any (fun B3 => Ep_any (fun B4 => Ep_any (fun B5 => Ep_bd (k_begin B5 L) (fun q hq => Ep_lt (fun S57 e57 => Ep_lt (fun L58 _ => Ep_some ?_))))))))
  show S57 0 78 = 0 ∧ S57 0 79 = -1 ∧ S57 0 82 = 0 ∧ S57 0 84 = 0
  rw [e57]; exact hq
theorem zR_0 {Z S : Tr} (h : Z 0 0 = 0) (h1 : Z 0 1 = -1) (k : S 0 78 = 0 ∧ S 0 79 = -1 ∧ S 0 82 = 0 ∧ S 0 84 = 0) : zR Z S := by
  refine ⟨h.trans k.1.symm, h1.trans k.2.1.symm, fun j hj => ?_⟩
  rw [k.1, show (0 : Int32).toInt = 0 by decide] at hj; omega
theorem zR_T {Z S S1 : Tr} (h : zR Z S) (a : kFT S S1) : zR Z S1 := zR_f h (fun c j q => by
  rcases q with rfl | ⟨rfl, rfl | rfl⟩
  · exact a 81 j rfl (fun g => absurd g.1 (by decide))
  · exact a 0 78 rfl (by decide)
  · exact a 0 79 rfl (by decide))
theorem k_fo (pa qa : Nat → Nat) (Z : Tr) : Ep (f_X4_forget_x pa qa Z) (fun q => q 0 0 = 0 ∧ q 0 1 = -1) := by
  unfold f_X4_forget_x
  refine Ep_lt (fun Z1 e1 => Ep_lt (fun Z2 e2 => Ep_some ⟨?_, ?_⟩))
  · rw [e2, st_ne (by decide), e1, st_same]
  · rw [e2, st_same]
