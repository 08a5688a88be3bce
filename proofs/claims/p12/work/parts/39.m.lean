/-! what a call of the journey may change -/
def Wg (a j : Nat) : Bool := Wb 0 a j || Wb 1 a j || Nat.beq a 84 || Nat.beq a 86 || Nat.beq a 87 || Nat.beq a 88 || Nat.beq a 81 || (Nat.beq a 0 && (Nat.beq j 78 || Nat.beq j 79 || Nat.beq j 82 || Nat.beq j 84 || Nat.beq j 88 || Nat.beq j 89))
def aW (S S1 : Tr) : Prop := ∀ a j, Wg a j = false → S1 a j = S a j
theorem aW_rfl {S : Tr} : aW S S := fun _ _ _ => rfl
theorem aW_tr {S S1 S2 : Tr} (h1 : aW S S1) (h2 : aW S1 S2) : aW S S2 := fun a j h => (h2 a j h).trans (h1 a j h)
theorem aW_set {z S : Tr} {a i : Nat} {v : Int32} (h : aW z S) (hw : Wg a i = true) : aW z (st S a i v) := fun c j hf => by
  rcases st_or (S := S) (a := a) (i := i) (b := c) (j := j) (v := v) with e | ⟨e1, e2⟩
  · rw [e]; exact h c j hf
  · subst e1; subst e2; rw [hw] at hf; cases hf
theorem Wg_f {a j : Nat} (h : Wg a j = false) : Wb 0 a j = false ∧ Wb 1 a j = false ∧ a ≠ 84 ∧ a ≠ 86 ∧ a ≠ 87 ∧ a ≠ 88 ∧ a ≠ 81 ∧ ¬ (a = 0 ∧ (j = 78 ∨ j = 79 ∨ j = 82 ∨ j = 84 ∨ j = 88 ∨ j = 89)) := by
  unfold Wg at h
  simp only [Bool.or_eq_false_iff] at h
  obtain ⟨⟨⟨⟨⟨⟨⟨h1, h2⟩, h3⟩, h4⟩, h5⟩, h6⟩, h7⟩, h8⟩ := h
  have nb : ∀ {x y : Nat}, Nat.beq x y = false → x ≠ y := fun {x y} e q => by subst q; rw [Nat.beq_refl] at e; cases e
  refine ⟨h1, h2, nb h3, nb h4, nb h5, nb h6, nb h7, fun q => ?_⟩
  obtain ⟨q1, q2⟩ := q
  subst q1
  rcases q2 with q | q | q | q | q | q <;> subst q <;> exact absurd h8 (by decide)
theorem aW_0 {S S1 : Tr} (h : aG 0 S S1) : aW S S1 := fun a j q => h a j (Wg_f q).1
theorem aW_1 {S S1 : Tr} (h : aG 1 S S1) : aW S S1 := fun a j q => h a j (Wg_f q).2.1
theorem aW_T {S S1 : Tr} (h : aT S S1) : aW S S1 := aW_0 (aT_G h)
theorem pI_aW {S S1 : Tr} (h : pI S) (a : aW S S1) : pI S1 := pI_fr h (fun j => a 39 j rfl) (fun j => a 40 j rfl) (fun j => a 41 j rfl) (fun j => a 36 j rfl) (fun j => a 38 j rfl) (fun j => a 30 j rfl) (fun j => a 29 j rfl) (a 0 13 rfl) (a 0 14 rfl)
/-! rows stay, where neither they nor the states change -/
theorem uI_fr {S S1 : Tr} (hS : iR BM S) (h : uI S) (e84 : ∀ j, S1 84 j = S 84 j) (e53 : ∀ i, i < 10 → S1 53 i = S 53 i) (e82 : (S1 0 82).toInt ≤ (S 0 82).toInt) (e13 : S1 0 13 = S 0 13) (e14 : S1 0 14 = S 0 14) : uI S1 := fun r hr =>
  row_eq (h r (by omega)) (fun p hp => row_b hS (Or.inl rfl) (by omega) hp) (fun j _ => e84 _) e13 e14 (fun i hi => e53 i hi)
theorem vI_fr {S S1 : Tr} (hS : iR BM S) (h : vI S) (e86 : ∀ j, S1 86 j = S 86 j) (e87 : ∀ j, S1 87 j = S 87 j) (e84 : S1 0 84 = S 0 84) (e13 : S1 0 13 = S 0 13) (e14 : S1 0 14 = S 0 14) : vI S1 := fun hz =>
  row_eq (h (by rw [← e84]; exact hz)) (fun p hp => row_b hS (Or.inr rfl) (by omega) hp) (fun j _ => e86 _) e13 e14 (fun i _ => e87 i)
theorem zI_fr {S S1 : Tr} (h : zI S) (e : ∀ j, S1 81 j = S 81 j) : zI S1 := fun k hk => by rw [e] at hk ⊢; exact h k hk
/-- all that holds of the reference between calls of a journey -/
def jR (S : Tr) : Prop := iR BM S ∧ pI S ∧ gI 0 S ∧ uI S ∧ vI S ∧ zI S
theorem jR_1 {S S1 : Tr} (h : jR S) (hB : iR BM S1) (a : aG 1 S S1) : jR S1 := by
  obtain ⟨h1, h2, h3, h4, h5, h6⟩ := h
  exact ⟨hB, pI_aG h2 a, gI0_G1 h1 h3 a, uI_fr h1 h4 (fun j => a 84 j rfl) (fun i hi => a 53 i (Wb_lo (n := 10) (by omega) hi)) (Int.le_of_eq (by rw [a 0 82 rfl])) (a 0 13 rfl) (a 0 14 rfl), vI_fr h1 h5 (fun j => a 86 j rfl) (fun j => a 87 j rfl) (a 0 84 rfl) (a 0 13 rfl) (a 0 14 rfl), zI_fr h6 (fun j => a 81 j rfl)⟩
theorem jR_T {S S1 : Tr} (h : jR S) (hB : iR BM S1) (a : aT S S1) : jR S1 := jR_1 h hB (aT_G a)
theorem thr_T {S : Tr} {v : Int32} : aT S (st S 0 2 v) := aT_set aT_rfl rfl
theorem jR_thr {S : Tr} {v : Int32} (h : jR S) : jR (st S 0 2 v) := jR_T h (iR_setU h.1 rfl) thr_T
/-- what is remembered changes nothing else -/
theorem jR_rem {S : Tr} (h : jR S) : D (f_X8_remember S) (fun q => jR q ∧ aW S q ∧ (∀ a j, a ≠ 84 → ¬ (a = 0 ∧ j = 82) → q a j = S a j)) := by
  obtain ⟨h1, h2, h3, h4, h5, h6⟩ := h
  refine D_mono (t_X8_remember S h1 h3 h4) (fun q hq => ?_)
  obtain ⟨q1, q2, q3⟩ := hq
  have o : ∀ a j, a ≠ 84 → a ≠ 0 → q a j = S a j := fun a j ha h0 => q3 a j ha (fun z => h0 z.1)
  have aw : aW S q := fun a j hf => q3 a j (Wg_f hf).2.2.1 (fun z => (Wg_f hf).2.2.2.2.2.2.2 ⟨z.1, by omega⟩)
  refine ⟨⟨q1, pI_aW h2 aw, ?_, q2, ?_, zI_fr h6 (fun j => o 81 j (by decide) (by decide))⟩, aw, q3⟩
  · exact gI_fr h3 (fun j => o 53 j (by decide) (by decide)) (fun j => o 54 j (by decide) (by decide)) (fun j => o 55 j (by decide) (by decide)) (fun j => o 56 j (by decide) (by decide)) (fun j => o 58 j (by decide) (by decide)) (q3 0 13 (by decide) (by decide)) (q3 0 14 (by decide) (by decide))
  · exact vI_fr h1 h5 (fun j => o 86 j (by decide) (by decide)) (fun j => o 87 j (by decide) (by decide)) (q3 0 84 (by decide) (by decide)) (q3 0 13 (by decide) (by decide)) (q3 0 14 (by decide) (by decide))
theorem R_undo (S : Tr) (h : jR S) : D (f_X8_undo S) (fun q => jR q.2 ∧ aW S q.2) := by
  have g1 := jR_thr (v := 0) h
  unfold f_X8_undo
  refine D_lt (fun S1 e1 => ?_)
  rw [← e1] at g1
  have a1 : aW S S1 := by rw [e1]; exact aW_T thr_T
  obtain ⟨h1, h2, h3, h4, h5, h6⟩ := g1
  have b : (0 : Int) ≤ (S1 0 82).toInt ∧ (S1 0 82).toInt ≤ 20 := h1 0 82
  refine D_ite (fun c => ?_) (fun c => ?_)
  · exact D_some ⟨⟨h1, h2, h3, h4, h5, h6⟩, a1⟩
  · have k := tq_eqn (b := 0) rfl (by decide) c
    have f1 : (S1 0 82 - 1).toInt = (S1 0 82).toInt - 1 := i_subK rfl (by decide) (by omega) (by omega)
    refine D_lt (fun S3 e3 => ?_)
    have fr : ∀ a j, ¬ (a = 0 ∧ j = 82) → S3 a j = S1 a j := fun a j q => by
      rw [e3]
      rcases st_or (S := S1) (a := 0) (i := 82) (b := a) (j := j) (v := S1 0 82 - 1) with z | z
      · exact z
      · exact absurd z q
    have n82 : (S3 0 82).toInt = (S1 0 82).toInt - 1 := by rw [e3, st_same]; exact f1
    have h3B : iR BM S3 := by rw [e3]; exact iR_set h1 (show (0 : Int) ≤ _ by omega) (show _ ≤ (20 : Int) by omega)
    have e61 := i_mulL (a := (61 : Int32)) (b := S3 0 82) 61 (by decide) (by omega) (by omega)
    obtain ⟨u, hu⟩ : ∃ u : Nat, (S3 0 82).toInt = u := ⟨(S3 0 82).toInt.toNat, by omega⟩
    have eo : ((61 : Int32) * (S3 0 82)).toNatClampNeg = 61 * u := by rw [i_cl]; omega
    have row : rowOK S3 84 ((61 : Int32) * (S3 0 82)).toNatClampNeg (fun i => S3 53 i) := by
      rw [eo]
      exact row_eq (h4 u (by omega)) (fun p hp => row_b h1 (Or.inl rfl) (by omega) hp) (fun j _ => fr 84 _ (by omega)) (fr 0 13 (by omega)) (fr 0 14 (by omega)) (fun i _ => fr 53 i (by omega))
    refine D_bd (t_X8_take_84 S3 _ (fun i => S3 53 i) h3B ⟨by omega, by omega⟩ (by rw [eo]; omega) row) (fun S4 _ q4 => ?_)
    obtain ⟨q1, q2, q3, q5, q6, q7⟩ := q4
    have o : ∀ a j, a ≠ 54 → a ≠ 55 → a ≠ 56 → a ≠ 58 → ¬ (a = 0 ∧ j = 82) → S4 a j = S1 a j := fun a j z1 z2 z3 z4 z5 => (q6 a j z1 z2 z3 z4).trans (fr a j z5)
    have a3 : aW S1 S3 := by rw [e3]; exact aW_set aW_rfl rfl
    have aw : aW S S4 := aW_tr a1 (aW_tr a3 (aW_0 q7))
    refine D_some (show jR S4 ∧ aW S S4 from ⟨?_, aw⟩)
    refine ⟨q1, pI_aW h2 (aW_tr a3 (aW_0 q7)), ⟨q2, fun i hi => ?_, q5⟩, ?_, ?_, zI_fr h6 (fun j => o 81 j (by decide) (by decide) (by decide) (by decide) (by omega))⟩
    · rw [show 10 * 0 + i = i by omega, q6 53 i (by decide) (by decide) (by decide) (by decide)]
      exact q3 i hi
    · exact uI_fr h1 h4 (fun j => o 84 j (by decide) (by decide) (by decide) (by decide) (by omega)) (fun i _ => o 53 i (by decide) (by decide) (by decide) (by decide) (by omega)) (by rw [q6 0 82 (by decide) (by decide) (by decide) (by decide)]; omega) (o 0 13 (by decide) (by decide) (by decide) (by decide) (by decide)) (o 0 14 (by decide) (by decide) (by decide) (by decide) (by decide))
    · exact vI_fr h1 h5 (fun j => o 86 j (by decide) (by decide) (by decide) (by decide) (by omega)) (fun j => o 87 j (by decide) (by decide) (by decide) (by decide) (by omega)) (o 0 84 (by decide) (by decide) (by decide) (by decide) (by decide)) (o 0 13 (by decide) (by decide) (by decide) (by decide) (by decide)) (o 0 14 (by decide) (by decide) (by decide) (by decide) (by decide))
theorem R_help (S : Tr) (x1 x2 : Int32) (h : jR S) : D (f_X8_help S x1 x2) (fun q => jR q.2 ∧ aW S q.2) := by
  have g1 := jR_thr (v := 0) h
  unfold f_X8_help
  refine D_lt (fun S1 e1 => ?_)
  rw [← e1] at g1
  have a1 : aW S S1 := by rw [e1]; exact aW_T thr_T
  have b13 : (0 : Int) ≤ (S1 0 13).toInt ∧ (S1 0 13).toInt ≤ 6 := g1.1 0 13
  refine D_bd (t_X8_isPerson S1 x1 g1.1) (fun r _ hr => ?_)
  refine D_ite (fun c => D_some ⟨g1, a1⟩) (fun c => ?_)
  have k := tq_eqn (b := 0) rfl (by decide) c
  refine D_bd (t_X8_isIn x2 1 99) (fun r2 _ hr2 => ?_)
  refine D_ite (fun c2 => D_some ⟨g1, a1⟩) (fun c2 => ?_)
  have k2 := tq_eqn (b := 0) rfl (by decide) c2
  have l1 : (1 : Int32).toInt = 1 := by decide
  obtain ⟨p1, p2⟩ := hr
  obtain ⟨p3, p4⟩ := hr2
  refine D_ck (okI_of (by omega) (by omega)) ?_
  refine D_ite (fun c3 => D_some ⟨g1, a1⟩) (fun c3 => ?_)
  refine D_bd (jR_rem g1) (fun S12 _ q12 => ?_)
  obtain ⟨j, aw, fr⟩ := q12
  obtain ⟨h1, h2, h3, h4, h5, h6⟩ := j
  refine D_lt (fun S15 e15 => ?_)
  have o : ∀ a i, a ≠ 58 → S15 a i = S12 a i := fun a i q => by rw [e15, st_oth q]
  have cx : x1.toNatClampNeg = x1.toInt.toNat := rfl
  have a15 : aW S12 S15 := by
    rw [e15]
    exact aW_set aW_rfl (by unfold Wg; rw [Wb_58 (inB_of (by omega) (by omega))]; rfl)
  refine D_some (show jR S15 ∧ aW S S15 from ⟨⟨by rw [e15]; exact iR_setU h1 rfl, pI_aW h2 a15, ⟨gS_fr h3.1 (fun i => o 54 i (by decide)) (fun i => o 55 i (by decide)) (fun i => o 56 i (by decide)) (by rw [o 0 14 (by decide)]), fun i hi => ?_, fun p hp hq => ?_⟩, uI_fr h1 h4 (fun i => o 84 i (by decide)) (fun i _ => o 53 i (by decide)) (Int.le_of_eq (by rw [o 0 82 (by decide)])) (o 0 13 (by decide)) (o 0 14 (by decide)), vI_fr h1 h5 (fun i => o 86 i (by decide)) (fun i => o 87 i (by decide)) (o 0 84 (by decide)) (o 0 13 (by decide)) (o 0 14 (by decide)), zI_fr h6 (fun i => o 81 i (by decide))⟩, aW_tr a1 (aW_tr aw a15)⟩)
  · unfold lyM
    rw [o 53 _ (by decide), o 54 _ (by decide)]
    exact h3.2.1 i hi
  · rw [o 0 13 (by decide)] at hq
    rw [e15]
    by_cases q : 6 * 0 + p = x1.toNatClampNeg
    · rw [q, st_same]; omega
    · rw [st_ne q]; exact h3.2.2 p hp hq
theorem R_turn (S : Tr) (x1 : Int32) (h : jR S) : D (f_X8_turn S x1) (fun q => jR q.2 ∧ aW S q.2) := by
  have g1 := jR_thr (v := 0) h
  unfold f_X8_turn
  refine D_lt (fun S1 e1 => ?_)
  rw [← e1] at g1
  have a1 : aW S S1 := by rw [e1]; exact aW_T thr_T
  have b12 : (0 : Int) ≤ (S1 0 12).toInt ∧ (S1 0 12).toInt ≤ 5 := g1.1 0 12
  refine D_bd (t_X8_isPlace S1 x1 g1.1) (fun r _ hr => ?_)
  refine D_ite (fun c => D_some ⟨g1, a1⟩) (fun c => ?_)
  have k := tq_eqn (b := 0) rfl (by decide) c
  obtain ⟨p1, p2⟩ := hr
  refine D_bd (t_X8_layTried S1 g1.1 g1.2.2.1 g1.2.1) (fun S6 _ q6 => ?_)
  obtain ⟨c1, c2, c3, c4, c5, c6⟩ := q6
  refine D_bd2 (t_X8_turns S6 1 x1 c1 c3 (by decide) ⟨by omega, by omega⟩) (fun r9 S10 _ q10 => ?_)
  refine D_lte (y := r9) rfl ?_
  refine D_lte (y := S10) rfl ?_
  obtain ⟨d1, d2, d3, d4, d5⟩ := q10
  have ag : aG 1 S1 S10 := aG_tr c2 d3
  have g10 : jR S10 := jR_1 g1 d1 ag
  refine D_ite (fun c => D_some ⟨g10, aW_tr a1 (aW_1 ag)⟩) (fun c => ?_)
  refine D_bd (jR_rem g10) (fun S14 _ q14 => ?_)
  obtain ⟨j, aw, fr⟩ := q14
  refine D_bd2 (t_X8_turns S14 0 x1 j.1 j.2.2.1 (by decide) ⟨by omega, by omega⟩) (fun r17 S18 _ q18 => ?_)
  refine D_lte (y := r17) rfl ?_
  refine D_lte (y := S18) rfl ?_
  obtain ⟨w1, w2, w3, w4, w5⟩ := q18
  have w3 : aG 0 S14 S18 := w3
  have w5 : ∀ a j, a ≠ 55 → a ≠ 74 → S18 a j = S14 a j := w5
  obtain ⟨h1, h2, h3, h4, h5, h6⟩ := j
  refine D_some (show jR S18 ∧ aW S S18 from ⟨⟨w1, pI_aG h2 w3, w2, uI_fr h1 h4 (fun i => w5 84 i (by decide) (by decide)) (fun i _ => w5 53 i (by decide) (by decide)) (Int.le_of_eq (by rw [w5 0 82 (by decide) (by decide)])) (w5 0 13 (by decide) (by decide)) (w5 0 14 (by decide) (by decide)), vI_fr h1 h5 (fun i => w5 86 i (by decide) (by decide)) (fun i => w5 87 i (by decide) (by decide)) (w5 0 84 (by decide) (by decide)) (w5 0 13 (by decide) (by decide)) (w5 0 14 (by decide) (by decide)), zI_fr h6 (fun i => w5 81 i (by decide) (by decide))⟩, aW_tr a1 (aW_tr (aW_1 ag) (aW_tr aw (aW_0 w3)))⟩)
theorem mv_core (S : Tr) (x1 x2 : Int32) (h : jR S) (hx1 : 0 ≤ x1.toInt ∧ x1.toInt < (S 0 14).toInt) (hx2 : 0 ≤ x2.toInt ∧ x2.toInt ≤ 4) (h53 : S 53 x1.toNatClampNeg = 1) : D (fJ_X8_move_J67 x1 x2 S) (fun q => jR q.2 ∧ aW S q.2) := by
  have b14 : (0 : Int) ≤ (S 0 14).toInt ∧ (S 0 14).toInt ≤ 10 := h.1 0 14
  unfold fJ_X8_move_J67
  refine D_bd (jR_rem h) (fun S1 _ q1 => ?_)
  obtain ⟨j, aw, fr⟩ := q1
  obtain ⟨h1, h2, h3, h4, h5, h6⟩ := j
  have f53 : S1 53 x1.toNatClampNeg = 1 := by rw [fr 53 _ (by decide) (by omega)]; exact h53
  have f14 : S1 0 14 = S 0 14 := fr 0 14 (by decide) (by decide)
  have cx : x1.toNatClampNeg = x1.toInt.toNat := rfl
  have e10 : ((10 : Int32) * 0 + x1) = x1 := by rw [show (10 : Int32) * 0 = 0 from by decide, Int32.zero_add]
  have hly : 0 ≤ (S1 54 ((10 : Int32) * 0 + x1).toNatClampNeg).toInt := ly_of (x1 := 0) h3 (by decide) ⟨by omega, by omega⟩ (by rw [e10]; exact f53)
  refine D_bd (t_X8_takes S1 0 x1 1 h1 (by decide) ⟨by omega, by omega⟩ (by decide) h3 hly) (fun S2 _ q2 => ?_)
  obtain ⟨pos, e2, t1, t2, t3, t4, t5, t6⟩ := q2
  have z0 : (0 : Int32).toNatClampNeg = 0 := rfl
  rw [z0] at e2 t2 t3 t4 t5 t6
  refine D_bd (t_X8_lays S2 0 x2 x1 t1 (by decide) hx2 ⟨by omega, by omega⟩ t2 t3 (by rw [z0, t4]; decide) (by rw [e2, tk_o (by decide) (by decide) (by decide) (by decide), f14]; exact hx1.2)) (fun S3 _ q3 => ?_)
  obtain ⟨e3, l1, l2, l3⟩ := q3
  rw [z0] at e3 l2 l3
  have o : ∀ a i, a ≠ 53 → a ≠ 54 → a ≠ 55 → a ≠ 56 → S3 a i = S1 a i := fun a i w1 w2 w3 w4 => by
    rw [e3, ls_o w1 w2 w3 w4, e2, tk_o w1 w2 w3 w4]
  have o53 : ∀ i, S3 53 i = S1 53 i := fun i => by
    rw [e3, ls_53]
    by_cases q : i = 10 * 0 + x1.toNatClampNeg
    · rw [if_pos q, q, show 10 * 0 + x1.toNatClampNeg = x1.toNatClampNeg by omega, f53]
    · rw [if_neg q, e2, tk_53, if_neg q]
  have ag : aG 0 S1 S3 := aG_tr t6 l3
  exact D_some (show jR S3 ∧ aW S S3 from ⟨⟨l1, pI_aG h2 ag, l2, uI_fr h1 h4 (fun i => o 84 i (by decide) (by decide) (by decide) (by decide)) (fun i _ => o53 i) (Int.le_of_eq (by rw [o 0 82 (by decide) (by decide) (by decide) (by decide)])) (o 0 13 (by decide) (by decide) (by decide) (by decide)) (o 0 14 (by decide) (by decide) (by decide) (by decide)), vI_fr h1 h5 (fun i => o 86 i (by decide) (by decide) (by decide) (by decide)) (fun i => o 87 i (by decide) (by decide) (by decide) (by decide)) (o 0 84 (by decide) (by decide) (by decide) (by decide)) (o 0 13 (by decide) (by decide) (by decide) (by decide)) (o 0 14 (by decide) (by decide) (by decide) (by decide)), zI_fr h6 (fun i => o 81 i (by decide) (by decide) (by decide) (by decide))⟩, aW_tr aw (aW_0 ag)⟩)
theorem R_move (S : Tr) (x1 x2 : Int32) (h : jR S) : D (f_X8_move S x1 x2) (fun q => jR q.2 ∧ aW S q.2) := by
  have g1 := jR_thr (v := 0) h
  unfold f_X8_move
  refine D_lt (fun S1 e1 => ?_)
  rw [← e1] at g1
  have a1 : aW S S1 := by rw [e1]; exact aW_T thr_T
  have b12 : (0 : Int) ≤ (S1 0 12).toInt ∧ (S1 0 12).toInt ≤ 5 := g1.1 0 12
  have b14 : (0 : Int) ≤ (S1 0 14).toInt ∧ (S1 0 14).toInt ≤ 10 := g1.1 0 14
  refine D_bd (t_X8_isPiece S1 x1 g1.1) (fun r _ hr => ?_)
  refine D_ite (fun c => D_some ⟨g1, a1⟩) (fun c => ?_)
  have k := tq_eqn (b := 0) rfl (by decide) c
  refine D_bd (t_X8_isPlace S1 x2 g1.1) (fun r2 _ hr2 => ?_)
  refine D_ite (fun c2 => D_some ⟨g1, a1⟩) (fun c2 => ?_)
  have k2 := tq_eqn (b := 0) rfl (by decide) c2
  obtain ⟨p1, p2⟩ := hr
  obtain ⟨p3, p4⟩ := hr2
  refine D_ck (okI_of (by omega) (by omega)) ?_
  refine D_ite (fun c3 => ?_) (fun c3 => D_some ⟨g1, a1⟩)
  have go : D (fJ_X8_move_J67 x1 x2 S1) (fun q => jR q.2 ∧ aW S q.2) := D_mono (mv_core S1 x1 x2 g1 ⟨by omega, by omega⟩ ⟨by omega, by omega⟩ c3) (fun q hq => ⟨hq.1, aW_tr a1 hq.2⟩)
  refine D_ite (fun c4 => ?_) (fun c4 => ?_)
  · refine D_bd (t_X8_aboveOf S1 0 x1 g1.1 (by decide) ⟨by omega, by omega⟩ g1.2.2.1.1) (fun r26 _ _ => ?_)
    exact D_ite (fun _ => D_some ⟨g1, a1⟩) (fun _ => go)
  · refine D_bd (t_X8_doesHold S1 0 x2 x1 g1.1 (by decide) ⟨by omega, by omega⟩ ⟨by omega, by omega⟩) (fun r13 _ _ => ?_)
    exact D_ite (fun _ => D_some ⟨g1, a1⟩) (fun _ => go)
theorem b81 {j : Nat} (h : j % 4 ≠ 1) : BM 81 j = fullB := by
  show (bif Nat.beq (j % 4) 1 then ((0 : Int), (23 : Int)) else fullB) = fullB
  cases q : Nat.beq (j % 4) 1 with
  | false => rfl
  | true => exact absurd (Nat.eq_of_beq_eq_true q) h
theorem b81p {j : Nat} (h : j % 4 = 1) : BM 81 j = (0, 23) := by
  show (bif Nat.beq (j % 4) 1 then ((0 : Int), (23 : Int)) else fullB) = _
  rw [h]
  rfl
theorem R_noted (S : Tr) (x1 x2 x3 x4 : Int32) (h : jR S) (h78 : (S 0 78).toInt ≤ 23) (hx2 : 0 ≤ x2.toInt ∧ x2.toInt ≤ 23) (hz : 0 ≤ x1.toInt → x2.toInt ≤ 9) : D (f_X8_noted S x1 x2 x3 x4) (fun q => jR q.2 ∧ aW S q.2) := by
  obtain ⟨h1, h2, h3, h4, h5, h6⟩ := h
  have b : (0 : Int) ≤ (S 0 78).toInt ∧ (S 0 78).toInt ≤ 24 := h1 0 78
  obtain ⟨n, hn⟩ : ∃ n : Nat, (S 0 78).toInt = n := ⟨(S 0 78).toInt.toNat, by omega⟩
  have cn : (S 0 78).toNatClampNeg = n := by rw [i_cl]; omega
  have e4 := i_mulL (a := (4 : Int32)) (b := S 0 78) 4 (by decide) (by omega) (by omega)
  have q1 := ix4 (x := S 0 78) (c := 1) (k := 1) ⟨b.1, b.2⟩ (by decide) (by decide)
  have q2 := ix4 (x := S 0 78) (c := 2) (k := 2) ⟨b.1, b.2⟩ (by decide) (by decide)
  have q3 := ix4 (x := S 0 78) (c := 3) (k := 3) ⟨b.1, b.2⟩ (by decide) (by decide)
  have f1 : (((4 : Int32) * (S 0 78)) + 1).toInt = ((4 : Int32) * (S 0 78)).toInt + 1 := i_addK rfl (by decide) (by omega) (by omega)
  have f2 : (((4 : Int32) * (S 0 78)) + 2).toInt = ((4 : Int32) * (S 0 78)).toInt + 2 := i_addK rfl (by decide) (by omega) (by omega)
  have f3 : (((4 : Int32) * (S 0 78)) + 3).toInt = ((4 : Int32) * (S 0 78)).toInt + 3 := i_addK rfl (by decide) (by omega) (by omega)
  rw [cn] at q1 q2 q3
  unfold f_X8_noted
  refine D_ck (okI_of (by omega) (by omega)) ?_
  rw [q1.2]
  refine D_lt (fun S2 e2 => ?_)
  have k2 : S2 0 78 = S 0 78 := by rw [e2, st_oth (by decide)]
  rw [k2]
  refine D_ck (okI_of (by omega) (by omega)) ?_
  rw [q1.1]
  refine D_lt (fun S4 e4' => ?_)
  have k4 : S4 0 78 = S 0 78 := by rw [e4', st_oth (by decide), k2]
  rw [k4]
  refine D_ck (okI_of (by omega) (by omega)) ?_
  rw [q2.1]
  refine D_lt (fun S6 e6 => ?_)
  have k6 : S6 0 78 = S 0 78 := by rw [e6, st_oth (by decide), k4]
  rw [k6]
  refine D_ck (okI_of (by omega) (by omega)) ?_
  rw [q3.1]
  refine D_lt (fun S8 e8 => ?_)
  have k8 : S8 0 78 = S 0 78 := by rw [e8, st_oth (by decide), k6]
  rw [k8]
  refine D_lt (fun S9 e9 => ?_)
  have f9 : (S 0 78 + 1).toInt = (S 0 78).toInt + 1 := i_addK rfl (by decide) (by omega) (by omega)
  have B2 : iR BM S2 := by rw [e2]; exact iR_setU h1 (b81 (by omega))
  have B4 : iR BM S4 := by rw [e4']; exact iR_set B2 (by rw [b81p (by omega)]; exact hx2.1) (by rw [b81p (by omega)]; exact hx2.2)
  have B6 : iR BM S6 := by rw [e6]; exact iR_setU B4 (b81 (by omega))
  have B8 : iR BM S8 := by rw [e8]; exact iR_setU B6 (b81 (by omega))
  have B9 : iR BM S9 := by rw [e9]; exact iR_set B8 (show (0 : Int) ≤ _ by omega) (show _ ≤ (24 : Int) by omega)
  have o : ∀ a j, a ≠ 81 → ¬ (a = 0 ∧ j = 78) → S9 a j = S a j := fun a j z1 z2 => by
    rw [e9]
    rcases st_or (S := S8) (a := 0) (i := 78) (b := a) (j := j) (v := S 0 78 + 1) with z | z
    · rw [z, e8, st_oth z1, e6, st_oth z1, e4', st_oth z1, e2, st_oth z1]
    · exact absurd z z2
  have aw : aW S S9 := fun a j hf => o a j (Wg_f hf).2.2.2.2.2.2.1 (fun z => (Wg_f hf).2.2.2.2.2.2.2 ⟨z.1, by omega⟩)
  have c81 : ∀ j, S9 81 j = S8 81 j := fun j => by rw [e9, st_oth (by decide)]
  refine D_some (show jR S9 ∧ aW S S9 from ⟨⟨B9, pI_aW h2 aw, gI_fr h3 (fun j => o 53 j (by decide) (by omega)) (fun j => o 54 j (by decide) (by omega)) (fun j => o 55 j (by decide) (by omega)) (fun j => o 56 j (by decide) (by omega)) (fun j => o 58 j (by decide) (by omega)) (o 0 13 (by decide) (by omega)) (o 0 14 (by decide) (by omega)), uI_fr h1 h4 (fun j => o 84 j (by decide) (by omega)) (fun j _ => o 53 j (by decide) (by omega)) (Int.le_of_eq (by rw [o 0 82 (by decide) (by omega)])) (o 0 13 (by decide) (by omega)) (o 0 14 (by decide) (by omega)), vI_fr h1 h5 (fun j => o 86 j (by decide) (by omega)) (fun j => o 87 j (by decide) (by omega)) (o 0 84 (by decide) (by omega)) (o 0 13 (by decide) (by omega)) (o 0 14 (by decide) (by omega)), fun k hk => ?_⟩, aw⟩)
  rw [c81] at hk ⊢
  by_cases q : k = n
  · subst q
    have a0 : S8 81 (4 * k) = x1 := by rw [e8, st_ne (by omega), e6, st_ne (by omega), e4', st_ne (by omega), e2, st_same]
    have a1 : S8 81 (4 * k + 1) = x2 := by rw [e8, st_ne (by omega), e6, st_ne (by omega), e4', st_same]
    rw [a0] at hk
    rw [a1]
    exact hz hk
  · have a0 : S8 81 (4 * k) = S 81 (4 * k) := by rw [e8, st_ne (by omega), e6, st_ne (by omega), e4', st_ne (by omega), e2, st_ne (by omega)]
    have a1 : S8 81 (4 * k + 1) = S 81 (4 * k + 1) := by rw [e8, st_ne (by omega), e6, st_ne (by omega), e4', st_ne (by omega), e2, st_ne (by omega)]
    rw [a0] at hk
    rw [a1]
    exact h6 k hk
theorem R_strike (S : Tr) (x1 : Int32) (h : jR S) : D (f_X8_strike S x1) (fun q => jR q.2 ∧ aW S q.2) := by
  have g1 := jR_thr (v := 0) h
  unfold f_X8_strike
  refine D_lt (fun S1 e1 => ?_)
  rw [← e1] at g1
  have a1 : aW S S1 := by rw [e1]; exact aW_T thr_T
  have b : (0 : Int) ≤ (S1 0 78).toInt ∧ (S1 0 78).toInt ≤ 24 := g1.1 0 78
  refine D_ite (fun c => D_some ⟨g1, a1⟩) (fun c => ?_)
  have k := tq_eqn (b := 24) rfl (by decide) c
  refine D_ite (fun c2 => D_some ⟨g1, a1⟩) (fun c2 => ?_)
  have k2 := tq_ltn (b := 0) rfl (by decide) c2
  refine D_ite (fun c3 => ?_) (fun c3 => D_some ⟨g1, a1⟩)
  have k3 := tq_lt rfl rfl c3
  refine D_bd2 (R_noted S1 (-1) x1 0 0 g1 (by omega) ⟨by omega, by omega⟩ (fun q => absurd q (by decide))) (fun r5 S6 _ q6 => ?_)
  refine D_lte (y := r5) rfl ?_
  refine D_lte (y := S6) rfl ?_
  exact D_some ⟨q6.1, aW_tr a1 q6.2⟩
