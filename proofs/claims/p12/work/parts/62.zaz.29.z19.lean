/-! on to the next stop -/
theorem E2_b3 {α β γ δ ε : Type} {Q : α → β → Prop} {x : Option γ} {f : γ → Option δ} {k : δ → Option α} {y : Option ε} {k' : ε → Option β} {R : δ → ε → Prop} (h1 : E2 (bd x f) y R) (h : ∀ a b, R a b → E2 (k a) (k' b) Q) : E2 (bd x fun c => bd (f c) k) (bd y k') Q := by
  rw [← bd_bd]; exact E2_bd h1 h
def wyQ (b : Nat) (P T0 S0 : Tr) (L0 : Lo) (q q' : Tr × Lo) : Prop := Rl b P q.1 q'.1 ∧ drw q.1 q'.2 ∧ q'.1 62 b = S0 62 b + 1 ∧ aM b S0 q'.1 ∧ oD L0 q'.2 ∧ (∀ a j, ¬ (a = 0 ∧ (j = 0 ∨ j = 2)) → ¬ (14 ≤ a ∧ a ≤ 19) → q.1 a j = T0 a j) ∧ (∀ a j, ¬ (a = 0 ∧ j = 51) → ¬ (53 ≤ a ∧ a ≤ 56) → ¬ (a = 62 ∧ j = b) → q'.1 a j = S0 a j) ∧ ∀ i : Nat, (i : Int) < (S0 0 14).toInt → q'.1 53 (10 * b + i) = S0 53 (10 * b + i) ∨ (S0 53 (10 * b + i) = 1 ∧ (q'.1 53 (10 * b + i) = 3 ∨ q'.1 53 (10 * b + i) = 4))
theorem e_way {b : Nat} {P T S : Tr} {L Lc : Lo} {xb : Int32} (hb : xb.toNatClampNeg = b) (hxb : 0 ≤ xb.toInt ∧ xb.toInt ≤ 1) (hR : Rl b P T S) (hd : drw T L) (hst : (S 62 b).toInt ≤ 20) : E2 (f_X6_wayOn T P Lc) (bd (f_X8_onTheWay S L xb) fun q => lt q.1 fun S_12 => lt q.2 fun L_13 => fJ_X8_goOn_J26 xb S_12 L_13) (wyQ b P T S L) := by
  have core : E2 (bd (f_X6_fallOff T P Lc) fun q => f_X6_stealAway q.2.1 P q.2.2) (f_X8_onTheWay S L xb) (fun q q' => ∃ T1 S1 L1, wFr b 3 T S L T1 S1 L1 ∧ saQ b P T1 S1 L1 q q') := by
    unfold f_X6_fallOff fL_X6_fallOff_L4 f_X8_onTheWay fL_X8_onTheWay_L2
    refine e_fa (T0 := T) (S0 := S) (L0 := L) hb hxb (fun m T1 Lc1 S1 L1 hF => ?_) 2000 0 0 0 T S L Lc (by decide) (by omega) ⟨hR, hd, wFr_r, (mkf_0 (fun k _ => decide_eq_false (fun g => g.2 g.1))).symm⟩
    unfold f_X6_stealAway fL_X6_stealAway_L2 fL_X8_onTheWay_L90
    exact E2_mono (e_sa hb hxb 2000 0 0 T1 S1 L1 Lc1 (by decide) (by omega) hF.1 hF.2.1 wFr_r) (fun q q' h => ⟨T1, S1, L1, hF.2.2.1, h⟩)
  unfold f_X6_wayOn
  refine E2_b3 (f := fun (q : Int32 × Tr × Lo) => f_X6_stealAway q.2.1 P q.2.2) (k := fun (q : Tr × Lo) => lt q.1 fun T_6 => lt q.2 fun L_7 => lt (st T_6 0 0 ((T_6 0 0) + 1)) fun T_10 => some (T_10, L_7)) core (fun q q' hq => ?_)
  obtain ⟨T1, S1, L1, w3, hR2, hd2, w4⟩ := hq
  refine E2_ltl (fun T6 e6 => E2_ltl (fun L7 _ => E2_ltl (fun T10 e10 => E2_ltr (fun S12 e12 => E2_ltr (fun L13 e13 => ?_)))))
  have hR2 : Rl b P T6 S12 := by rw [e6, e12]; exact hR2
  have hd2 : drw T6 L13 := by rw [e6, e13]; exact hd2
  have w4 : wFr b 4 T1 S1 L1 T6 S12 L13 := by rw [e6, e12, e13]; exact w4
  have s62 : S12 62 b = S 62 b := (w4.2.1 62 b (by omega) (by omega)).trans (w3.2.1 62 b (by omega) (by omega))
  have t00 : T6 0 0 = S12 62 b := hR2.2.2.2.1.1
  have b62 : 0 ≤ (S 62 b).toInt ∧ (S 62 b).toInt ≤ 21 := hR.1.1 62 b
  have v1 : (S12 62 b + 1).toInt = (S 62 b).toInt + 1 := by rw [s62]; exact i_addK rfl (by decide) (by omega) (by omega)
  unfold fJ_X8_goOn_J26
  rw [hb]
  refine E2_ckr (fun _ => E2_ltr (fun S11 e11 => E2_some ?_))
  have hR3 : Rl b P T10 S11 := by rw [e10, e11, t00]; exact Rl_stop hR2 (by omega) (by omega)
  have s14 : S1 0 14 = S 0 14 := w3.2.1 0 14 (by omega) (by omega)
  have t5 : T10 0 5 = T6 0 5 := by rw [e10, st_ne (by omega)]
  have t2 : T10 0 2 = T6 0 2 := by rw [e10, st_ne (by omega)]
  refine ⟨hR3, drw_e hd2 t5 t2 rfl, ?_, ?_, oD_t w3.2.2.2.1 w4.2.2.2.1, fun a j n1 n2 => ?_, fun a j n1 n2 n3 => ?_, fun i hi => ?_⟩
  · show S11 62 b = S 62 b + 1
    rw [e11, st_same, s62]
  · show aM b S S11
    rw [e11]; exact aM_s (aM_t w3.2.2.1 w4.2.2.1) Mb_62
  · show T10 a j = T a j
    rw [e10, st_no (by omega), w4.1 a j (by omega) n2, w3.1 a j (by omega) n2]
  · show S11 a j = S a j
    rw [e11, st_no n3, w4.2.1 a j n1 n2, w3.2.1 a j n1 n2]
  · show S11 53 (10 * b + i) = S 53 (10 * b + i) ∨ (S 53 (10 * b + i) = 1 ∧ (S11 53 (10 * b + i) = 3 ∨ S11 53 (10 * b + i) = 4))
    rw [e11, st_oth (by omega)]
    rcases w4.2.2.2.2 i (by rw [s14]; exact hi) with x | ⟨x1, x2⟩
    · rcases w3.2.2.2.2 i hi with y | ⟨y1, y2⟩
      · exact Or.inl (x.trans y)
      · exact Or.inr ⟨y1, Or.inl (x.trans y2)⟩
    · rcases w3.2.2.2.2 i hi with y | ⟨y1, y2⟩
      · exact Or.inr ⟨y.symm.trans x1, Or.inr x2⟩
      · rw [y2] at x1; exact absurd x1 (by decide)
