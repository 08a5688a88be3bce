/-! a stop passed by both -/
theorem bd_eta {α β : Type} {x : Option (α × β)} : (bd x fun q => lt q.1 fun a => lt q.2 fun c => some (a, c)) = x := by
  cases x with
  | none => rfl
  | some q => rfl
def goJ (xb : Int32) (S : Tr) (L : Lo) : Option (Tr × Lo) := ck (okI xb 2) (if 20 ≤ (S 62 xb.toNatClampNeg) then (fJ_X8_goOn_J26 xb S L) else (bd (f_X8_onTheWay S L xb) fun q => lt q.1 fun S_12 => lt q.2 fun L_13 => fJ_X8_goOn_J26 xb S_12 L_13))
theorem e_wyJ {b : Nat} {P T S : Tr} {L Lc : Lo} {xb : Int32} (hb : xb.toNatClampNeg = b) (hxb : 0 ≤ xb.toInt ∧ xb.toInt ≤ 1) (hR : Rl b P T S) (hd : drw T L) (hst : (S 62 b).toInt ≤ 20) (h0 : S 62 b = 20 → ∀ i : Nat, (i : Int) < (S 0 14).toInt → ¬ S 53 (10 * b + i) = 1) : E2 (f_X6_wayOn T P Lc) (goJ xb S L) (wyQ b P T S L) := by
  have b62 : 0 ≤ (S 62 b).toInt ∧ (S 62 b).toInt ≤ 21 := hR.1.1 62 b
  unfold goJ
  rw [hb]
  refine E2_ckr (fun _ => E2_itr (fun g => ?_) (fun _ => e_way hb hxb hR hd hst))
  have g : (20 : Int32).toInt ≤ (S 62 b).toInt := Int32.le_iff_toInt_le.mp g
  rw [show (20 : Int32).toInt = 20 by decide] at g
  have e20 : S 62 b = 20 := Int32.toInt_inj.mp (by rw [show (20 : Int32).toInt = 20 by decide]; omega)
  have h0 := h0 e20
  have t00 : T 0 0 = S 62 b := hR.2.2.2.1.1
  have v1 : (S 62 b + 1).toInt = (S 62 b).toInt + 1 := i_addK rfl (by decide) (by omega) (by omega)
  unfold f_X6_wayOn
  refine E2_bl (fa_0 hR h0) (fun q hq => E2_ltl (fun _ _ => E2_ltl (fun T2 e2 => E2_ltl (fun L3 _ => ?_))))
  have e2 : T2 = T := e2.trans hq
  rw [e2]
  refine E2_bl (sa_0 hR h0) (fun q2 hq2 => E2_ltl (fun T6 e6 => E2_ltl (fun L7 _ => E2_ltl (fun T10 e10 => ?_))))
  have e6 : T6 = T := e6.trans hq2
  rw [e6] at e10
  unfold fJ_X8_goOn_J26
  rw [hb]
  refine E2_ckr (fun _ => E2_ltr (fun S11 e11 => E2_some ?_))
  have hR3 : Rl b P T10 S11 := by rw [e10, e11, t00]; exact Rl_stop hR (by omega) (by omega)
  have t5 : T10 0 5 = T 0 5 := by rw [e10, st_ne (by omega)]
  have t2 : T10 0 2 = T 0 2 := by rw [e10, st_ne (by omega)]
  refine ⟨hR3, drw_e hd t5 t2 rfl, ?_, ?_, oD_r, fun a j n1 n2 => ?_, fun a j n1 n2 n3 => ?_, fun i hi => Or.inl ?_⟩
  · show S11 62 b = S 62 b + 1
    rw [e11, st_same]
  · show aM b S S11
    rw [e11]; exact aM_s aM_r Mb_62
  · show T10 a j = T a j
    rw [e10, st_no (by omega)]
  · show S11 a j = S a j
    rw [e11, st_no n3]
  · show S11 53 (10 * b + i) = S 53 (10 * b + i)
    rw [e11, st_oth (by omega)]
/-- out and in -/
def diQ (b : Nat) (P T0 S0 : Tr) (L0 : Lo) (T8 S5 : Tr) (L2 : Lo) : Prop := Rl b P T8 S5 ∧ (drw T0 L0 → drw T8 L2) ∧ S5 62 b = S0 62 b ∧ aM b S0 S5 ∧ oL L0 L2 ∧ (∀ a j, ¬ (a = 0 ∧ j = 1) → ¬ (a = 11 ∨ a = 12) → ¬ (14 ≤ a ∧ a ≤ 19) → T8 a j = T0 a j) ∧ (∀ a j, ¬ (a = 0 ∧ (j = 51 ∨ j = 72)) → ¬ (53 ≤ a ∧ a ≤ 56) → ¬ (59 ≤ a ∧ a ≤ 61) → ¬ a = 63 → S5 a j = S0 a j) ∧ S5 63 b = fld P T8 (S0 63 b) (S0 0 12).toNatClampNeg ∧ (S0 62 b = 20 → ∀ i : Nat, (i : Int) < (S0 0 14).toInt → ¬ S5 53 (10 * b + i) = 1)
theorem e_di {α β : Type} {Q : α → β → Prop} {K : Tr → Lo → Option α} {K' : Tr → Lo → Option β} {b : Nat} {P T S : Tr} {L Lc : Lo} {xb x1 : Int32} (hb : xb.toNatClampNeg = b) (hxb : 0 ≤ xb.toInt ∧ xb.toInt ≤ 1) (hR : Rl b P T S) (lim : oLim b S x1) (hst : (S 62 b).toInt ≤ 20) (hk : ∀ T8 Lc5 S5 L2, diQ b P T S L T8 S5 L2 → E2 (K T8 Lc5) (K' S5 L2) Q) : E2 (bd (f_X6_takeDown T P Lc x1) fun q => lt q.1 fun _r3 => lt q.2.1 fun T_4 => lt q.2.2 fun L_5 => bd (f_X6_getIn T_4 P) fun T_8 => K T_8 L_5) (bd (f_X8_outs S L xb) fun q => lt q.1 fun S_1 => lt q.2 fun L_2 => bd (f_X8_ins S_1 xb) fun S_5 => K' S_5 L_2) Q := by
  refine E2_bd (e_outs hb hxb hR lim hst) (fun q q' hq => E2_ltl (fun _ _ => E2_ltl (fun T4 e4 => E2_ltl (fun L5 _ => E2_ltr (fun S1 e1 => E2_ltr (fun L2 e2 => ?_))))))
  obtain ⟨hR1, _, _, fT, fS, am, oLL, _, h20⟩ := hq
  rw [← e4, ← e1] at hR1
  rw [← e4] at fT
  rw [← e1] at fS am h20
  rw [← e2] at oLL
  have s62 : S1 62 b = S 62 b := fS 62 b (by omega) (by omega) (by omega)
  have s13 : S1 0 13 = S 0 13 := fS 0 13 (by omega) (by omega) (by omega)
  have s12 : S1 0 12 = S 0 12 := fS 0 12 (by omega) (by omega) (by omega)
  have s63 : S1 63 b = S 63 b := fS 63 b (by omega) (by omega) (by omega)
  have hin : E2 (f_X6_getIn T4 P) (f_X8_ins S1 xb) (fun T8 S5 => inQ b P T4 S1 T8 S5 ∧ (S 62 b = 20 → ∀ a j, ¬ (a = 63 ∧ j = b) → S5 a j = S1 a j)) := fun u v eu ev => ⟨e_ins hb hxb hR1 u v eu ev, fun c => in_20 hb hxb hR1 (fun p hp g => by
    have w := (hR1.2.2.2.2.2 p hp).2.2
    rw [g, s62, c, show (20 : Int32).toInt = 20 by decide] at w
    omega) v ev⟩
  refine E2_bd hin (fun T8 S5 hi => hk T8 L5 S5 L2 ?_)
  obtain ⟨⟨hR8, ag, gT, gS, _, fd⟩, z20⟩ := hi
  have am2 : aM b S1 S5 := aM_fx ag ⟨fun j _ => gS 0 j (by omega), fun a j h => gS a j (by omega)⟩
  have t5 : T8 0 5 = T 0 5 := (gT 0 5 (by omega)).trans (fT 0 5 (by omega) (by omega) (by omega))
  have t2 : T8 0 2 = T 0 2 := (gT 0 2 (by omega)).trans (fT 0 2 (by omega) (by omega) (by omega))
  refine ⟨hR8, fun d => drw_e d t5 t2 (oLL 0 63 (by decide) (by decide)), (gS 62 b (by omega)).trans s62, aM_t am am2, oLL, fun a j n1 n2 n3 => (gT a j (by omega)).trans (fT a j n1 n2 n3), fun a j n1 n2 n3 n4 => (gS a j (by omega)).trans (fS a j n1 n2 n3), ?_, fun c i hi => ?_⟩
  · rw [fd, s63, s12]
  · rw [z20 c 53 _ (by omega)]
    exact (h20 c).1 i hi
/-- a stop -/
def gpQ (b : Nat) (P T0 S0 : Tr) (L0 : Lo) (q q' : Tr × Lo) : Prop := ∃ T8 S5 L2, diQ b P T0 S0 L0 T8 S5 L2 ∧ wyQ b P T8 S5 L2 q q'
theorem lim_0 {b : Nat} {P T S : Tr} (hR : Rl b P T S) (h70 : S 0 70 = 0) (hst : (S 62 b).toInt ≤ 20) : oLim b S (P 18 (T 0 0).toNatClampNeg) := by
  have b62 : 0 ≤ (S 62 b).toInt ∧ (S 62 b).toInt ≤ 21 := hR.1.1 62 b
  have t00 : T 0 0 = S 62 b := hR.2.2.2.1.1
  refine Or.inl ⟨h70, ?_⟩
  rw [t00]
  exact hR.2.1.2.2.2.2.1 _ (by rw [i_cl]; omega)
def tgw (T P : Tr) (L : Lo) (x1 : Int32) : Option (Tr × Lo) := bd (f_X6_takeDown T P L x1) fun q => lt q.1 fun _r3 => lt q.2.1 fun T_4 => lt q.2.2 fun L_5 => bd (f_X6_getIn T_4 P) fun T_8 => f_X6_wayOn T_8 P L_5
theorem e_goB {b : Nat} {P T S : Tr} {L Lc : Lo} {xb x1 : Int32} (hb : xb.toNatClampNeg = b) (hxb : 0 ≤ xb.toInt ∧ xb.toInt ≤ 1) (hR : Rl b P T S) (hd : drw T L) (lim : oLim b S x1) (hst : (S 62 b).toInt ≤ 20) : E2 (tgw T P Lc x1) (f_X8_goOn S L xb) (gpQ b P T S L) := by
  unfold tgw f_X8_goOn
  refine e_di hb hxb hR lim hst (K := fun T8 L5 => f_X6_wayOn T8 P L5) (K' := fun S5 L2 => goJ xb S5 L2) (fun T8 Lc5 S5 L2 hq => ?_)
  exact E2_mono (e_wyJ hb hxb hq.1 (hq.2.1 hd) (by rw [hq.2.2.1]; exact hst) (fun c i hi => hq.2.2.2.2.2.2.2.2 (hq.2.2.1.symm.trans c) i (by rw [← hq.2.2.2.2.2.2.1 0 14 (by omega) (by omega) (by omega) (by omega)]; exact hi))) (fun q q' h => ⟨T8, S5, L2, hq, h⟩)
theorem pass_tgw {T P : Tr} {L : Lo} (h : ¬ (20 : Int32) < T 0 0) : f_X6_passStop T P L = ck (okI (T 0 0) 21) (tgw T P L (P 18 (T 0 0).toNatClampNeg)) := by
  unfold f_X6_passStop tgw
  rw [if_neg h]
  congr 1
  cases f_X6_takeDown T P L (P 18 (T 0 0).toNatClampNeg) with
  | none => rfl
  | some q =>
    show (bd (f_X6_getIn q.2.1 P) fun T_8 => bd (f_X6_wayOn T_8 P q.2.2) fun q => lt q.1 fun a => lt q.2 fun c => some (a, c)) = bd (f_X6_getIn q.2.1 P) fun T_8 => f_X6_wayOn T_8 P q.2.2
    cases f_X6_getIn q.2.1 P with
    | none => rfl
    | some t => exact bd_eta
theorem e_pass {b : Nat} {P T S : Tr} {L Lc : Lo} {xb : Int32} (hb : xb.toNatClampNeg = b) (hxb : 0 ≤ xb.toInt ∧ xb.toInt ≤ 1) (hR : Rl b P T S) (hd : drw T L) (h70 : S 0 70 = 0) (hst : (S 62 b).toInt ≤ 20) : E2 (f_X6_passStop T P Lc) (f_X8_goOn S L xb) (gpQ b P T S L) := by
  have t00 : T 0 0 = S 62 b := hR.2.2.2.1.1
  rw [pass_tgw (fun g => by
    have g := Int32.lt_iff_toInt_lt.mp g
    rw [t00, show (20 : Int32).toInt = 20 by decide] at g
    omega)]
  exact E2_ckl (fun _ => e_goB hb hxb hR hd (lim_0 hR h70 hst) hst)
/-- what a stop leaves -/
def psQ (b : Nat) (P T0 S0 : Tr) (L0 : Lo) (T1 S1 : Tr) (L1 : Lo) : Prop := Rl b P T1 S1 ∧ drw T1 L1 ∧ (S1 62 b).toInt = (S0 62 b).toInt + 1 ∧ aM b S0 S1 ∧ oD L0 L1 ∧ (∀ a j, ¬ (a = 0 ∧ j ≤ 2) → ¬ (a = 11 ∨ a = 12) → ¬ (14 ≤ a ∧ a ≤ 19) → T1 a j = T0 a j)
theorem ps_of {b : Nat} {P T S : Tr} {L : Lo} {q q' : Tr × Lo} (h : gpQ b P T S L q q') (hst : (S 62 b).toInt ≤ 20) (h0 : 0 ≤ (S 62 b).toInt) : psQ b P T S L q.1 q'.1 q'.2 := by
  obtain ⟨T8, S5, L2, h1, h2⟩ := h
  obtain ⟨_, _, s62, am, oLL, fT, _, _, _⟩ := h1
  obtain ⟨hR, hd, w62, am2, oD2, gT, _, _⟩ := h2
  refine ⟨hR, hd, ?_, aM_t am am2, oD_t (oD_L oLL) oD2, fun a j n1 n2 n3 => (gT a j (by omega) n3).trans (fT a j (by omega) n2 n3)⟩
  rw [w62, s62]
  exact i_addK rfl (by decide) (by omega) (by omega)
