/-! to the end -/
theorem bz {b : Nat} {P T S : Tr} (hR : Rl b P T S) : Ep (f_X6_isBusy T P) (fun r => (r = 0 ∧ idle b S) ∨ r = 1) := by
  obtain ⟨⟨hS, _, _⟩, hK, _, hd, hv⟩ := hR
  have h13 : 0 ≤ (S 0 13).toInt ∧ (S 0 13).toInt ≤ 6 := hS 0 13
  have p13 : P 0 1 = S 0 13 := hK.1.2.1
  have lp : ∀ (N n : Nat) (x : Int32), x.toInt = n → n ≤ 6 → (∀ p : Nat, p < n → S 59 (6 * b + p) = 2) → Ep (lpF (fun _ => none) (fB_X6_isBusy_L2 T P) N x) (fun r => (r = 0 ∧ idle b S) ∨ r = 1) := by
    intro N
    induction N with
    | zero => intro n x _ _ _; exact Ep_none
    | succ N ih =>
      intro n x hx hn hz
      show Ep (fB_X6_isBusy_L2 T P (lpF (fun _ => none) (fB_X6_isBusy_L2 T P) N) x) _
      generalize lpF (fun _ => none) (fB_X6_isBusy_L2 T P) N = k at ih ⊢
      unfold fB_X6_isBusy_L2
      rw [p13]
      refine Ep_ite (fun c => ?_) (fun c => ?_)
      · have := tq_le rfl hx c
        exact Ep_some (Or.inl ⟨rfl, fun p hp => hz p (by omega)⟩)
      · have lt := tq_len rfl hx c
        rw [i_cn hx, (hd.2.2.1 n lt).1]
        refine Ep_ck (Ep_ite (fun g => Ep_lt (fun y ey => ih (n + 1) y (by rw [ey]; exact i_p1 hx (by omega)) (by omega) (fun p hp => ?_))) (fun _ => Ep_some (Or.inr rfl)))
        rcases (by omega : p < n ∨ p = n) with q | rfl
        · exact hz p q
        · exact g
  unfold f_X6_isBusy fL_X6_isBusy_L2
  exact lp 2000 0 0 (by decide) (by omega) (fun p hp => absurd hp (by omega))
theorem run_in {T P : Tr} {L : Lo} {x : Int32} {k0 : Tr → Lo → Option (Tr × Lo)} : (bd (f_X6_takeDown T P L x) fun q => lt q.1 fun _r7 => lt q.2.1 fun T_8 => lt q.2.2 fun L_9 => bd (f_X6_getIn T_8 P) fun T_12 => bd (f_X6_fallOff T_12 P L_9) fun q => lt q.1 fun _r15 => lt q.2.1 fun T_16 => lt q.2.2 fun L_17 => bd (f_X6_stealAway T_16 P L_17) fun q => lt q.1 fun T_20 => lt q.2 fun L_21 => lt (st T_20 0 0 ((T_20 0 0) + 1)) fun T_24 => k0 T_24 L_21) = bd (tgw T P L x) (fun q => k0 q.1 q.2) := by
  unfold tgw
  cases f_X6_takeDown T P L x with
  | none => rfl
  | some q =>
    show (bd (f_X6_getIn q.2.1 P) fun T_12 => bd (f_X6_fallOff T_12 P q.2.2) fun q => lt q.1 fun _r15 => lt q.2.1 fun T_16 => lt q.2.2 fun L_17 => bd (f_X6_stealAway T_16 P L_17) fun q => lt q.1 fun T_20 => lt q.2 fun L_21 => lt (st T_20 0 0 ((T_20 0 0) + 1)) fun T_24 => k0 T_24 L_21) = bd (bd (f_X6_getIn q.2.1 P) fun T_8 => f_X6_wayOn T_8 P q.2.2) (fun q => k0 q.1 q.2)
    cases f_X6_getIn q.2.1 P with
    | none => rfl
    | some t =>
      show (bd (f_X6_fallOff t P q.2.2) fun q => lt q.1 fun _r15 => lt q.2.1 fun T_16 => lt q.2.2 fun L_17 => bd (f_X6_stealAway T_16 P L_17) fun q => lt q.1 fun T_20 => lt q.2 fun L_21 => lt (st T_20 0 0 ((T_20 0 0) + 1)) fun T_24 => k0 T_24 L_21) = bd (f_X6_wayOn t P q.2.2) (fun q => k0 q.1 q.2)
      unfold f_X6_wayOn
      cases f_X6_fallOff t P q.2.2 with
      | none => rfl
      | some u =>
        show (bd (f_X6_stealAway u.2.1 P u.2.2) fun q => lt q.1 fun T_20 => lt q.2 fun L_21 => lt (st T_20 0 0 ((T_20 0 0) + 1)) fun T_24 => k0 T_24 L_21) = bd (bd (f_X6_stealAway u.2.1 P u.2.2) fun q => lt q.1 fun T_6 => lt q.2 fun L_7 => lt (st T_6 0 0 ((T_6 0 0) + 1)) fun T_10 => some (T_10, L_7)) (fun q => k0 q.1 q.2)
        cases f_X6_stealAway u.2.1 P u.2.2 with
        | none => rfl
        | some v => rfl
def rF (T0 S0 : Tr) (L0 : Lo) (T S : Tr) (L : Lo) : Prop := aM 1 S0 S ∧ oD L0 L ∧ ∀ a j, ¬ (a = 0 ∧ j ≤ 2) → ¬ (a = 11 ∨ a = 12) → ¬ (14 ≤ a ∧ a ≤ 19) → T a j = T0 a j
theorem rF_r {T S : Tr} {L : Lo} : rF T S L T S L := ⟨aM_r, oD_r, fun _ _ _ _ _ => rfl⟩
def rnQ (P T0 S0 : Tr) (L0 : Lo) (q q' : Tr × Lo) : Prop := rI 1 q'.1 ∧ pK P q'.1 ∧ inv 1 q'.1 ∧ drw q.1 q'.2 ∧ rF T0 S0 L0 q.1 q'.1 q'.2 ∧ q.1 0 1 = q'.1 61 1 ∧ (∀ p : Nat, (p : Int) < (S0 0 13).toInt → q.1 12 p = q'.1 60 (6 * 1 + p)) ∧ ∀ i : Nat, (i : Int) < (S0 0 14).toInt → q.1 14 i = q'.1 53 (10 * 1 + i)
theorem e_rn {P T0 S0 : Tr} {L0 : Lo} (h70 : S0 0 70 = 0) (N : Nat) : ∀ (M : Nat) (T S : Tr) (L Lc : Lo), Rl 1 P T S → drw T L → rF T0 S0 L0 T S L → E2 (lpF (fun _ _ => none) (fB_X6_runToEnd_L0 P) N T Lc) (lpF (fun _ _ => none) (fB_X8_toEnd_L0) M S L) (rnQ P T0 S0 L0) := by
  induction N with
  | zero => intro M T S L Lc _ _ _; exact E2_nl
  | succ N ih =>
    intro M T S L Lc hR hd hf
    have t00 : T 0 0 = S 62 1 := hR.2.2.2.1.1
    have b62 : 0 ≤ (S 62 1).toInt ∧ (S 62 1).toInt ≤ 21 := hR.1.1 62 1
    have e13 : S 0 13 = S0 0 13 := hf.1 0 13 (aM_0 (by omega) (by omega))
    have e14 : S 0 14 = S0 0 14 := hf.1 0 14 (aM_0 (by omega) (by omega))
    have e70 : S 0 70 = 0 := (hf.1 0 70 (aM_0 (by omega) (by omega))).trans h70
    show E2 (fB_X6_runToEnd_L0 P (lpF (fun _ _ => none) (fB_X6_runToEnd_L0 P) N) T Lc) _ _
    generalize lpF (fun _ _ => none) (fB_X6_runToEnd_L0 P) N = k at ih ⊢
    unfold fB_X6_runToEnd_L0
    by_cases c : (20 : Int32) < T 0 0
    · rw [if_pos c]
      have c1 := Int32.lt_iff_toInt_lt.mp c
      rw [t00, show (20 : Int32).toInt = 20 by decide] at c1
      have c21 : (21 : Int32) ≤ S 62 1 := Int32.le_iff_toInt_le.mpr (by rw [show (21 : Int32).toInt = 21 by decide]; omega)
      cases M with
      | zero => exact E2_nr
      | succ M =>
        show E2 _ (fB_X8_toEnd_L0 (lpF (fun _ _ => none) (fB_X8_toEnd_L0) M) S L) _
        unfold fB_X8_toEnd_L0
        rw [if_pos c21]
        exact E2_some ⟨hR.1, hR.2.1, hR.2.2.2.2, hd, hf, hR.2.2.2.1.2.1, fun p hp => (hR.2.2.2.1.2.2.1 p (by rw [e13]; exact hp)).2, fun i hi => (hR.2.2.2.1.2.2.2.1 i (by rw [e14]; exact hi)).1⟩
    · rw [if_neg c]
      have c1 : (S 62 1).toInt ≤ 20 := by
        have := tq_ltn (x := (20 : Int32)) (y := T 0 0) (a := 20) (by decide) rfl c
        rw [t00] at this
        exact this
      refine E2_bl (bz hR) (fun r hr => ?_)
      rcases hr with ⟨rfl, hid⟩ | rfl
      · rw [if_pos rfl]
        refine E2_ep (R := fun q => q = (T, Lc)) (Ep_some rfl) (end_id M S L hR.1 hR.2.2.2.2 hid) (fun u v hu hv => ?_)
        obtain ⟨⟨v1, v2, v3, v4, v5, v6⟩, w1, _⟩ := hv
        rw [hu]
        refine ⟨w1, pK_M hR.2.1 v4, v2, ?_, ⟨aM_t hf.1 v4, ?_, hf.2.2⟩, ?_, fun p hp => ?_, fun i hi => ?_⟩
        · rw [v1]; exact hd
        · rw [v1]; exact hf.2.1
        · show T 0 1 = v.1 61 1
          rw [v6 61 1 (by omega) (by omega) (by omega) (by omega) (by omega)]
          exact hR.2.2.2.1.2.1
        · show T 12 p = v.1 60 (6 * 1 + p)
          rw [v6 60 _ (by omega) (by omega) (by omega) (by omega) (by omega)]
          exact (hR.2.2.2.1.2.2.1 p (by rw [e13]; exact hp)).2
        · show T 14 i = v.1 53 (10 * 1 + i)
          rw [(v5 i (by rw [e14]; exact hi)).1]
          exact (hR.2.2.2.1.2.2.2.1 i (by rw [e14]; exact hi)).1
      · rw [if_neg (by decide), run_in]
        refine E2_ckl (fun _ => ?_)
        cases M with
        | zero => exact E2_nr
        | succ M =>
          show E2 _ (fB_X8_toEnd_L0 (lpF (fun _ _ => none) (fB_X8_toEnd_L0) M) S L) _
          unfold fB_X8_toEnd_L0
          have c21 : ¬ (21 : Int32) ≤ S 62 1 := fun g => by
            have g := Int32.le_iff_toInt_le.mp g
            rw [show (21 : Int32).toInt = 21 by decide] at g
            omega
          rw [if_neg c21]
          refine E2_bd (e_goB (b := 1) (xb := 1) (by decide) (by decide) hR hd (lim_0 hR e70 c1) c1) (fun q q' hq => E2_ltr (fun S2 e2 => E2_ltr (fun L3 e3 => ?_)))
          obtain ⟨p1, p2, _, p4, p5, p6⟩ := ps_of hq c1 b62.1
          rw [e2, e3]
          exact ih M q.1 q'.1 q'.2 q.2 p1 p2 ⟨aM_t hf.1 p4, oD_t hf.2.1 p5, fun a j n1 n2 n3 => (p6 a j n1 n2 n3).trans (hf.2.2 a j n1 n2 n3)⟩
theorem e_run {P T S : Tr} {L Lc : Lo} (hR : Rl 1 P T S) (hd : drw T L) (h70 : S 0 70 = 0) : E2 (f_X6_runToEnd T P Lc) (f_X8_toEnd S L) (rnQ P T S L) := by
  unfold f_X6_runToEnd fL_X6_runToEnd_L0 f_X8_toEnd fL_X8_toEnd_L0
  exact e_rn h70 2000 2000 T S L Lc hR hd rF_r
