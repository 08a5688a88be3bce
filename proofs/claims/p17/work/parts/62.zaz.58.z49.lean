-- 62.zaz.58.z49
/-! trials where the number goes on; chance -/
def Nw0 (P T S : Tr) : Prop := rI 0 S ∧ pK P S ∧ dyn 0 P T S ∧ inv 0 S ∧ (∀ p : Nat, (p : Int) < (S 0 13).toInt → T 9 p = S 57 p ∧ T 10 p = S 58 p) ∧ (∀ i : Nat, (i : Int) < (S 0 14).toInt → T 13 i = S 33 i) ∧ (T 0 3 = S 23 0 ∧ T 0 4 = S 23 1 ∧ 0 ≤ (S 23 0).toInt ∧ (S 23 0).toInt ≤ 2 ∧ ¬ T 0 6 = 0 ∧ ¬ T 0 7 = 0)
theorem Nw0_w {P T S : Tr} {L : Lo} (h : Nw P T S L) : Nw0 P T S := ⟨h.1, h.2.1, h.2.2.1, h.2.2.2.1, h.2.2.2.2.1, h.2.2.2.2.2.1, h.2.2.2.2.2.2.1⟩
theorem Nw0_G {P T S S2 : Tr} (h : Nw0 P T S) (hI : rI 0 S2) (a : aG 1 S S2) : Nw0 P T S2 := by
  obtain ⟨hS, hK, hd, hv, n9, n13, nr⟩ := h
  have h13 : 0 ≤ (S 0 13).toInt ∧ (S 0 13).toInt ≤ 6 := hS.1 0 13
  have f : ∀ c j, h0c c j → S2 c j = S c j := fun c j q => a c j (Wb_h q)
  have z : ∀ j, 12 ≤ j → j ≤ 15 → S2 0 j = S 0 j := fun j h1 h2 => f 0 j (Or.inl ⟨rfl, h1, h2⟩)
  have r : ∀ a j, 23 ≤ a → a ≤ 41 → S2 a j = S a j := fun a j h1 h2 => f a j (Or.inr (Or.inl ⟨h1, h2⟩))
  have s6 : ∀ a p, 57 ≤ a → a ≤ 60 → p < 6 → S2 a p = S a p := fun a p h1 h2 h3 => f a p (Or.inr (Or.inr (Or.inr (Or.inr (Or.inr (Or.inl ⟨h1, h2, h3⟩))))))
  refine ⟨hI, pK_o hK z r, dyn0_of hS hd f, inv0_of hS hv f, fun p hp => ?_, fun i hi => ?_, ?_⟩
  · rw [z 13 (by omega) (by omega)] at hp
    rw [s6 57 p (by omega) (by omega) (by omega), s6 58 p (by omega) (by omega) (by omega)]; exact n9 p hp
  · rw [z 14 (by omega) (by omega)] at hi
    rw [r 33 i (by omega) (by omega)]; exact n13 i hi
  · rw [r 23 0 (by omega) (by omega), r 23 1 (by omega) (by omega)]; exact nr
theorem e_startC {P Tn Tu S : Tr} {pa qa : Nat → Nat} {q0 q2 : Nat} (h : Nw0 P Tn S) : E2 (f_X7_startTrial pa qa Tn Tu q0 q2) (f_X8_layTried S) (fun q S1 => Rl 1 P q.1 S1 ∧ trQ Tn S q.1 S1) := by
  obtain ⟨hS, hK, hd, hv, n9, n13, nr⟩ := h
  have h13 : 0 ≤ (S 0 13).toInt ∧ (S 0 13).toInt ≤ 6 := hS.1 0 13
  have h14 : 0 ≤ (S 0 14).toInt ∧ (S 0 14).toInt ≤ 10 := hS.1 0 14
  refine E2_ep (e_stt pa qa Tn Tu q0 q2) (Ep_and (e_layT S) (D_to (t_X8_layTried S hS.1 hS.2.2 hS.2.1))) (fun q S1 hq hs => ?_)
  obtain ⟨⟨hc, hp, hf⟩, r1, rg, r2, r3, _⟩ := hs
  obtain ⟨hA, x5, x6, x7⟩ := id hq
  have g : ∀ a j, a ≤ 52 → ¬ (a = 0 ∧ 64 ≤ j) → S1 a j = S a j := fun a j h n => hf a j (by omega) (by omega) (by omega) (by omega) (by omega) (by omega) (by omega)
  have p65 := hp.2.1 65 (by omega) (by omega)
  have p66 := hp.2.1 66 (by omega) (by omega)
  have p67 := hp.2.1 67 (by omega) (by omega)
  have p68 := hp.2.1 68 (by omega) (by omega)
  have p69 := hp.2.1 69 (by omega) (by omega)
  have hK1 : pK P S1 := pK_o hK (fun j h1 h2 => g 0 j (by omega) (by omega)) (fun a j h1 h2 => g a j (by omega) (by omega))
  have hs1 : sta 1 q.1 S1 := by
    refine ⟨fun p hpp => ?_, fun i hi => ?_, ?_, ?_, ?_, ?_, ?_, ?_, ?_⟩
    · rw [g 0 13 (by omega) (by omega)] at hpp
      have y := hc.2.2.2.1 p (by omega)
      rw [if_pos p69, show 6 * 1 + p = 6 + p by omega, y.1, y.2.1, (hA.2.1 p (by omega)).1, (hA.2.1 p (by omega)).2.1]
      exact n9 p hpp
    · rw [g 0 14 (by omega) (by omega)] at hi
      have m1 := hp.2.2 i (by omega)
      have y := (hA.2.2.1 i (by omega)).1
      have k := (hK.2.2.2.1 i hi).2.2.2.2.2.2
      rw [m1, if_pos (by decide), g 33 i (by omega) (by omega), g 0 12 (by omega) (by omega), y, n13 i hi]
      exact ⟨rfl, k⟩
    · rw [hp.1, hA.1 3 (by omega)]; exact nr.1
    · rw [if_pos p68, hA.1 4 (by omega), g 23 1 (by omega) (by omega)]; exact nr.2.1
    · rw [x5, p65]
    · rw [x6, p66]
      exact ⟨fun e => absurd e (by decide), fun e => absurd rfl e⟩
    · rw [x7, p67]
      exact ⟨fun e => absurd e (by decide), fun e => absurd rfl e⟩
    · rw [hp.1]; exact nr.2.2.1
    · rw [hp.1]; exact nr.2.2.2.1
  exact ⟨⟨⟨r1, r3, r2⟩, hK1, hs1, dyn_cp hS.1 hd hA hc hf, inv_cp hS hv hc hf⟩, hp.2.1 70 (by omega) (by omega), p65, x5, hf, hc, hp, hq, rg⟩
/-- a trial that draws -/
theorem Rl_drw {P T S : Tr} {v : Int32} (hR : Rl 1 P T S) : Rl 1 P (st (st T 0 5 1) 0 2 v) (st S 0 65 1) := by
  obtain ⟨s1, s2, s3, s4, s5, s6, s7, s8⟩ := hR.2.2.1
  refine Rl_d (T := st T 0 5 1) ?_ (fun c j n => st_no n)
  refine Rl_sta hR (rI_s0 hR.1 (iR_set hR.1.1 (by decide) (by decide)) (by omega) (by omega)) (fun a j n _ => st_no (by omega)) (fun a j n _ => st_no (by omega)) ⟨fun p hp => ?_, fun i hi => ?_, ?_, ?_, ?_, ?_, ?_, ?_⟩
  · rw [st_ne (by omega)] at hp
    rw [st_oth (by omega), st_oth (by omega), st_oth (by omega), st_ne (by omega), st_oth (by omega)]; exact s1 p hp
  · rw [st_ne (by omega)] at hi
    rw [st_oth (by omega), st_oth (by omega), st_oth (by omega), st_ne (by omega)]; exact s2 i hi
  · rw [st_ne (by omega), st_ne (by omega)]; exact s3
  · rw [st_ne (by omega), st_ne (by omega), st_oth (by omega)]; exact s4
  · rw [st_same, st_same]
  · rw [st_ne (by omega), st_ne (by omega)]; exact s6
  · rw [st_ne (by omega), st_ne (by omega)]; exact s7
  · rw [st_ne (by omega)]; exact s8
theorem e_X7chance {P Tn Tu S : Tr} {L Lc : Lo} {pa qa : Nat → Nat} {q0 q2 q4 : Nat} {x1 x2 : Int32} (h : Nw P Tn S L) : E2 (f_X7_chance pa qa P Lc Tn Tu q0 q2 q4 x1 x2) (f_X8_chance S L x1 x2) (fun q q' => q.1 = q'.1) := by
  unfold f_X7_chance f_X8_chance
  refine E2_ltr (fun S1 e1 => ?_)
  have hN : Nw P Tn S1 L := by rw [e1]; exact Nw_2 h
  have b14 : 0 ≤ (S1 0 14).toInt ∧ (S1 0 14).toInt ≤ 10 := hN.1.1 0 14
  refine E2_it Iff.rfl (fun _ _ => E2_some rfl) (fun c0 _ => E2_bd (e_isPc hN.2.1.1.2.2.1) (fun r r' hr => ?_))
  have x0 := tq_ltn (x := x1) (y := 0) (b := 0) rfl (by decide) c0
  obtain ⟨rfl, hr⟩ := hr
  refine E2_it Iff.rfl (fun _ _ => E2_some rfl) (fun n _ => E2_ltr (fun y7 _ => E2_ltr (fun L8 e8 => ?_)))
  obtain ⟨_, z0, z14⟩ := hr.resolve_left n
  obtain ⟨i, hi⟩ : ∃ i : Nat, x2.toInt = i := ⟨x2.toInt.toNat, by omega⟩
  have L63 : L8 0 63 = x1.toInt64 := by rw [e8, stL_same]
  have lp : ∀ (N M : Nat) (x3 x4 x5 : Int32) (Tu S : Tr) (L Lc : Lo) (q2 : Nat), Nw0 P Tn S → S 0 14 = S1 0 14 → L 0 63 = x4.toInt64 → 0 ≤ x4.toInt → E2 (lpF (fun _ _ _ _ _ _ => none) (fB_X7_chance_L22 pa qa P Tn q0 q4 x2) N x3 x4 x5 Lc Tu q2) (lpF (fun _ _ _ _ => none) (fB_X8_chance_L36 x2 y7) M x3 x5 S L) (fun q q' => q.1 = q'.1) := by
    intro N
    induction N with
    | zero => intro M x3 x4 x5 Tu S L Lc q2 _ _ _ _; exact E2_nl
    | succ N ih =>
      intro M x3 x4 x5 Tu S L Lc q2 hz h14 hL h4
      cases M with
      | zero => exact E2_nr
      | succ M =>
        show E2 (fB_X7_chance_L22 pa qa P Tn q0 q4 x2 (lpF (fun _ _ _ _ _ _ => none) (fB_X7_chance_L22 pa qa P Tn q0 q4 x2) N) x3 x4 x5 Lc Tu q2) (fB_X8_chance_L36 x2 y7 (lpF (fun _ _ _ _ => none) (fB_X8_chance_L36 x2 y7) M) x3 x5 S L) _
        have ih := ih M
        generalize lpF (fun _ _ _ _ _ _ => none) (fB_X7_chance_L22 pa qa P Tn q0 q4 x2) N = k22 at ih ⊢
        generalize lpF (fun _ _ _ _ => none) (fB_X8_chance_L36 x2 y7) M = k36 at ih ⊢
        unfold fB_X7_chance_L22 fB_X8_chance_L36
        refine E2_it Iff.rfl (fun _ _ => ?_) (fun _ _ => ?_)
        · unfold fJ_X8_chance_J85
          exact E2_ltr (fun _ _ => E2_ltr (fun _ _ => E2_some rfl))
        · intro u v eu ev
          obtain ⟨qs, hqs, eu⟩ := tx_bd eu
          obtain ⟨S12, hS12, ev⟩ := tx_bd ev
          obtain ⟨hR, g70, g65, g5, hf, hc, hp, hq', ag⟩ := e_startC (Tu := Tu) (pa := pa) (qa := qa) (q0 := q0) (q2 := q2) hz qs S12 hqs hS12
          have hR2 : Rl 1 P (st (st qs.1 0 5 1) 0 2 x4) (st S12 0 65 1) := Rl_drw hR
          have hd : drw (st (st qs.1 0 5 1) 0 2 x4) L := fun _ => by rw [st_same]; exact ⟨hL, h4⟩
          have h70 : st S12 0 65 1 0 70 = 0 := by rw [st_ne (by omega)]; exact g70
          obtain ⟨_, eu⟩ := tx_ck eu
          obtain ⟨qr, hqr, eu⟩ := tx_bd eu
          obtain ⟨qe, hqe, ev⟩ := tx_bd ev
          obtain ⟨w1, w2, w3, w4, w5, w6, w7, w8⟩ := e_run hR2 hd h70 qr qe hqr hqe
          have te := D_to (t_X8_toEnd (st S12 0 65 1) L hR2.1.1 hR2.1.2.1 hR2.1.2.2) qe hqe
          have aa : aG 1 S qe.1 := aG_tr (aG_set ag (by rfl)) te.2.1
          have hz2 : Nw0 P Tn qe.1 := Nw0_G hz ⟨w1.1, w1.2.1, gI0_G1 hz.1.1 hz.1.2.2 aa⟩ aa
          have i14 : qe.1 0 14 = S1 0 14 := (aa 0 14 (Wb_h (by unfold h0c; omega))).trans h14
          have t5 : ¬ qr.1 0 5 = 0 := by
            rw [w5.2.2 0 5 (by omega) (by omega) (by omega), st_ne (by omega), st_same]; decide
          obtain ⟨l1, l2⟩ := w4 t5
          have eu : (ck (okI x2 10) (if (qr.1 14 x2.toNatClampNeg) = 2 then (k22 (x3 + 1) (qr.1 0 2) (x5 + 1) qr.2 qr.1 (pa 0)) else (k22 x3 (qr.1 0 2) (x5 + 1) qr.2 qr.1 (pa 0)))) = some u := eu
          have ev : (ck (okI ((10 : Int32) + x2) 20) (if (qe.1 53 ((10 : Int32) + x2).toNatClampNeg) = 2 then (k36 (x3 + 1) (x5 + 1) qe.1 qe.2) else (k36 (x3 + 0) (x5 + 1) qe.1 qe.2))) = some v := ev
          have st8 := w8 i (by
            rw [st_ne (by omega), hf 0 14 (by omega) (by omega) (by omega) (by omega) (by omega) (by omega) (by omega), h14]; omega)
          obtain ⟨_, eu⟩ := tx_ck eu
          obtain ⟨_, ev⟩ := tx_ck ev
          rw [i_cn hi, st8, show 10 * 1 + i = 10 + i by omega] at eu
          rw [jh (by decide : (10 : Int32).toInt = ((10 : Nat) : Int)) hi (by omega), Int32.add_zero] at ev
          by_cases c : qe.1 53 (10 + i) = 2
          · rw [if_pos c] at eu ev
            exact ih (x3 + 1) (qr.1 0 2) (x5 + 1) qr.1 qe.1 qe.2 qr.2 (pa 0) hz2 i14 l1 l2 u v eu ev
          · rw [if_neg c] at eu ev
            exact ih x3 (qr.1 0 2) (x5 + 1) qr.1 qe.1 qe.2 qr.2 (pa 0) hz2 i14 l1 l2 u v eu ev
  unfold fL_X7_chance_L22 fL_X8_chance_L36
  exact lp 2000 2000 0 x1 0 Tu S1 L8 Lc q2 (Nw0_w hN) rfl L63 x0
-- 62.zaz.59.z51
/-! what stands on the floor, summed up -/
theorem goOn_k {α : Type} {S : Tr} {L : Lo} {xb : Int32} {k : Tr × Lo → Option α} : bd (f_X8_goOn S L xb) k = bd (f_X8_outs S L xb) fun q => lt q.1 fun S_1 => lt q.2 fun L_2 => bd (f_X8_ins S_1 xb) fun S_5 => bd (goJ xb S_5 L_2) k := by
  unfold f_X8_goOn
  cases f_X8_outs S L xb with
  | none => rfl
  | some q =>
    show bd (bd (f_X8_ins q.1 xb) fun S_5 => goJ xb S_5 q.2) k = bd (f_X8_ins q.1 xb) fun S_5 => bd (goJ xb S_5 q.2) k
    cases f_X8_ins q.1 xb with
    | none => rfl
    | some s => rfl
theorem E2_46 {β : Type} {Y : Option β} {Q : Int32 × Lo × Tr × Nat → β → Prop} {k14 : Int32 → Int32 → Lo → Tr → Option (Int32 × Lo × Tr × Nat)} {pa qa : Nat → Nat} {P Tn T : Tr} {L : Lo} {q0 q2 q4 m : Nat} {x1 x2 : Int32} (hm : (P 0 0).toInt = m) (m5 : m ≤ 5) (h : E2 (fJ_X7_feet_J88 k14 pa qa P Tn q0 q2 (pa 0) (fld P T x1 m) x2 L T) Y Q) : E2 (fL_X7_feet_L46 k14 pa qa P L Tn T q0 q2 q4 x2 x1 0) Y Q := by
  have lp : ∀ (N n : Nat) (v x : Int32), x.toInt = n → n ≤ m → v = fld P T x1 n → E2 (lpF (fun _ _ => none) (fB_X7_feet_L46 k14 pa qa P L Tn T q0 q2 q4 x2) N v x) Y Q := by
    intro N
    induction N with
    | zero => intro n v x _ _ _; exact E2_nl
    | succ N ih =>
      intro n v x hx hn hv
      show E2 (fB_X7_feet_L46 k14 pa qa P L Tn T q0 q2 q4 x2 (lpF (fun _ _ => none) (fB_X7_feet_L46 k14 pa qa P L Tn T q0 q2 q4 x2) N) v x) Y Q
      generalize lpF (fun _ _ => none) (fB_X7_feet_L46 k14 pa qa P L Tn T q0 q2 q4 x2) N = k at ih ⊢
      unfold fB_X7_feet_L46
      refine E2_ckl (fun _ => ?_)
      by_cases c : P 0 0 ≤ x
      · rw [if_pos c]
        have := tq_le hm hx c
        have e : n = m := by omega
        rw [hv, e]; exact h
      · rw [if_neg c]
        have c := tq_len hm hx c
        have e1 := i_p1 hx (by omega)
        refine E2_ckl (fun _ => ?_)
        rw [i_cn hx]
        by_cases d : P 8 n = 2
        · rw [if_pos d]
          refine E2_ltl (fun y ey => E2_ltl (fun z ez => ih (n + 1) y z (by rw [ez]; exact e1) (by omega) ?_))
          show y = if P 8 n = 2 then fld P T x1 n + T 17 n else fld P T x1 n
          rw [if_pos d, ey, hv]
        · rw [if_neg d]
          refine E2_ltl (fun z ez => ih (n + 1) v z (by rw [ez]; exact e1) (by omega) ?_)
          show v = if P 8 n = 2 then fld P T x1 n + T 17 n else fld P T x1 n
          rw [if_neg d, hv]
  unfold fL_X7_feet_L46
  exact lp 2000 0 x1 0 (by decide) (by omega) rfl
theorem e_feL {P Tn : Tr} {pa qa : Nat → Nat} {q0 q2 q4 : Nat} (N : Nat) : ∀ (M : Nat) (x1 x2 : Int32) (T S : Tr) (L Lc : Lo), Rl 1 P T S → drw T L → S 0 70 = 0 → x2 = T 0 0 → x1 = S 63 1 → E2 (lpF (fun _ _ _ _ => none) (fB_X7_feet_L14 pa qa P Tn q0 q2 q4) N x1 x2 Lc T) (lpF (fun _ _ => none) (fB_X8_toEnd_L0) M S L) (fun q q' => q.1 = q'.1 63 1) := by
  induction N with
  | zero => intro M x1 x2 T S L Lc _ _ _ _ _; exact E2_nl
  | succ N ih =>
    intro M x1 x2 T S L Lc hR hd h70 hx2 hx1
    cases M with
    | zero => exact E2_nr
    | succ M =>
      have ih := ih M
      show E2 (fB_X7_feet_L14 pa qa P Tn q0 q2 q4 (lpF (fun _ _ _ _ => none) (fB_X7_feet_L14 pa qa P Tn q0 q2 q4) N) x1 x2 Lc T) (fB_X8_toEnd_L0 (lpF (fun _ _ => none) (fB_X8_toEnd_L0) M) S L) _
      generalize lpF (fun _ _ _ _ => none) (fB_X7_feet_L14 pa qa P Tn q0 q2 q4) N = k at ih ⊢
      generalize lpF (fun _ _ => none) (fB_X8_toEnd_L0) M = k' at ih ⊢
      have t00 : T 0 0 = S 62 1 := hR.2.2.2.1.1
      have b62 : 0 ≤ (S 62 1).toInt ∧ (S 62 1).toInt ≤ 21 := hR.1.1 62 1
      have b12 : 0 ≤ (S 0 12).toInt ∧ (S 0 12).toInt ≤ 5 := hR.1.1 0 12
      have p00 : P 0 0 = S 0 12 := hR.2.1.1.1
      unfold fB_X7_feet_L14 fB_X8_toEnd_L0
      rw [hx2]
      by_cases c : (20 : Int32) < T 0 0
      · rw [if_pos c]
        have c1 := Int32.lt_iff_toInt_lt.mp c
        rw [t00, show (20 : Int32).toInt = 20 by decide] at c1
        rw [if_pos (Int32.le_iff_toInt_le.mpr (by rw [show (21 : Int32).toInt = 21 by decide]; omega) : (21 : Int32) ≤ S 62 1)]
        exact E2_some hx1
      · rw [if_neg c]
        have c1 : (S 62 1).toInt ≤ 20 := by
          have := tq_ltn (x := (20 : Int32)) (y := T 0 0) (a := 20) (by decide) rfl c
          rw [t00] at this
          exact this
        rw [if_neg (fun g => by
          have g := Int32.le_iff_toInt_le.mp g
          rw [show (21 : Int32).toInt = 21 by decide] at g
          omega)]
        rw [goOn_k]
        refine E2_ckl (fun _ => E2_ckl (fun _ => E2_ckl (fun _ => ?_)))
        refine e_di (b := 1) (xb := 1) (by decide) (by decide) hR (lim_0 hR h70 c1) c1 (K := fun T8 L5 => fL_X7_feet_L46 k pa qa P L5 Tn T8 q0 (pa 0) (pa 0) (T 0 0) x1 0) (K' := fun S5 L2 => bd (goJ 1 S5 L2) fun q => lt q.1 fun S_2 => lt q.2 fun L_3 => k' S_2 L_3) (fun T8 Lc5 S5 L2 hq => ?_)
        obtain ⟨g1, g2, g3, g4, g5, g6, g7, g8, g9⟩ := hq
        refine E2_46 (m := (S 0 12).toNatClampNeg) (by rw [p00, i_cl]; omega) (by rw [i_cl]; omega) ?_
        unfold fJ_X7_feet_J88
        have hw := e_wyJ (Lc := Lc5) (b := 1) (xb := 1) (by decide) (by decide) g1 (g2 hd) (by rw [g3]; exact c1) (fun c i hi => g9 (g3.symm.trans c) i (by rw [← g7 0 14 (by omega) (by omega) (by omega) (by omega)]; exact hi))
        refine E2_ckl (fun _ => E2_bd hw (fun u v hu => E2_ltl (fun T21 e21 => E2_ltl (fun L22 _ => E2_ltl (fun y25 e25 => E2_ltr (fun S2 eS => E2_ltr (fun L3 eL => ?_)))))))
        obtain ⟨w1, w2, w3, w4, w5, w6, w7, w8⟩ := hu
        rw [← e21, ← eS] at w1
        rw [← e21, ← eL] at w2
        rw [← eS] at w3 w7
        refine ih (fld P T8 x1 (S 0 12).toNatClampNeg) y25 T21 S2 L3 L22 w1 w2 ?_ ?_ ?_
        · rw [w7 0 70 (by omega) (by omega) (by omega), g7 0 70 (by omega) (by omega) (by omega) (by omega)]; exact h70
        · rw [e25, w1.2.2.2.1.1, w3, g3, t00]
        · rw [w7 63 1 (by omega) (by omega) (by omega), g8, hx1]
theorem e_X7feet {P Tn Tu S : Tr} {L Lc : Lo} {pa qa : Nat → Nat} {q0 q2 q4 : Nat} (h : Nw P Tn S L) : E2 (f_X7_feet pa qa P Lc Tn Tu q0 q2 q4) (f_X8_feet S L) (fun q q' => q.1 = q'.1) := by
  unfold f_X7_feet f_X8_feet
  refine E2_ltr (fun S1 e1 => ?_)
  have hN : Nw P Tn S1 L := by rw [e1]; exact Nw_2 h
  refine E2_bd (e_start hN) (fun q S8 hq => E2_ltl (fun A eA => E2_ltl (fun n6 _ => E2_ltl (fun y5 e5 => ?_))))
  obtain ⟨hR, g70, g65, g5, hf, hc, hp, _, _⟩ := hq
  rw [← eA] at hR g5
  refine E2_rb (R := fun q q' => q.1 = q'.1 63 1) ?_ (fun a b hab => E2_ltr (fun S5 eS => E2_ltr (fun L6 _ => E2_some (by rw [eS]; exact hab))))
  unfold fL_X7_feet_L14 f_X8_toEnd fL_X8_toEnd_L0
  refine e_feL 2000 2000 0 y5 A S8 L Lc hR (fun n => absurd g5 n) g70 ?_ ?_
  · rw [e5, hR.2.2.2.1.1, hc.2.2.2.2.2.1]; exact hN.2.2.1.1
  · exact hc.2.2.2.2.2.2.symm
-- 62.zaz.60.z52
/-! what falls at the next stop -/
/-- out and in, and what has fallen stays so -/
theorem e_di2 {α β : Type} {Q : α → β → Prop} {K : Tr → Lo → Option α} {K' : Tr → Lo → Option β} {b : Nat} {P T S : Tr} {L Lc : Lo} {xb x1 : Int32} (hb : xb.toNatClampNeg = b) (hxb : 0 ≤ xb.toInt ∧ xb.toInt ≤ 1) (hR : Rl b P T S) (lim : oLim b S x1) (hst : (S 62 b).toInt ≤ 20) (hk : ∀ T8 Lc5 S5 L2, diQ b P T S L T8 S5 L2 → (∀ i : Nat, (i : Int) < (S 0 14).toInt → (S5 53 (10 * b + i) = 3 ↔ S 53 (10 * b + i) = 3)) → E2 (K T8 Lc5) (K' S5 L2) Q) : E2 (bd (f_X6_takeDown T P Lc x1) fun q => lt q.1 fun _r3 => lt q.2.1 fun T_4 => lt q.2.2 fun L_5 => bd (f_X6_getIn T_4 P) fun T_8 => K T_8 L_5) (bd (f_X8_outs S L xb) fun q => lt q.1 fun S_1 => lt q.2 fun L_2 => bd (f_X8_ins S_1 xb) fun S_5 => K' S_5 L_2) Q := by
  refine E2_bd (e_outs hb hxb hR lim hst) (fun q q' hq => E2_ltl (fun _ _ => E2_ltl (fun T4 e4 => E2_ltl (fun L5 _ => E2_ltr (fun S1 e1 => E2_ltr (fun L2 e2 => ?_))))))
  obtain ⟨hR1, _, _, fT, fS, am, oLL, hh, h20⟩ := hq
  rw [← e4, ← e1] at hR1
  rw [← e4] at fT
  rw [← e1] at fS am h20 hh
  rw [← e2] at oLL
  have b14 : 0 ≤ (S 0 14).toInt ∧ (S 0 14).toInt ≤ 10 := hR.1.1 0 14
  have s62 : S1 62 b = S 62 b := fS 62 b (by omega) (by omega) (by omega)
  have s12 : S1 0 12 = S 0 12 := fS 0 12 (by omega) (by omega) (by omega)
  have s63 : S1 63 b = S 63 b := fS 63 b (by omega) (by omega) (by omega)
  have hin : E2 (f_X6_getIn T4 P) (f_X8_ins S1 xb) (fun T8 S5 => inQ b P T4 S1 T8 S5 ∧ (S 62 b = 20 → ∀ a j, ¬ (a = 63 ∧ j = b) → S5 a j = S1 a j)) := fun u v eu ev => ⟨e_ins hb hxb hR1 u v eu ev, fun c => in_20 hb hxb hR1 (fun p hp g => by
    have w := (hR1.2.2.2.2.2 p hp).2.2
    rw [g, s62, c, show (20 : Int32).toInt = 20 by decide] at w
    omega) v ev⟩
  refine E2_bd hin (fun T8 S5 hi => hk T8 L5 S5 L2 ?_ ?_)
  · obtain ⟨⟨hR8, ag, gT, gS, _, fd⟩, z20⟩ := hi
    have am2 : aM b S1 S5 := aM_fx ag ⟨fun j _ => gS 0 j (by omega), fun a j h => gS a j (by omega)⟩
    have t5 : T8 0 5 = T 0 5 := (gT 0 5 (by omega)).trans (fT 0 5 (by omega) (by omega) (by omega))
    have t2 : T8 0 2 = T 0 2 := (gT 0 2 (by omega)).trans (fT 0 2 (by omega) (by omega) (by omega))
    refine ⟨hR8, fun d => drw_e d t5 t2 (oLL 0 63 (by decide) (by decide)), (gS 62 b (by omega)).trans s62, aM_t am am2, oLL, fun a j n1 n2 n3 => (gT a j (by omega)).trans (fT a j n1 n2 n3), fun a j n1 n2 n3 n4 => (gS a j (by omega)).trans (fS a j n1 n2 n3), ?_, fun c i hi => ?_⟩
    · rw [fd, s63, s12]
    · rw [z20 c 53 _ (by omega)]
      exact (h20 c).1 i hi
  · obtain ⟨⟨_, _, _, _, hw, _⟩, _⟩ := hi
    intro i h14
    have a := hh i h14
    have c := hw i (by omega)
    constructor
    · intro g
      rcases c with e | ⟨_, e | e⟩
      · rw [e] at g
        rcases a with f | ⟨_, f | f⟩
        · rw [f] at g; exact g
        · rw [f] at g; exact absurd g (by decide)
        · rw [f] at g; exact absurd g (by decide)
      · rw [e] at g; exact absurd g (by decide)
      · rw [e] at g; exact absurd g (by decide)
    · intro g
      have g1 : S1 53 (10 * b + i) = 3 := by
        rcases a with f | ⟨f, _⟩
        · rw [f]; exact g
        · rw [f] at g; exact absurd g (by decide)
      rcases c with e | ⟨e, _⟩
      · rw [e]; exact g1
      · rw [e] at g1; exact absurd g1 (by decide)
/-- stealing: the reference alone -/
def s4 (S S2 : Tr) : Prop := S2 0 14 = S 0 14 ∧ ∀ j, S2 53 j = S 53 j ∨ (10 ≤ j ∧ S 53 j = 1 ∧ S2 53 j = 4)
theorem fr4 {n : Nat} {S : Tr} {xb x : Int32} (hb : xb.toNatClampNeg = 1) (hxb : 0 ≤ xb.toInt ∧ xb.toInt ≤ 1) (hS : rI 1 S) (hx : x.toInt = n) (hn : n ≤ 9) (h1 : S 53 (10 * 1 + n) = 1) : Ep (f_X8_takes S xb x 4) (fun q => rI 1 q ∧ q 0 14 = S 0 14 ∧ ∀ j, q 53 j = if j = 10 * 1 + n then 4 else S 53 j) := by
  have j10 : (((10 : Int32) * xb) + x).toNatClampNeg = 10 * 1 + n := by rw [jx 10 (by decide) (by omega) hxb hx (by omega), hb]
  have hly : 0 ≤ (S 54 (10 * 1 + n)).toInt := (hS.2.2.2.1 n (by omega)).mp h1
  obtain ⟨p, pos, h, p4, hp, hh, hpos, h10, hbl⟩ := bel_S hb hxb hS.1 hS.2.2.1 hx hn hly
  have c2 := e_tks (c := 4) hb hxb hx hn hp p4 hh hbl hpos h10
  have c3 := D_to (t_X8_takes2 S xb x 4 hS.1 (by rw [hb]; exact hS.2.2) hxb ⟨by omega, by omega⟩ (by decide) (by rw [j10]; exact hly) (by decide))
  rw [hb] at c3
  refine Ep_mono (Ep_and c2 c3) (fun q hq => ?_)
  obtain ⟨q2, q3, q4, q5, q6⟩ := hq
  exact ⟨⟨q3, pI_aG hS.2.1 q5, q4⟩, q2.2.2.2.2 0 14 (by omega), q2.2.2.2.1⟩
theorem e_90 {S0 : Tr} {xb : Int32} (hb : xb.toNatClampNeg = 1) (hxb : 0 ≤ xb.toInt ∧ xb.toInt ≤ 1) (N : Nat) : ∀ (n : Nat) (x : Int32) (S : Tr) (L : Lo), x.toInt = n → n ≤ 10 → rI 1 S → s4 S0 S → Ep (lpF (fun _ _ _ => none) (fB_X8_onTheWay_L90 xb) N x S L) (fun q => s4 S0 q.1) := by
  induction N with
  | zero => intro n x S L _ _ _ _; exact Ep_none
  | succ N ih =>
    intro n x S L hx hn hS h
    show Ep (fB_X8_onTheWay_L90 xb (lpF (fun _ _ _ => none) (fB_X8_onTheWay_L90 xb) N) x S L) _
    generalize lpF (fun _ _ _ => none) (fB_X8_onTheWay_L90 xb) N = k at ih ⊢
    have b14 : 0 ≤ (S 0 14).toInt ∧ (S 0 14).toInt ≤ 10 := hS.1 0 14
    have e1 := i_p1 hx (by omega)
    unfold fB_X8_onTheWay_L90
    refine Ep_ite (fun _ => Ep_some h) (fun c => Ep_ite (fun _ => Ep_ck ?_) (fun _ => Ep_some h))
    have lt := tq_len rfl hx c
    have nx : ∀ (y : Int32) (S : Tr) (L : Lo), y = x + 1 → rI 1 S → s4 S0 S → Ep (k y S L) (fun q => s4 S0 q.1) := fun y S L ey g1 g2 => ih (n + 1) y S L (by rw [ey]; exact e1) (by omega) g1 g2
    have j10 : (((10 : Int32) * xb) + x).toNatClampNeg = 10 * 1 + n := by rw [jx 10 (by decide) (by omega) hxb hx (by omega), hb]
    rw [j10]
    refine Ep_ite (fun h1 => Ep_ck (Ep_ite (fun _ => Ep_ck (Ep_any (fun L10 => ?_))) (fun _ => Ep_lt (fun y ey => nx y S L ey hS h)))) (fun _ => Ep_lt (fun y ey => nx y S L ey hS h))
    refine Ep_bd (D_to (t_X8_boundLaw S L10 2 10 100 hS.1 hS.2.1 (by decide))) (fun q hq => Ep_lt (fun r13 _ => Ep_lt (fun S14 e14 => Ep_lt (fun L15 _ => Ep_any (fun u => Ep_lt (fun r18 _ => Ep_lt (fun L19 _ => ?_)))))))
    obtain ⟨p1, p2, p3⟩ := hq
    rw [← e14] at p1 p2 p3
    have hS14 : rI 1 S14 := ⟨p1, p3, gI_aT hS.2.2 p2⟩
    have h14 : s4 S0 S14 := ⟨(p2 0 14 rfl).trans h.1, fun j => by rw [p2 53 j rfl]; exact h.2 j⟩
    have h1' : S14 53 (10 * 1 + n) = 1 := (p2 53 _ rfl).trans h1
    refine Ep_ite (fun _ => Ep_lt (fun y ey => nx y S14 L19 ey hS14 h14)) (fun _ => Ep_bd (fr4 hb hxb hS14 hx (by omega) h1') (fun q hq => Ep_lt (fun y ey => nx y q L19 ey hq.1 ⟨hq.2.1.trans h14.1, fun j => ?_⟩)))
    rw [hq.2.2]
    by_cases g : j = 10 * 1 + n
    · rw [if_pos g]
      refine Or.inr ⟨by omega, ?_, rfl⟩
      rcases h14.2 j with e | ⟨_, _, e⟩
      · rw [← e, g]; exact h1'
      · rw [g, h1'] at e; exact absurd e (by decide)
    · rw [if_neg g]; exact h14.2 j
/-- the class's bits tell what the reference has let fall -/
def fjQ (S5 : Tr) (m : Int32) (S6 : Tr) : Prop := m = mkf (fun i => decide (S6 53 (10 * 1 + i) = 3 ∧ ¬ S5 53 (10 * 1 + i) = 3)) (S5 0 14).toNatClampNeg ∧ S6 0 14 = S5 0 14 ∧ ∀ j, j < 10 → S6 53 j = S5 53 j
theorem Mbf_53 {j : Nat} (h : j < 10) : Mb 1 53 j = false := by
  unfold Mb; rw [inB_no (n := 10) (b := 1) (by omega)]; rfl
theorem e_fw {P T S : Tr} {L Lc : Lo} {xb : Int32} (hb : xb.toNatClampNeg = 1) (hxb : 0 ≤ xb.toInt ∧ xb.toInt ≤ 1) (hR : Rl 1 P T S) (hd : drw T L) : E2 (f_X6_fallOff T P Lc) (f_X8_onTheWay S L xb) (fun q q' => fjQ S q.1 q'.1) := by
  unfold f_X6_fallOff fL_X6_fallOff_L4 f_X8_onTheWay fL_X8_onTheWay_L2
  have h := e_fa (α := Int32 × Tr × Lo) (P := P) (T0 := T) (S0 := S) (L0 := L) (K := fun q => some q) (Q := fun q q' => fjQ S q.1 q'.1) hb hxb (fun m T1 Lc1 S1 L1 hF => by
    unfold fL_X8_onTheWay_L90
    refine E2_ep (Ep_some (Q := fun q => q.1 = m) rfl) (e_90 (S0 := S1) hb hxb 2000 0 0 S1 L1 (by decide) (by omega) hF.1.1 ⟨rfl, fun _ => Or.inl rfl⟩) (fun a c ha hc => ?_)
    refine ⟨?_, hc.1.trans (hF.2.2.1.2.1 0 14 (by omega) (by omega)), fun j hj => ?_⟩
    · rw [ha, hF.2.2.2]
      refine mkf_cg (fun k _ => ?_)
      unfold fln
      rcases hc.2 (10 * 1 + k) with e | ⟨_, e1, e2⟩
      · rw [e]
      · rw [e1, e2, decide_eq_false (fun g => absurd g.1 (by decide)), decide_eq_false (fun g => absurd g.1 (by decide))]
    · rcases hc.2 j with e | ⟨e, _⟩
      · exact e.trans (hF.2.2.1.2.2.1 53 j (Mbf_53 hj))
      · exact absurd hj (by omega)) 2000 0 0 0 T S L Lc (by decide) (by omega) ⟨hR, hd, wFr_r, (mkf_0 (fun k _ => decide_eq_false (fun g => g.2 g.1))).symm⟩
  intro u v eu ev
  exact h u v (by rw [eu]; rfl) ev
theorem fa_m {b : Nat} {P T S : Tr} {Lc : Lo} (hR : Rl b P T S) (h0 : ∀ i : Nat, (i : Int) < (S 0 14).toInt → ¬ S 53 (10 * b + i) = 1) : Ep (f_X6_fallOff T P Lc) (fun q => q.1 = 0) := by
  have h12 : 0 ≤ (S 0 12).toInt ∧ (S 0 12).toInt ≤ 5 := hR.1.1 0 12
  have p00 : P 0 0 = S 0 12 := hR.2.1.1.1
  have z := h_0 hR.1 h0
  have lp : ∀ (N n : Nat) (x : Int32) (Lc : Lo), x.toInt = n → n ≤ 5 → Ep (lpF (fun _ _ _ _ => none) (fB_X6_fallOff_L4 P) N 0 x T Lc) (fun q => q.1 = 0) := by
    intro N
    induction N with
    | zero => intro n x Lc _ _; exact Ep_none
    | succ N ih =>
      intro n x Lc hx hn
      show Ep (fB_X6_fallOff_L4 P (lpF (fun _ _ _ _ => none) (fB_X6_fallOff_L4 P) N) 0 x T Lc) _
      generalize lpF (fun _ _ _ _ => none) (fB_X6_fallOff_L4 P) N = k at ih ⊢
      unfold fB_X6_fallOff_L4
      rw [p00]
      refine Ep_ite (fun _ => Ep_some rfl) (fun c => Ep_ite (fun _ => Ep_some rfl) (fun _ => ?_))
      have lt := tq_len rfl hx c
      refine Ep_bd (e_top hR hx (by omega)) (fun r hr => ?_)
      rcases hr with ⟨_, rfl⟩ | ⟨g, _⟩
      · rw [if_pos (by decide : (-1 : Int32) < 0)]
        exact Ep_lt (fun y ey => ih (n + 1) y Lc (by rw [ey]; exact i_p1 hx (by omega)) (by omega))
      · exact absurd (z n (by omega)) g
  unfold f_X6_fallOff fL_X6_fallOff_L4
  exact lp 2000 0 0 Lc (by decide) (by omega)
theorem e_fj {P T S : Tr} {L Lc : Lo} {xb : Int32} (hb : xb.toNatClampNeg = 1) (hxb : 0 ≤ xb.toInt ∧ xb.toInt ≤ 1) (hR : Rl 1 P T S) (hd : drw T L) (hst : (S 62 1).toInt ≤ 20) (h0 : S 62 1 = 20 → ∀ i : Nat, (i : Int) < (S 0 14).toInt → ¬ S 53 (10 * 1 + i) = 1) : E2 (f_X6_fallOff T P Lc) (goJ xb S L) (fun q q' => fjQ S q.1 q'.1) := by
  unfold goJ
  rw [hb]
  refine E2_ckr (fun _ => E2_itr (fun g => ?_) (fun _ => ?_))
  · have g : (20 : Int32).toInt ≤ (S 62 1).toInt := Int32.le_iff_toInt_le.mp g
    rw [show (20 : Int32).toInt = 20 by decide] at g
    have e20 : S 62 1 = 20 := Int32.toInt_inj.mp (by rw [show (20 : Int32).toInt = 20 by decide]; omega)
    unfold fJ_X8_goOn_J26
    rw [hb]
    refine E2_ckr (fun _ => E2_ltr (fun S11 e11 => E2_ep (fa_m hR (h0 e20)) (Ep_some (Q := fun q' => q'.1 = S11) rfl) (fun a c ha hc => ?_)))
    rw [hc, e11, ha]
    refine ⟨(mkf_0 (fun k _ => decide_eq_false (fun g => ?_))).symm, by rw [st_oth (by omega)], fun j _ => by rw [st_oth (by omega)]⟩
    rw [st_oth (by omega)] at g
    exact g.2 g.1
  · refine E2_rb (e_fw hb hxb hR hd) (fun a c hac => E2_ltr (fun S12 e12 => E2_ltr (fun L13 _ => ?_)))
    unfold fJ_X8_goOn_J26
    rw [hb]
    refine E2_ckr (fun _ => E2_ltr (fun S11 e11 => E2_some ?_))
    rw [← e12] at hac
    obtain ⟨w1, w2, w3⟩ := hac
    have f : ∀ a j, ¬ a = 62 → S11 a j = S12 a j := fun a j n => by rw [e11, st_oth n]
    refine ⟨w1.trans (mkf_cg (fun k _ => ?_)), (f 0 14 (by omega)).trans w2, fun j hj => (f 53 j (by omega)).trans (w3 j hj)⟩
    show _ = decide (S11 53 (10 * 1 + k) = 3 ∧ ¬ S 53 (10 * 1 + k) = 3)
    rw [f 53 _ (by omega)]
/-- the reference's own bits -/
theorem e_31 {S : Tr} {L : Lo} (b14 : 0 ≤ (S 0 14).toInt ∧ (S 0 14).toInt ≤ 10) : Ep (fL_X8_falls_L31 S L 0 0) (fun q => q.1 = mkf (fun i => decide (S 53 (10 * 1 + i) = 3 ∧ ¬ S 53 i = 3)) (S 0 14).toNatClampNeg) := by
  obtain ⟨m, hm⟩ : ∃ m : Nat, (S 0 14).toInt = m := ⟨(S 0 14).toInt.toNat, by omega⟩
  have lp : ∀ (N n : Nat) (v x : Int32), x.toInt = n → n ≤ m → v = mkf (fun i => decide (S 53 (10 * 1 + i) = 3 ∧ ¬ S 53 i = 3)) n → Ep (lpF (fun _ _ => none) (fB_X8_falls_L31 S L) N v x) (fun q => q.1 = mkf (fun i => decide (S 53 (10 * 1 + i) = 3 ∧ ¬ S 53 i = 3)) (S 0 14).toNatClampNeg) := by
    intro N
    induction N with
    | zero => intro n v x _ _ _; exact Ep_none
    | succ N ih =>
      intro n v x hx hn hv
      show Ep (fB_X8_falls_L31 S L (lpF (fun _ _ => none) (fB_X8_falls_L31 S L) N) v x) _
      generalize lpF (fun _ _ => none) (fB_X8_falls_L31 S L) N = k at ih ⊢
      unfold fB_X8_falls_L31
      have j10 : ((10 : Int32) + x).toNatClampNeg = 10 * 1 + n := by rw [jh (by decide : (10 : Int32).toInt = ((10 : Nat) : Int)) hx (by omega)]
      rw [j10, i_cn hx]
      refine Ep_ite (fun c => ?_) (fun c => ?_)
      · have := tq_le hm hx c
        have e : n = m := by omega
        refine Ep_some ?_
        show v = _
        rw [hv, e, i_cn hm]
      · have lt := tq_len hm hx c
        have e1 := i_p1 hx (by omega)
        have fl : ¬ (S 53 (10 * 1 + n) = 3 ∧ ¬ S 53 n = 3) → ∀ y z : Int32, y = v ||| 0 → z = x + 1 → Ep (k y z) (fun q => q.1 = mkf (fun i => decide (S 53 (10 * 1 + i) = 3 ∧ ¬ S 53 i = 3)) (S 0 14).toNatClampNeg) := fun ng y z ey ez => ih (n + 1) y z (by rw [ez]; exact e1) (by omega) (by
          show y = mkf (fun i => decide (S 53 (10 * 1 + i) = 3 ∧ ¬ S 53 i = 3)) n ||| (bif decide (S 53 (10 * 1 + n) = 3 ∧ ¬ S 53 n = 3) then bitI n else 0)
          rw [decide_eq_false ng, ← hv, ey]; rfl)
        refine Ep_ck (Ep_ite (fun g1 => Ep_ck (Ep_ite (fun g2 => Ep_lt (fun y ey => Ep_lt (fun z ez => fl (fun w => w.2 g2) y z ey ez))) (fun g2 => Ep_lt (fun y ey => Ep_lt (fun z ez => ?_))))) (fun g1 => Ep_lt (fun y ey => Ep_lt (fun z ez => fl (fun w => g1 w.1) y z ey ez))))
        refine ih (n + 1) y z (by rw [ez]; exact e1) (by omega) ?_
        show y = mkf (fun i => decide (S 53 (10 * 1 + i) = 3 ∧ ¬ S 53 i = 3)) n ||| (bif decide (S 53 (10 * 1 + n) = 3 ∧ ¬ S 53 n = 3) then bitI n else 0)
        rw [decide_eq_true (⟨g1, g2⟩ : S 53 (10 * 1 + n) = 3 ∧ ¬ S 53 n = 3), ← hv, ey]
        show v ||| ((1 : Int32) <<< (x &&& 31)) = v ||| bitI n
        unfold bitI
        rw [of_t hx (by omega)]
  unfold fL_X8_falls_L31
  exact lp 2000 0 0 0 (by decide) (by omega) rfl
theorem e_X7falls {P Tn Tu S : Tr} {L Lc : Lo} {pa qa : Nat → Nat} {q0 q2 q4 : Nat} (h : Nw P Tn S L) : E2 (f_X7_falls pa qa P Lc Tn Tu q0 q2 q4) (f_X8_falls S L) (fun q q' => q.1 = q'.1) := by
  unfold f_X7_falls f_X8_falls
  refine E2_ltr (fun S1 e1 => ?_)
  have hN : Nw P Tn S1 L := by rw [e1]; exact Nw_2 h
  have tn : Tn 0 0 = S1 62 0 := hN.2.2.1.1
  have b14 : 0 ≤ (S1 0 14).toInt ∧ (S1 0 14).toInt ≤ 10 := hN.1.1 0 14
  rw [tn]
  have hif : S1 62 0 ≤ 20 ↔ S1 62 0 < 21 := by
    rw [Int32.le_iff_toInt_le, Int32.lt_iff_toInt_lt, show (20 : Int32).toInt = 20 by decide, show (21 : Int32).toInt = 21 by decide]
    omega
  refine E2_it hif (fun c _ => ?_) (fun _ _ => E2_some rfl)
  have c1 := Int32.le_iff_toInt_le.mp c
  rw [show (20 : Int32).toInt = 20 by decide] at c1
  refine E2_bd (e_start hN) (fun q S3 hq => E2_ltl (fun A eA => E2_ltl (fun n6 _ => E2_ckl (fun _ => E2_ckl (fun _ => E2_ckl (fun _ => ?_))))))
  obtain ⟨hR, g70, g65, g5, hf, hc, hp, _, _⟩ := hq
  rw [← eA] at hR g5
  have s62 : S3 62 1 = S1 62 0 := hc.2.2.2.2.2.1
  have a00 : A 0 0 = S1 62 0 := hR.2.2.2.1.1.trans s62
  have s14 : S3 0 14 = S1 0 14 := hf 0 14 (by omega) (by omega) (by omega) (by omega) (by omega) (by omega) (by omega)
  rw [goOn_k, ← a00]
  refine e_di2 (b := 1) (xb := 1) (by decide) (by decide) hR (lim_0 hR g70 (by rw [s62]; exact c1)) (by rw [s62]; exact c1) (K := fun T8 L5 => bd (f_X6_fallOff T8 P L5) fun q => lt q.1 fun r17 => lt q.2.1 fun Tu_18 => lt q.2.2 fun L_19 => some (r17, L_19, Tu_18, pa 0)) (K' := fun S5 L2 => bd (goJ 1 S5 L2) fun q => lt q.1 fun S_6 => lt q.2 fun L_7 => fL_X8_falls_L31 S_6 L_7 0 0) (fun T8 Lc5 S5 L2 hq hw => ?_)
  obtain ⟨k1, k2, k3, k4, k5, k6, k7, k8, k9⟩ := hq
  have r14 : S5 0 14 = S3 0 14 := k7 0 14 (by omega) (by omega) (by omega) (by omega)
  have bS := e_fj (Lc := Lc5) (L := L2) (xb := 1) (by decide) (by decide) k1 (k2 (fun n => absurd g5 n)) (by rw [k3, s62]; exact c1) (fun c i hi => k9 (k3.symm.trans c) i (by rw [← r14]; exact hi))
  refine E2_bd bS (fun u v huv => E2_ltl (fun r17 e17 => E2_ltl (fun _ _ => E2_ltl (fun _ _ => E2_ltr (fun S6 e6 => E2_ltr (fun L7 _ => ?_))))))
  obtain ⟨w1, w2, w3⟩ := huv
  rw [← e17] at w1
  rw [← e6] at w1 w2 w3
  refine E2_ep (Ep_some (Q := fun q => q.1 = r17) rfl) (e_31 (by rw [w2, r14, s14]; exact b14)) (fun a c ha hc2 => ?_)
  rw [ha, hc2, w1, w2]
  refine mkf_cg (fun k hk => ?_)
  rw [i_cl, r14, s14] at hk
  have k10 : k < 10 := by omega
  have ek : S6 53 k = S3 53 (10 * 1 + k) := by
    rw [w3 k k10, k4 53 k (Mbf_53 k10), hf 53 k (by omega) (by omega) (by omega) (by omega) (by omega) (by omega) (by omega)]
    exact (hc.1 k k10).1.symm
  have hk3 := hw k (by rw [s14]; omega)
  show decide (S6 53 (10 * 1 + k) = 3 ∧ ¬ S5 53 (10 * 1 + k) = 3) = decide (S6 53 (10 * 1 + k) = 3 ∧ ¬ S6 53 k = 3)
  rw [ek]
  exact decide_eq_decide.mpr ⟨fun g => ⟨g.1, fun z => g.2 (hk3.mpr z)⟩, fun g => ⟨g.1, fun z => g.2 (hk3.mp z)⟩⟩
-- 62.zaz.61.z53
/-! lifts: how many a stop adds at most -/
set_option maxHeartbeats 1000000 in
set_option maxRecDepth 100000 in
theorem l6J_X8_takes_J96 {S0 : Tr} (x1 : Int32) (x2 : Int32) (x3 : Int32) (S : Tr) (hS : S 61 1 = S0 61 1)   : Ep (fJ_X8_takes_J96 x1 x2 x3 S) (fun q => q 61 1 = S0 61 1) := by
  unfold fJ_X8_takes_J96
  refine Ep_ck ?_
  refine Ep_lt (fun S_11 eS_11 => ?_)
  have hS_11 : S_11 61 1 = S0 61 1 := by rw [eS_11]; exact by rw [st_oth (by omega)]; exact hS
  refine Ep_lt (fun S_12 eS_12 => ?_)
  have hS_12 : S_12 61 1 = S0 61 1 := by rw [eS_12]; exact by rw [st_oth (by omega)]; exact hS_11
  exact Ep_some hS_12
set_option maxHeartbeats 1000000 in
set_option maxRecDepth 100000 in
theorem l6B_X8_takes_L36 {S0 : Tr} (x1 : Int32) (x2 : Int32) (x3 : Int32) (x4 : Int32)    (N : Nat) : ∀ (x5 : Int32) (S : Tr), S 61 1 = S0 61 1 → Ep (lpF (fun _ _ => none) (fB_X8_takes_L36 x1 x2 x3 x4) N x5 S) (fun q => q 61 1 = S0 61 1) := by
  induction N with
  | zero => intro x5 S _; exact Ep_none
  | succ N ih =>
    intro x5 S hS
    show Ep (fB_X8_takes_L36 x1 x2 x3 x4 (lpF (fun _ _ => none) (fB_X8_takes_L36 x1 x2 x3 x4) N) x5 S) _
    have hk36 := ih
    clear ih
    generalize lpF (fun _ _ => none) (fB_X8_takes_L36 x1 x2 x3 x4) N = k36 at hk36 ⊢
    unfold fB_X8_takes_L36
    refine Ep_ck ?_
    refine Ep_ite (fun _ => ?_) (fun _ => ?_)
    · exact l6J_X8_takes_J96 x1 x2 x3 S hS
    · refine Ep_ck ?_
      refine Ep_ck ?_
      refine Ep_lt (fun S_15 eS_15 => ?_)
      have hS_15 : S_15 61 1 = S0 61 1 := by rw [eS_15]; exact by rw [st_oth (by omega)]; exact hS
      refine Ep_lt (fun y16 ey16 => ?_)
      exact hk36 y16 S_15 hS_15
set_option maxHeartbeats 1000000 in
set_option maxRecDepth 100000 in
theorem l6L_X8_takes_L36 {S0 : Tr} (x1 : Int32) (x2 : Int32) (x3 : Int32) (x4 : Int32)    (x5 : Int32) (S : Tr) (hS : S 61 1 = S0 61 1) : Ep (fL_X8_takes_L36 x1 x2 x3 x4 x5 S) (fun q => q 61 1 = S0 61 1) := by
  unfold fL_X8_takes_L36
  exact l6B_X8_takes_L36 x1 x2 x3 x4 2000 x5 S hS
set_option maxHeartbeats 1000000 in
set_option maxRecDepth 100000 in
theorem l6_X8_takes {S0 : Tr} (S : Tr) (x1 : Int32) (x2 : Int32) (x3 : Int32) (hS : S 61 1 = S0 61 1)   : Ep (f_X8_takes S x1 x2 x3) (fun q => q 61 1 = S0 61 1) := by
  unfold f_X8_takes
  refine Ep_ck ?_
  refine Ep_lt (fun y2 ey2 => ?_)
  refine Ep_any (fun r3 => ?_)
  refine Ep_ck ?_
  refine Ep_lt (fun S_7 eS_7 => ?_)
  have hS_7 : S_7 61 1 = S0 61 1 := by rw [eS_7]; exact by rw [st_oth (by omega)]; exact hS
  exact l6L_X8_takes_L36 x1 x2 x3 y2 r3 S_7 hS_7
set_option maxHeartbeats 1000000 in
set_option maxRecDepth 100000 in
theorem l6J_X8_ins_J185 {S0 : Tr} (k146 : Int32 → Tr → Option (Tr)) (x1 : Int32) (x2 : Int32) (s0 : Int32) (s1 : Int32) (s2 : Int32) (S : Tr) (hS : S 61 1 = S0 61 1) (hk146 : ∀ (x2 : Int32) (S : Tr), S 61 1 = S0 61 1 → Ep (k146 x2 S) (fun q => q 61 1 = S0 61 1))  : Ep (fJ_X8_ins_J185 k146 x1 x2 s0 s1 s2 S) (fun q => q 61 1 = S0 61 1) := by
  unfold fJ_X8_ins_J185
  refine Ep_ck ?_
  refine Ep_lt (fun S_7 eS_7 => ?_)
  have hS_7 : S_7 61 1 = S0 61 1 := by rw [eS_7]; exact by rw [st_oth (by omega)]; exact hS
  refine Ep_lt (fun y8 ey8 => ?_)
  exact hk146 y8 S_7 hS_7
set_option maxHeartbeats 1000000 in
set_option maxRecDepth 100000 in
theorem l6B_X8_ins_L146 {S0 : Tr} (x1 : Int32)    (N : Nat) : ∀ (x2 : Int32) (S : Tr), S 61 1 = S0 61 1 → Ep (lpF (fun _ _ => none) (fB_X8_ins_L146 x1) N x2 S) (fun q => q 61 1 = S0 61 1) := by
  induction N with
  | zero => intro x2 S _; exact Ep_none
  | succ N ih =>
    intro x2 S hS
    show Ep (fB_X8_ins_L146 x1 (lpF (fun _ _ => none) (fB_X8_ins_L146 x1) N) x2 S) _
    have hk146 := ih
    clear ih
    generalize lpF (fun _ _ => none) (fB_X8_ins_L146 x1) N = k146 at hk146 ⊢
    unfold fB_X8_ins_L146
    refine Ep_ite (fun _ => ?_) (fun _ => ?_)
    · exact Ep_some hS
    · refine Ep_ck ?_
      refine Ep_ck ?_
      refine Ep_ite (fun _ => ?_) (fun _ => ?_)
      · refine Ep_ck ?_
        exact l6J_X8_ins_J185 k146 x1 x2 (S 56 (((5 : Int32) * x1) + x2).toNatClampNeg) (S 63 x1.toNatClampNeg) x1 S hS hk146
      · exact l6J_X8_ins_J185 k146 x1 x2 0 (S 63 x1.toNatClampNeg) x1 S hS hk146
set_option maxHeartbeats 1000000 in
set_option maxRecDepth 100000 in
theorem l6L_X8_ins_L146 {S0 : Tr} (x1 : Int32)    (x2 : Int32) (S : Tr) (hS : S 61 1 = S0 61 1) : Ep (fL_X8_ins_L146 x1 x2 S) (fun q => q 61 1 = S0 61 1) := by
  unfold fL_X8_ins_L146
  exact l6B_X8_ins_L146 x1 2000 x2 S hS
set_option maxHeartbeats 1000000 in
set_option maxRecDepth 100000 in
theorem l6_X8_lays {S0 : Tr} (S : Tr) (x1 : Int32) (x2 : Int32) (x3 : Int32) (hS : S 61 1 = S0 61 1)   : Ep (f_X8_lays S x1 x2 x3) (fun q => q 61 1 = S0 61 1) := by
  unfold f_X8_lays
  refine Ep_ck ?_
  refine Ep_ck ?_
  refine Ep_lt (fun S_3 eS_3 => ?_)
  have hS_3 : S_3 61 1 = S0 61 1 := by rw [eS_3]; exact by rw [st_oth (by omega)]; exact hS
  refine Ep_lt (fun S_4 eS_4 => ?_)
  have hS_4 : S_4 61 1 = S0 61 1 := by rw [eS_4]; exact by rw [st_oth (by omega)]; exact hS_3
  refine Ep_ck ?_
  refine Ep_lt (fun S_6 eS_6 => ?_)
  have hS_6 : S_6 61 1 = S0 61 1 := by rw [eS_6]; exact by rw [st_oth (by omega)]; exact hS_4
  refine Ep_lt (fun S_7 eS_7 => ?_)
  have hS_7 : S_7 61 1 = S0 61 1 := by rw [eS_7]; exact by rw [st_oth (by omega)]; exact hS_6
  exact Ep_some hS_7
set_option maxHeartbeats 1000000 in
set_option maxRecDepth 100000 in
theorem l6B_X8_ins_L61 {S0 : Tr} (k2 : Int32 → Tr → Option (Tr)) (x1 : Int32) (x2 : Int32)  (hk2 : ∀ (x2 : Int32) (S : Tr), S 61 1 = S0 61 1 → Ep (k2 x2 S) (fun q => q 61 1 = S0 61 1))  (N : Nat) : ∀ (x3 : Int32) (S : Tr), S 61 1 = S0 61 1 → Ep (lpF (fun _ _ => none) (fB_X8_ins_L61 k2 x1 x2) N x3 S) (fun q => q 61 1 = S0 61 1) := by
  induction N with
  | zero => intro x3 S _; exact Ep_none
  | succ N ih =>
    intro x3 S hS
    show Ep (fB_X8_ins_L61 k2 x1 x2 (lpF (fun _ _ => none) (fB_X8_ins_L61 k2 x1 x2) N) x3 S) _
    have hk61 := ih
    clear ih
    generalize lpF (fun _ _ => none) (fB_X8_ins_L61 k2 x1 x2) N = k61 at hk61 ⊢
    unfold fB_X8_ins_L61
    refine Ep_ite (fun _ => ?_) (fun _ => ?_)
    · refine Ep_lt (fun y17 ey17 => ?_)
      exact hk2 y17 S hS
    · refine Ep_ck ?_
      refine Ep_ite (fun _ => ?_) (fun _ => ?_)
      · refine Ep_ck ?_
        refine Ep_ite (fun _ => ?_) (fun _ => ?_)
        · refine Ep_any (fun r23 => ?_)
          refine Ep_ite (fun _ => ?_) (fun _ => ?_)
          · refine Ep_bd (l6_X8_lays S x1 r23 x3 hS) (fun S_27 hS_27 => ?_)
            refine Ep_lt (fun y30 ey30 => ?_)
            exact hk61 y30 S_27 hS_27
          · refine Ep_lt (fun S_31 eS_31 => ?_)
            have hS_31 : S_31 61 1 = S0 61 1 := by rw [eS_31]; exact by rw [st_oth (by omega)]; exact hS
            refine Ep_lt (fun y32 ey32 => ?_)
            exact hk61 y32 S_31 hS_31
        · refine Ep_lt (fun y33 ey33 => ?_)
          exact hk61 y33 S hS
      · refine Ep_lt (fun y20 ey20 => ?_)
        exact hk61 y20 S hS
set_option maxHeartbeats 1000000 in
set_option maxRecDepth 100000 in
theorem l6L_X8_ins_L61 {S0 : Tr} (k2 : Int32 → Tr → Option (Tr)) (x1 : Int32) (x2 : Int32)  (hk2 : ∀ (x2 : Int32) (S : Tr), S 61 1 = S0 61 1 → Ep (k2 x2 S) (fun q => q 61 1 = S0 61 1))  (x3 : Int32) (S : Tr) (hS : S 61 1 = S0 61 1) : Ep (fL_X8_ins_L61 k2 x1 x2 x3 S) (fun q => q 61 1 = S0 61 1) := by
  unfold fL_X8_ins_L61
  exact l6B_X8_ins_L61 k2 x1 x2 hk2 2000 x3 S hS
set_option maxHeartbeats 1000000 in
set_option maxRecDepth 100000 in
theorem l6B_X8_ins_L2 {S0 : Tr} (x1 : Int32)    (N : Nat) : ∀ (x2 : Int32) (S : Tr), S 61 1 = S0 61 1 → Ep (lpF (fun _ _ => none) (fB_X8_ins_L2 x1) N x2 S) (fun q => q 61 1 = S0 61 1) := by
  induction N with
  | zero => intro x2 S _; exact Ep_none
  | succ N ih =>
    intro x2 S hS
    show Ep (fB_X8_ins_L2 x1 (lpF (fun _ _ => none) (fB_X8_ins_L2 x1) N) x2 S) _
    have hk2 := ih
    clear ih
    generalize lpF (fun _ _ => none) (fB_X8_ins_L2 x1) N = k2 at hk2 ⊢
    unfold fB_X8_ins_L2
    refine Ep_ite (fun _ => ?_) (fun _ => ?_)
    · exact l6L_X8_ins_L146 x1 0 S hS
    · refine Ep_ck ?_
      refine Ep_ck ?_
      refine Ep_ite (fun _ => ?_) (fun _ => ?_)
      · refine Ep_ite (fun _ => ?_) (fun _ => ?_)
        · refine Ep_lt (fun S_15 eS_15 => ?_)
          have hS_15 : S_15 61 1 = S0 61 1 := by rw [eS_15]; exact by rw [st_oth (by omega)]; exact hS
          exact l6L_X8_ins_L61 k2 x1 x2 hk2 0 S_15 hS_15
        · refine Ep_lt (fun y34 ey34 => ?_)
          exact hk2 y34 S hS
      · refine Ep_lt (fun y13 ey13 => ?_)
        exact hk2 y13 S hS
set_option maxHeartbeats 1000000 in
set_option maxRecDepth 100000 in
theorem l6L_X8_ins_L2 {S0 : Tr} (x1 : Int32)    (x2 : Int32) (S : Tr) (hS : S 61 1 = S0 61 1) : Ep (fL_X8_ins_L2 x1 x2 S) (fun q => q 61 1 = S0 61 1) := by
  unfold fL_X8_ins_L2
  exact l6B_X8_ins_L2 x1 2000 x2 S hS
set_option maxHeartbeats 1000000 in
set_option maxRecDepth 100000 in
theorem l6_X8_ins {S0 : Tr} (S : Tr) (x1 : Int32) (hS : S 61 1 = S0 61 1)   : Ep (f_X8_ins S x1) (fun q => q 61 1 = S0 61 1) := by
  unfold f_X8_ins
  exact l6L_X8_ins_L2 x1 0 S hS
set_option maxHeartbeats 1000000 in
set_option maxRecDepth 100000 in
theorem l6J_X8_lawOf_J39 {S0 : Tr} (x1 : Int32) (S : Tr) (L : Lo) (hS : S 61 1 = S0 61 1)   : Ep (fJ_X8_lawOf_J39 x1 S L) (fun q => q.2.1 61 1 = S0 61 1) := by
  unfold fJ_X8_lawOf_J39
  refine Ep_ite (fun _ => ?_) (fun _ => ?_)
  · refine Ep_ck ?_
    refine Ep_ck ?_
    exact Ep_some hS
  · exact Ep_some hS
set_option maxHeartbeats 1000000 in
set_option maxRecDepth 100000 in
theorem l6J_X8_bounded_J29 {S0 : Tr} (x1 : Int64) (s0 : Int32) (S : Tr) (hS : S 61 1 = S0 61 1)   : Ep (fJ_X8_bounded_J29 x1 s0 S) (fun q => q.2 61 1 = S0 61 1) := by
  unfold fJ_X8_bounded_J29
  refine Ep_ck ?_
  refine Ep_lt (fun S_3 eS_3 => ?_)
  have hS_3 : S_3 61 1 = S0 61 1 := by rw [eS_3]; exact by rw [st_oth (by omega)]; exact hS
  refine Ep_ite (fun _ => ?_) (fun _ => ?_)
  · exact Ep_some hS_3
  · exact Ep_some hS_3
set_option maxHeartbeats 1000000 in
set_option maxRecDepth 100000 in
theorem l6J_X8_bounded_J24 {S0 : Tr} (x1 : Int64) (S : Tr) (hS : S 61 1 = S0 61 1)   : Ep (fJ_X8_bounded_J24 x1 S) (fun q => q.2 61 1 = S0 61 1) := by
  unfold fJ_X8_bounded_J24
  exact l6J_X8_bounded_J29 x1 1 S hS
set_option maxHeartbeats 1000000 in
set_option maxRecDepth 100000 in
theorem l6_X8_bounded {S0 : Tr} (S : Tr) (x1 : Int64) (hS : S 61 1 = S0 61 1)   : Ep (f_X8_bounded S x1) (fun q => q.2 61 1 = S0 61 1) := by
  unfold f_X8_bounded
  refine Ep_ite (fun _ => ?_) (fun _ => ?_)
  · refine Ep_ite (fun _ => ?_) (fun _ => ?_)
    · exact l6J_X8_bounded_J24 x1 S hS
    · refine Ep_ite (fun _ => ?_) (fun _ => ?_)
      · exact l6J_X8_bounded_J29 x1 0 S hS
      · exact l6J_X8_bounded_J24 x1 S hS
  · exact l6J_X8_bounded_J24 x1 S hS
set_option maxHeartbeats 1000000 in
set_option maxRecDepth 100000 in
theorem l6J_X8_times_J69 {S0 : Tr} (x1 : Int64) (x3 : Int64) (s0 : Int32) (S : Tr) (hS : S 61 1 = S0 61 1)   : Ep (fJ_X8_times_J69 x1 x3 s0 S) (fun q => q.2 61 1 = S0 61 1) := by
  unfold fJ_X8_times_J69
  refine Ep_ck ?_
  refine Ep_lt (fun S_4 eS_4 => ?_)
  have hS_4 : S_4 61 1 = S0 61 1 := by rw [eS_4]; exact by rw [st_oth (by omega)]; exact hS
  refine Ep_ite (fun _ => ?_) (fun _ => ?_)
  · exact Ep_some hS_4
  · exact Ep_some hS_4
set_option maxHeartbeats 1000000 in
set_option maxRecDepth 100000 in
theorem l6J_X8_times_J64 {S0 : Tr} (x1 : Int64) (x3 : Int64) (S : Tr) (hS : S 61 1 = S0 61 1)   : Ep (fJ_X8_times_J64 x1 x3 S) (fun q => q.2 61 1 = S0 61 1) := by
  unfold fJ_X8_times_J64
  exact l6J_X8_times_J69 x1 x3 1 S hS
set_option maxHeartbeats 1000000 in
set_option maxRecDepth 100000 in
theorem l6J_X8_times_J49 {S0 : Tr} (x1 : Int64) (x3 : Int64) (s0 : Int32) (S : Tr) (hS : S 61 1 = S0 61 1)   : Ep (fJ_X8_times_J49 x1 x3 s0 S) (fun q => q.2 61 1 = S0 61 1) := by
  unfold fJ_X8_times_J49
  refine Ep_ite (fun _ => ?_) (fun _ => ?_)
  · refine Ep_ite (fun _ => ?_) (fun _ => ?_)
    · exact l6J_X8_times_J69 x1 x3 0 S hS
    · exact l6J_X8_times_J64 x1 x3 S hS
  · exact l6J_X8_times_J64 x1 x3 S hS
set_option maxHeartbeats 1000000 in
set_option maxRecDepth 100000 in
theorem l6J_X8_times_J48 {S0 : Tr} (x1 : Int64) (x3 : Int64) (S : Tr) (hS : S 61 1 = S0 61 1)   : Ep (fJ_X8_times_J48 x1 x3 S) (fun q => q.2 61 1 = S0 61 1) := by
  unfold fJ_X8_times_J48
  exact l6J_X8_times_J49 x1 x3 0 S hS
set_option maxHeartbeats 1000000 in
set_option maxRecDepth 100000 in
theorem l6J_X8_times_J39 {S0 : Tr} (x1 : Int64) (x3 : Int64) (s0 : Int64) (s1 : Int64) (s2 : Int64) (S : Tr) (hS : S 61 1 = S0 61 1)   : Ep (fJ_X8_times_J39 x1 x3 s0 s1 s2 S) (fun q => q.2 61 1 = S0 61 1) := by
  unfold fJ_X8_times_J39
  refine Ep_ck ?_
  refine Ep_ite (fun _ => ?_) (fun _ => ?_)
  · exact l6J_X8_times_J48 x1 x3 S hS
  · exact l6J_X8_times_J49 x1 x3 1 S hS
set_option maxHeartbeats 1000000 in
set_option maxRecDepth 100000 in
theorem l6J_X8_times_J24 {S0 : Tr} (x1 : Int64) (x3 : Int64) (s0 : Int64) (S : Tr) (hS : S 61 1 = S0 61 1)   : Ep (fJ_X8_times_J24 x1 x3 s0 S) (fun q => q.2 61 1 = S0 61 1) := by
  unfold fJ_X8_times_J24
  refine Ep_ite (fun _ => ?_) (fun _ => ?_)
  · exact l6J_X8_times_J39 x1 x3 x1 1000000000000 s0 S hS
  · exact l6J_X8_times_J39 x1 x3 (-x1) 1000000000000 s0 S hS
set_option maxHeartbeats 1000000 in
set_option maxRecDepth 100000 in
theorem l6_X8_times {S0 : Tr} (S : Tr) (x1 : Int64) (x3 : Int64) (hS : S 61 1 = S0 61 1)   : Ep (f_X8_times S x1 x3) (fun q => q.2 61 1 = S0 61 1) := by
  unfold f_X8_times
  refine Ep_ite (fun _ => ?_) (fun _ => ?_)
  · exact l6J_X8_times_J48 x1 x3 S hS
  · refine Ep_ite (fun _ => ?_) (fun _ => ?_)
    · exact l6J_X8_times_J48 x1 x3 S hS
    · refine Ep_ite (fun _ => ?_) (fun _ => ?_)
      · exact l6J_X8_times_J24 x1 x3 x3 S hS
      · exact l6J_X8_times_J24 x1 x3 (-x3) S hS
set_option maxHeartbeats 1000000 in
set_option maxRecDepth 100000 in
theorem l6J_X8_valueOf_J240 {S0 : Tr} (L : Lo) (x2 : Int64) (x4 : Int64) (s0 : Int32) (S : Tr) (hS : S 61 1 = S0 61 1)   : Ep (fJ_X8_valueOf_J240 L x2 x4 s0 S) (fun q => q.2 61 1 = S0 61 1) := by
  unfold fJ_X8_valueOf_J240
  refine Ep_ck ?_
  refine Ep_lt (fun S_34 eS_34 => ?_)
  have hS_34 : S_34 61 1 = S0 61 1 := by rw [eS_34]; exact by rw [st_oth (by omega)]; exact hS
  refine Ep_ite (fun _ => ?_) (fun _ => ?_)
  · refine Ep_ck ?_
    exact Ep_some hS_34
  · exact Ep_some hS_34
set_option maxHeartbeats 1000000 in
set_option maxRecDepth 100000 in
theorem l6J_X8_valueOf_J235 {S0 : Tr} (L : Lo) (x2 : Int64) (x4 : Int64) (S : Tr) (hS : S 61 1 = S0 61 1)   : Ep (fJ_X8_valueOf_J235 L x2 x4 S) (fun q => q.2 61 1 = S0 61 1) := by
  unfold fJ_X8_valueOf_J235
  exact l6J_X8_valueOf_J240 L x2 x4 1 S hS
set_option maxHeartbeats 1000000 in
set_option maxRecDepth 100000 in
theorem l6_X8_valueOf {S0 : Tr} (S : Tr) (L : Lo) (x1 : Int32) (hS : S 61 1 = S0 61 1)   : Ep (f_X8_valueOf S L x1) (fun q => q.2 61 1 = S0 61 1) := by
  unfold f_X8_valueOf
  refine Ep_ck ?_
  refine Ep_ite (fun _ => ?_) (fun _ => ?_)
  · exact Ep_some hS
  · refine Ep_ite (fun _ => ?_) (fun _ => ?_)
    · refine Ep_ck ?_
      exact Ep_some hS
    · refine Ep_ck ?_
      refine Ep_lt (fun y5 ey5 => ?_)
      refine Ep_ite (fun _ => ?_) (fun _ => ?_)
      · refine Ep_ite (fun _ => ?_) (fun _ => ?_)
        · exact Ep_some hS
        · exact Ep_some hS
      · refine Ep_ck ?_
        refine Ep_lt (fun y8 ey8 => ?_)
        refine Ep_lt (fun y9 ey9 => ?_)
        refine Ep_ite (fun _ => ?_) (fun _ => ?_)
        · refine Ep_ite (fun _ => ?_) (fun _ => ?_)
          · exact Ep_some hS
          · refine Ep_ite (fun _ => ?_) (fun _ => ?_)
            · exact Ep_some hS
            · exact Ep_some hS
        · refine Ep_ite (fun _ => ?_) (fun _ => ?_)
          · refine Ep_ite (fun _ => ?_) (fun _ => ?_)
            · refine Ep_ite (fun _ => ?_) (fun _ => ?_)
              · exact Ep_some hS
              · exact Ep_some hS
            · exact Ep_some hS
          · refine Ep_ite (fun _ => ?_) (fun _ => ?_)
            · refine Ep_bd (l6_X8_bounded S (y5 + y8) hS) (fun q hq => ?_)
              refine Ep_lt (fun r17 er17 => ?_)
              refine Ep_lt (fun S_18 eS_18 => ?_)
              have hS_18 : S_18 61 1 = S0 61 1 := by rw [eS_18]; exact hq
              exact Ep_some hS_18
            · refine Ep_ite (fun _ => ?_) (fun _ => ?_)
              · refine Ep_bd (l6_X8_bounded S (y5 - y8) hS) (fun q hq => ?_)
                refine Ep_lt (fun r22 er22 => ?_)
                refine Ep_lt (fun S_23 eS_23 => ?_)
                have hS_23 : S_23 61 1 = S0 61 1 := by rw [eS_23]; exact hq
                exact Ep_some hS_23
              · refine Ep_ite (fun _ => ?_) (fun _ => ?_)
                · refine Ep_bd (l6_X8_times S y5 y8 hS) (fun q hq => ?_)
                  refine Ep_lt (fun r27 er27 => ?_)
                  refine Ep_lt (fun S_28 eS_28 => ?_)
                  have hS_28 : S_28 61 1 = S0 61 1 := by rw [eS_28]; exact hq
                  exact Ep_some hS_28
                · refine Ep_ite (fun _ => ?_) (fun _ => ?_)
                  · refine Ep_ite (fun _ => ?_) (fun _ => ?_)
                    · refine Ep_ite (fun _ => ?_) (fun _ => ?_)
                      · exact l6J_X8_valueOf_J235 L y5 y8 S hS
                      · exact l6J_X8_valueOf_J240 L y5 y8 0 S hS
                    · exact l6J_X8_valueOf_J235 L y5 y8 S hS
                  · refine Ep_any (fun r38 => ?_)
                    refine Ep_ite (fun _ => ?_) (fun _ => ?_)
                    · exact Ep_some hS
                    · exact Ep_some hS
set_option maxHeartbeats 1000000 in
set_option maxRecDepth 100000 in
theorem l6B_X8_lawOf_L12 {S0 : Tr} (x1 : Int32)    (N : Nat) : ∀ (x2 : Int32) (S : Tr) (L : Lo), S 61 1 = S0 61 1 → Ep (lpF (fun _ _ _ => none) (fB_X8_lawOf_L12 x1) N x2 S L) (fun q => q.2.1 61 1 = S0 61 1) := by
  induction N with
  | zero => intro x2 S L _; exact Ep_none
  | succ N ih =>
    intro x2 S L hS
    show Ep (fB_X8_lawOf_L12 x1 (lpF (fun _ _ _ => none) (fB_X8_lawOf_L12 x1) N) x2 S L) _
    have hk12 := ih
    clear ih
    generalize lpF (fun _ _ _ => none) (fB_X8_lawOf_L12 x1) N = k12 at hk12 ⊢
    unfold fB_X8_lawOf_L12
    refine Ep_ck ?_
    refine Ep_ite (fun _ => ?_) (fun _ => ?_)
    · exact l6J_X8_lawOf_J39 x1 S L hS
    · refine Ep_bd (l6_X8_valueOf S L x2 hS) (fun q hq => ?_)
      refine Ep_lt (fun r9 er9 => ?_)
      refine Ep_lt (fun S_10 eS_10 => ?_)
      have hS_10 : S_10 61 1 = S0 61 1 := by rw [eS_10]; exact hq
      refine Ep_ck ?_
      refine Ep_lt (fun L_14 eL_14 => ?_)
      refine Ep_lt (fun y15 ey15 => ?_)
      exact hk12 y15 S_10 L_14 hS_10
set_option maxHeartbeats 1000000 in
set_option maxRecDepth 100000 in
theorem l6L_X8_lawOf_L12 {S0 : Tr} (x1 : Int32)    (x2 : Int32) (S : Tr) (L : Lo) (hS : S 61 1 = S0 61 1) : Ep (fL_X8_lawOf_L12 x1 x2 S L) (fun q => q.2.1 61 1 = S0 61 1) := by
  unfold fL_X8_lawOf_L12
  exact l6B_X8_lawOf_L12 x1 2000 x2 S L hS
set_option maxHeartbeats 1000000 in
set_option maxRecDepth 100000 in
theorem l6_X8_lawOf {S0 : Tr} (S : Tr) (L : Lo) (x1 : Int32) (hS : S 61 1 = S0 61 1)   : Ep (f_X8_lawOf S L x1) (fun q => q.2.1 61 1 = S0 61 1) := by
  unfold f_X8_lawOf
  refine Ep_lt (fun S_1 eS_1 => ?_)
  have hS_1 : S_1 61 1 = S0 61 1 := by rw [eS_1]; exact by rw [st_oth (by omega)]; exact hS
  refine Ep_ck ?_
  refine Ep_lt (fun y3 ey3 => ?_)
  exact l6L_X8_lawOf_L12 x1 y3 S_1 L hS_1
set_option maxHeartbeats 1000000 in
set_option maxRecDepth 100000 in
theorem l6_X8_boundLaw {S0 : Tr} (S : Tr) (L : Lo) (x1 : Int32) (x2 : Int32) (x3 : Int32) (hS : S 61 1 = S0 61 1)   : Ep (f_X8_boundLaw S L x1 x2 x3) (fun q => q.2.1 61 1 = S0 61 1) := by
  unfold f_X8_boundLaw
  refine Ep_ck ?_
  refine Ep_ite (fun _ => ?_) (fun _ => ?_)
  · exact Ep_some hS
  · refine Ep_bd (l6_X8_lawOf S L x1 hS) (fun q hq => ?_)
    refine Ep_lt (fun r3 er3 => ?_)
    refine Ep_lt (fun S_4 eS_4 => ?_)
    have hS_4 : S_4 61 1 = S0 61 1 := by rw [eS_4]; exact hq
    refine Ep_lt (fun L_5 eL_5 => ?_)
    refine Ep_ite (fun _ => ?_) (fun _ => ?_)
    · refine Ep_ite (fun _ => ?_) (fun _ => ?_)
      · refine Ep_ite (fun _ => ?_) (fun _ => ?_)
        · exact Ep_some hS_4
        · exact Ep_some hS_4
      · exact Ep_some hS_4
    · exact Ep_some hS_4
set_option maxHeartbeats 1000000 in
set_option maxRecDepth 100000 in
theorem l6B_X8_onTheWay_L90 {S0 : Tr} (x1 : Int32)    (N : Nat) : ∀ (x2 : Int32) (S : Tr) (L : Lo), S 61 1 = S0 61 1 → Ep (lpF (fun _ _ _ => none) (fB_X8_onTheWay_L90 x1) N x2 S L) (fun q => q.1 61 1 = S0 61 1) := by
  induction N with
  | zero => intro x2 S L _; exact Ep_none
  | succ N ih =>
    intro x2 S L hS
    show Ep (fB_X8_onTheWay_L90 x1 (lpF (fun _ _ _ => none) (fB_X8_onTheWay_L90 x1) N) x2 S L) _
    have hk90 := ih
    clear ih
    generalize lpF (fun _ _ _ => none) (fB_X8_onTheWay_L90 x1) N = k90 at hk90 ⊢
    unfold fB_X8_onTheWay_L90
    refine Ep_ite (fun _ => ?_) (fun _ => ?_)
    · exact Ep_some hS
    · refine Ep_ite (fun _ => ?_) (fun _ => ?_)
      · refine Ep_ck ?_
        refine Ep_ite (fun _ => ?_) (fun _ => ?_)
        · refine Ep_ck ?_
          refine Ep_ite (fun _ => ?_) (fun _ => ?_)
          · refine Ep_ck ?_
            refine Ep_any (fun L_10 => ?_)
            refine Ep_bd (l6_X8_boundLaw S L_10 (2 : Int32) (10 : Int32) (100 : Int32) hS) (fun q hq => ?_)
            refine Ep_lt (fun r13 er13 => ?_)
            refine Ep_lt (fun S_14 eS_14 => ?_)
            have hS_14 : S_14 61 1 = S0 61 1 := by rw [eS_14]; exact hq
            refine Ep_lt (fun L_15 eL_15 => ?_)
            refine Ep_any (fun q => ?_)
            refine Ep_lt (fun r18 er18 => ?_)
            refine Ep_lt (fun L_19 eL_19 => ?_)
            refine Ep_ite (fun _ => ?_) (fun _ => ?_)
            · refine Ep_lt (fun y23 ey23 => ?_)
              exact hk90 y23 S_14 L_19 hS_14
            · refine Ep_bd (l6_X8_takes S_14 x1 x2 (4 : Int32) hS_14) (fun S_24 hS_24 => ?_)
              refine Ep_lt (fun y27 ey27 => ?_)
              exact hk90 y27 S_24 L_19 hS_24
          · refine Ep_lt (fun y28 ey28 => ?_)
            exact hk90 y28 S L hS
        · refine Ep_lt (fun y6 ey6 => ?_)
          exact hk90 y6 S L hS
      · exact Ep_some hS
set_option maxHeartbeats 1000000 in
set_option maxRecDepth 100000 in
theorem l6L_X8_onTheWay_L90 {S0 : Tr} (x1 : Int32)    (x2 : Int32) (S : Tr) (L : Lo) (hS : S 61 1 = S0 61 1) : Ep (fL_X8_onTheWay_L90 x1 x2 S L) (fun q => q.1 61 1 = S0 61 1) := by
  unfold fL_X8_onTheWay_L90
  exact l6B_X8_onTheWay_L90 x1 2000 x2 S L hS
set_option maxHeartbeats 1000000 in
set_option maxRecDepth 100000 in
theorem l6J_X8_fallOf_J58 {S0 : Tr} (s0 : Int32) (s1 : Int32) (S : Tr) (L : Lo) (hS : S 61 1 = S0 61 1)   : Ep (fJ_X8_fallOf_J58 s0 s1 S L) (fun q => q.2.1 61 1 = S0 61 1) := by
  unfold fJ_X8_fallOf_J58
  refine Ep_bd (l6_X8_boundLaw S L s1 s0 (100 : Int32) hS) (fun q hq => ?_)
  refine Ep_lt (fun r11 er11 => ?_)
  refine Ep_lt (fun S_12 eS_12 => ?_)
  have hS_12 : S_12 61 1 = S0 61 1 := by rw [eS_12]; exact hq
  refine Ep_lt (fun L_13 eL_13 => ?_)
  exact Ep_some hS_12
set_option maxHeartbeats 1000000 in
set_option maxRecDepth 100000 in
theorem l6J_X8_fallOf_J17 {S0 : Tr} (x1 : Int32) (x2 : Int32) (s0 : Int32) (S : Tr) (L : Lo) (hS : S 61 1 = S0 61 1)   : Ep (fJ_X8_fallOf_J17 x1 x2 s0 S L) (fun q => q.2.1 61 1 = S0 61 1) := by
  unfold fJ_X8_fallOf_J17
  refine Ep_any (fun r2 => ?_)
  refine Ep_ck ?_
  refine Ep_lt (fun y6 ey6 => ?_)
  refine Ep_any (fun L_7 => ?_)
  refine Ep_ite (fun _ => ?_) (fun _ => ?_)
  · exact l6J_X8_fallOf_J58 y6 1 S L_7 hS
  · exact l6J_X8_fallOf_J58 0 1 S L_7 hS
set_option maxHeartbeats 1000000 in
set_option maxRecDepth 100000 in
theorem l6_X8_fallOf {S0 : Tr} (S : Tr) (L : Lo) (x1 : Int32) (x2 : Int32) (hS : S 61 1 = S0 61 1)   : Ep (f_X8_fallOf S L x1 x2) (fun q => q.2.1 61 1 = S0 61 1) := by
  unfold f_X8_fallOf
  refine Ep_ite (fun _ => ?_) (fun _ => ?_)
  · exact l6J_X8_fallOf_J17 x1 x2 (S 23 1) S L hS
  · exact l6J_X8_fallOf_J17 x1 x2 0 S L hS
set_option maxHeartbeats 1000000 in
set_option maxRecDepth 100000 in
theorem l6B_X8_onTheWay_L2 {S0 : Tr} (x1 : Int32)    (N : Nat) : ∀ (x2 : Int32) (S : Tr) (L : Lo), S 61 1 = S0 61 1 → Ep (lpF (fun _ _ _ => none) (fB_X8_onTheWay_L2 x1) N x2 S L) (fun q => q.1 61 1 = S0 61 1) := by
  induction N with
  | zero => intro x2 S L _; exact Ep_none
  | succ N ih =>
    intro x2 S L hS
    show Ep (fB_X8_onTheWay_L2 x1 (lpF (fun _ _ _ => none) (fB_X8_onTheWay_L2 x1) N) x2 S L) _
    have hk2 := ih
    clear ih
    generalize lpF (fun _ _ _ => none) (fB_X8_onTheWay_L2 x1) N = k2 at hk2 ⊢
    unfold fB_X8_onTheWay_L2
    refine Ep_ite (fun _ => ?_) (fun _ => ?_)
    · exact l6L_X8_onTheWay_L90 x1 0 S L hS
    · refine Ep_ite (fun _ => ?_) (fun _ => ?_)
      · refine Ep_ck ?_
        refine Ep_ite (fun _ => ?_) (fun _ => ?_)
        · refine Ep_lt (fun y32 ey32 => ?_)
          exact hk2 y32 S L hS
        · refine Ep_ck ?_
          refine Ep_ite (fun _ => ?_) (fun _ => ?_)
          · refine Ep_lt (fun y53 ey53 => ?_)
            exact hk2 y53 S L hS
          · refine Ep_any (fun r35 => ?_)
            refine Ep_bd (l6_X8_fallOf S L x1 r35 hS) (fun q hq => ?_)
            refine Ep_lt (fun r38 er38 => ?_)
            refine Ep_lt (fun S_39 eS_39 => ?_)
            have hS_39 : S_39 61 1 = S0 61 1 := by rw [eS_39]; exact hq
            refine Ep_lt (fun L_40 eL_40 => ?_)
            refine Ep_any (fun q => ?_)
            refine Ep_lt (fun r43 er43 => ?_)
            refine Ep_lt (fun L_44 eL_44 => ?_)
            refine Ep_ite (fun _ => ?_) (fun _ => ?_)
            · refine Ep_lt (fun y48 ey48 => ?_)
              exact hk2 y48 S_39 L_44 hS_39
            · refine Ep_bd (l6_X8_takes S_39 x1 r35 (3 : Int32) hS_39) (fun S_49 hS_49 => ?_)
              refine Ep_lt (fun y52 ey52 => ?_)
              exact hk2 y52 S_49 L_44 hS_49
      · exact l6L_X8_onTheWay_L90 x1 0 S L hS
set_option maxHeartbeats 1000000 in
set_option maxRecDepth 100000 in
theorem l6L_X8_onTheWay_L2 {S0 : Tr} (x1 : Int32)    (x2 : Int32) (S : Tr) (L : Lo) (hS : S 61 1 = S0 61 1) : Ep (fL_X8_onTheWay_L2 x1 x2 S L) (fun q => q.1 61 1 = S0 61 1) := by
  unfold fL_X8_onTheWay_L2
  exact l6B_X8_onTheWay_L2 x1 2000 x2 S L hS
set_option maxHeartbeats 1000000 in
set_option maxRecDepth 100000 in
theorem l6_X8_onTheWay {S0 : Tr} (S : Tr) (L : Lo) (x1 : Int32) (hS : S 61 1 = S0 61 1)   : Ep (f_X8_onTheWay S L x1) (fun q => q.1 61 1 = S0 61 1) := by
  unfold f_X8_onTheWay
  exact l6L_X8_onTheWay_L2 x1 0 S L hS
def gr (m : Nat) (S S1 : Tr) : Prop := ∃ v : Int32, 0 ≤ v.toInt ∧ v.toInt ≤ (m : Int) ∧ S1 61 1 = S 61 1 + v
theorem gr_r {m : Nat} {S : Tr} : gr m S S := ⟨0, by decide, by rw [show (0 : Int32).toInt = 0 by decide]; omega, (Int32.add_zero _).symm⟩
theorem gr_e {m : Nat} {S S1 S2 : Tr} (h : gr m S S1) (e : S2 61 1 = S1 61 1) : gr m S S2 := by
  obtain ⟨v, v0, v1, v2⟩ := h
  exact ⟨v, v0, v1, e.trans v2⟩
theorem gr_m {m n : Nat} {S S1 : Tr} (h : gr m S S1) (e : m ≤ n) : gr n S S1 := by
  obtain ⟨v, v0, v1, v2⟩ := h
  exact ⟨v, v0, by omega, v2⟩
theorem gr_a {m n : Nat} {S S1 S2 : Tr} {w : Int32} (h : gr m S S1) (w0 : 0 ≤ w.toInt) (w1 : w.toInt ≤ (n : Int)) (e : S2 61 1 = S1 61 1 + w) (hm : m + n ≤ 1000000) : gr (m + n) S S2 := by
  obtain ⟨v, v0, v1, v2⟩ := h
  have a : (v + w).toInt = v.toInt + w.toInt := i_addK rfl rfl (by omega) (by omega)
  exact ⟨v + w, by omega, by omega, by rw [e, v2, Int32.add_assoc]⟩
theorem gr_t {m n : Nat} {S S1 S2 : Tr} (h : gr m S S1) (h2 : gr n S1 S2) (hm : m + n ≤ 1000000) : gr (m + n) S S2 := by
  obtain ⟨w, w0, w1, w2⟩ := h2
  exact gr_a h w0 w1 w2 hm
theorem rI_61 {S : Tr} {v : Int32} (h : rI 1 S) : rI 1 (st S 61 1 v) := by
  have z : ∀ a, ¬ a = 61 → ∀ j, st S 61 1 v a j = S a j := fun a ha j => by rw [st_oth ha]
  exact ⟨iR_setU h.1 rfl, pI_fr h.2.1 (z 39 (by omega)) (z 40 (by omega)) (z 41 (by omega)) (z 36 (by omega)) (z 38 (by omega)) (z 30 (by omega)) (z 29 (by omega)) (z 0 (by omega) 13) (z 0 (by omega) 14), gI_fr h.2.2 (z 53 (by omega)) (z 54 (by omega)) (z 55 (by omega)) (z 56 (by omega)) (z 58 (by omega)) (z 0 (by omega) 13) (z 0 (by omega) 14)⟩
theorem rI_60 {S : Tr} {i : Nat} {v : Int32} (h : rI 1 S) : rI 1 (st S 60 i v) := by
  have z : ∀ a, ¬ a = 60 → ∀ j, st S 60 i v a j = S a j := fun a ha j => by rw [st_oth ha]
  exact ⟨iR_setU h.1 rfl, pI_fr h.2.1 (z 39 (by omega)) (z 40 (by omega)) (z 41 (by omega)) (z 36 (by omega)) (z 38 (by omega)) (z 30 (by omega)) (z 29 (by omega)) (z 0 (by omega) 13) (z 0 (by omega) 14), gI_fr h.2.2 (z 53 (by omega)) (z 54 (by omega)) (z 55 (by omega)) (z 56 (by omega)) (z 58 (by omega)) (z 0 (by omega) 13) (z 0 (by omega) 14)⟩
theorem ab_9 {n : Nat} {S : Tr} {xb x : Int32} (hb : xb.toNatClampNeg = 1) (hxb : 0 ≤ xb.toInt ∧ xb.toInt ≤ 1) (hS : rI 1 S) (hx : x.toInt = n) (hn : n ≤ 9) (h1 : S 53 (10 * 1 + n) = 1) : Ep (f_X8_aboveOf S xb x) (fun r => 0 ≤ r.toInt ∧ r.toInt ≤ 9) := by
  have j10 : (((10 : Int32) * xb) + x).toNatClampNeg = 10 * 1 + n := by rw [jx 10 (by decide) (by omega) hxb hx (by omega), hb]
  have hly : 0 ≤ (S 54 (10 * 1 + n)).toInt := (hS.2.2.2.1 n (by omega)).mp h1
  obtain ⟨p, pos, h, p4, hp, hh, hpos, h10, hbl⟩ := bel_S hb hxb hS.1 hS.2.2.1 hx hn hly
  have j5 : (((5 : Int32) * xb) + (S 54 (10 * 1 + n))).toNatClampNeg = 5 * 1 + p := by rw [jx 5 (by decide) (by omega) hxb hp (by omega), hb]
  unfold f_X8_aboveOf
  rw [j10]
  refine Ep_ck (Ep_ite (fun _ => Ep_ck (Ep_bd hbl (fun r4 h4 => Ep_some ?_))) (fun _ => Ep_some (by decide)))
  rw [j5]
  have a1 : ((S 56 (5 * 1 + p)) - 1).toInt = (h : Int) - 1 := i_subK hh (by decide) (by omega) (by omega)
  have a2 : (((S 56 (5 * 1 + p)) - 1) - r4).toInt = (h : Int) - 1 - (pos : Int) := i_subK a1 h4 (by omega) (by omega)
  constructor
  · rw [a2]; omega
  · rw [a2]; omega
/-- one person's pieces -/
theorem g_32 {S0 : Tr} {k9 : Int32 → Int32 → Tr → Lo → Option (Tr × Lo)} {o : Nat} {xb xo : Int32} (hb : xb.toNatClampNeg = 1) (hxb : 0 ≤ xb.toInt ∧ xb.toInt ≤ 1) (ho : xo.toInt = o) (ho6 : o < 6) (hk : ∀ (y x2 : Int32) (S1 : Tr) (L1 : Lo), y.toInt = ((o + 1 : Nat) : Int) → rI 1 S1 → gr (100 * (o + 1)) S0 S1 → Ep (k9 x2 y S1 L1) (fun q => rI 1 q.1 ∧ gr 600 S0 q.1)) (N : Nat) : ∀ (n : Nat) (x2 x4 : Int32) (S : Tr) (L : Lo), x4.toInt = n → n ≤ 10 → rI 1 S → gr (100 * o + 10 * n) S0 S → Ep (lpF (fun _ _ _ _ => none) (fB_X8_outs_L32 k9 xb xo) N x2 x4 S L) (fun q => rI 1 q.1 ∧ gr 600 S0 q.1) := by
  induction N with
  | zero => intro n x2 x4 S L _ _ _ _; exact Ep_none
  | succ N ih =>
    intro n x2 x4 S L hx hn hS hg
    show Ep (fB_X8_outs_L32 k9 xb xo (lpF (fun _ _ _ _ => none) (fB_X8_outs_L32 k9 xb xo) N) x2 x4 S L) _
    generalize lpF (fun _ _ _ _ => none) (fB_X8_outs_L32 k9 xb xo) N = k at ih ⊢
    have b14 : 0 ≤ (S 0 14).toInt ∧ (S 0 14).toInt ≤ 10 := hS.1 0 14
    have e1 := i_p1 hx (by omega)
    have eo := i_p1 ho (by omega)
    have j10 : (((10 : Int32) * xb) + x4).toNatClampNeg = 10 * 1 + n := by rw [jx 10 (by decide) (by omega) hxb hx (by omega), hb]
    have j6 : (((6 : Int32) * xb) + xo).toNatClampNeg = 6 * 1 + o := by rw [jx 6 (by decide) (by omega) hxb ho (by omega), hb]
    unfold fB_X8_outs_L32 fJ_X8_outs_J182 fJ_X8_outs_J116 fJ_X8_outs_J112 fJ_X8_outs_J117
    refine Ep_ite (fun _ => Ep_any (fun r => Ep_ite (fun _ => Ep_ck (Ep_lt (fun S1 e => Ep_lt (fun y ey => ?_)))) (fun _ => Ep_lt (fun y ey => hk y x2 S L (by rw [ey]; exact eo) hS (gr_m hg (by omega)))))) (fun c => Ep_ck ?_)
    · rw [j6] at e
      exact hk y x2 S1 L (by rw [ey]; exact eo) (by rw [e]; exact rI_out hS) (gr_m (gr_e hg (by rw [e, st_oth (by omega)])) (by omega))
    have hlt := tq_len rfl hx c
    have nx : ∀ (x2 y : Int32) (S1 : Tr) (L : Lo), y = x4 + 1 → rI 1 S1 → gr (100 * o + 10 * (n + 1)) S0 S1 → Ep (k x2 y S1 L) (fun q => rI 1 q.1 ∧ gr 600 S0 q.1) := fun x2 y S1 L ey h1 h2 => ih (n + 1) x2 y S1 L (by rw [ey]; exact e1) (by omega) h1 h2
    have hg1 : gr (100 * o + 10 * (n + 1)) S0 S := gr_m hg (by omega)
    refine Ep_ite (fun _ => Ep_ck ?_) (fun _ => Ep_lt (fun y ey => nx x2 y S L ey hS hg1))
    rw [j10]
    refine Ep_ite (fun h1 => ?_) (fun _ => Ep_lt (fun y ey => nx x2 y S L ey hS hg1))
    have hly : 0 ≤ (S 54 (10 * 1 + n)).toInt := (hS.2.2.2.1 n (by omega)).mp h1
    have ts := D_to (t_X8_secondsOf S L xb x4 hS.1 hS.2.1 (by rw [hb]; exact hS.2.2) hxb ⟨by omega, by omega⟩ (by rw [j10]; exact hly) (by omega))
    refine Ep_bd ts (fun q hq => Ep_lt (fun r37 _ => Ep_lt (fun S38 e38 => Ep_lt (fun L39 _ => ?_))))
    obtain ⟨p1, p2, p3, p4⟩ := hq
    rw [hb] at p4
    rw [← e38] at p1 p2 p3 p4
    have hS8 : rI 1 S38 := ⟨p1, p3, p4⟩
    have hg8 : gr (100 * o + 10 * n) S0 S38 := gr_e hg (p2 61 1 rfl)
    have h18 : S38 53 (10 * 1 + n) = 1 := (p2 53 _ rfl).trans h1
    have no : Ep (lt (x4 + 1) fun y56 => k 0 y56 S38 L39) (fun q => rI 1 q.1 ∧ gr 600 S0 q.1) := Ep_lt (fun y ey => nx 0 y S38 L39 ey hS8 (gr_m hg8 (by omega)))
    have yes : Ep (lt (st S38 0 72 ((S38 0 72) + r37)) fun S_44 => ck (okI (((6 : Int32) * xb) + xo) 12) (lt (st S_44 60 ((((6 : Int32) * xb) + xo).toNatClampNeg) ((S_44 60 (((6 : Int32) * xb) + xo).toNatClampNeg) + r37)) fun S_46 => ck (okI xb 2) (bd (f_X8_aboveOf S_46 xb x4) fun r48 => lt (st S_46 61 xb.toNatClampNeg ((S_46 61 xb.toNatClampNeg) + r48)) fun S_51 => bd (f_X8_takes S_51 xb x4 (2 : Int32)) fun S_52 => lt (x4 + 1) fun y55 => k 1 y55 S_52 L39))) (fun q => rI 1 q.1 ∧ gr 600 S0 q.1) := by
      refine Ep_lt (fun S44 e44 => Ep_ck (Ep_lt (fun S46 e46 => Ep_ck ?_)))
      have hS44 : rI 1 S44 := by rw [e44]; exact rI_s0 hS8 (iR_setU hS8.1 rfl) (by omega) (by omega)
      have hS46 : rI 1 S46 := by rw [e46]; exact rI_60 hS44
      have s53 : S46 53 (10 * 1 + n) = 1 := by rw [e46, st_oth (by omega), e44, st_oth (by omega)]; exact h18
      have s61 : S46 61 1 = S38 61 1 := by rw [e46, st_oth (by omega), e44, st_oth (by omega)]
      refine Ep_bd (ab_9 hb hxb hS46 hx (by omega) s53) (fun r48 h48 => Ep_lt (fun S51 e51 => ?_))
      rw [hb] at e51
      have hS51 : rI 1 S51 := by rw [e51]; exact rI_61 hS46
      have g51 : gr (100 * o + 10 * n + 9) S0 S51 := gr_a (n := 9) hg8 h48.1 h48.2 (by rw [e51, st_same, s61]) (by omega)
      have hl51 : 0 ≤ (S51 54 (10 * 1 + n)).toInt := by
        have s : S51 53 (10 * 1 + n) = 1 := by rw [e51, st_oth (by omega)]; exact s53
        exact (hS51.2.2.2.1 n (by omega)).mp s
      have c3 := D_to (t_X8_takes2 S51 xb x4 2 hS51.1 (by rw [hb]; exact hS51.2.2) hxb ⟨by omega, by omega⟩ (by decide) (by rw [j10]; exact hl51) (by decide))
      rw [hb] at c3
      refine Ep_bd (Ep_and c3 (l6_X8_takes (S0 := S51) S51 xb x4 2 rfl)) (fun S52 h52 => Ep_lt (fun y ey => ?_))
      obtain ⟨⟨q3, q4, q5, _⟩, q6⟩ := h52
      exact nx 1 y S52 L39 ey ⟨q3, pI_aG hS51.2.1 q5, q4⟩ (gr_m (gr_e g51 q6) (by omega))
    refine Ep_ite (fun _ => Ep_ite (fun _ => no) (fun g => absurd rfl g)) (fun _ => Ep_ite (fun _ => Ep_ck (Ep_ck (Ep_ite (fun _ => Ep_ite (fun _ => no) (fun g => absurd rfl g)) (fun _ => Ep_ite (fun g => absurd g (by decide)) (fun _ => yes))))) (fun _ => Ep_ite (fun g => absurd g (by decide)) (fun _ => yes)))
theorem g_outs {S : Tr} {L : Lo} {xb : Int32} (hb : xb.toNatClampNeg = 1) (hxb : 0 ≤ xb.toInt ∧ xb.toInt ≤ 1) (hS : rI 1 S) : Ep (f_X8_outs S L xb) (fun q => rI 1 q.1 ∧ gr 600 S q.1) := by
  have lp : ∀ (N o : Nat) (x2 x3 : Int32) (S1 : Tr) (L : Lo), x3.toInt = o → o ≤ 6 → rI 1 S1 → gr (100 * o) S S1 → Ep (lpF (fun _ _ _ _ => none) (fB_X8_outs_L9 xb) N x2 x3 S1 L) (fun q => rI 1 q.1 ∧ gr 600 S q.1) := by
    intro N
    induction N with
    | zero => intro o x2 x3 S1 L _ _ _ _; exact Ep_none
    | succ N ih =>
      intro o x2 x3 S1 L hx ho h1 hg
      show Ep (fB_X8_outs_L9 xb (lpF (fun _ _ _ _ => none) (fB_X8_outs_L9 xb) N) x2 x3 S1 L) _
      generalize lpF (fun _ _ _ _ => none) (fB_X8_outs_L9 xb) N = k at ih ⊢
      have b13 : 0 ≤ (S1 0 13).toInt ∧ (S1 0 13).toInt ≤ 6 := h1.1 0 13
      have hg6 : gr 600 S S1 := gr_m hg (by omega)
      unfold fB_X8_outs_L9 fJ_X8_outs_J209
      refine Ep_ite (fun _ => Ep_ck (Ep_ite (fun _ => ?_) (fun _ => Ep_some ⟨h1, hg6⟩))) (fun c => Ep_any (fun r => ?_))
      · exact Ep_mono (en_223 hb hxb h1) (fun q hq => ⟨hq.2.1, gr_e hg6 (hq.2.2.2.2.2 61 1 (by omega) (by omega))⟩)
      · have lt := tq_len rfl hx c
        refine Ep_ite (fun _ => Ep_lt (fun y ey => ih (o + 1) x2 y S1 L (by rw [ey]; exact i_p1 hx (by omega)) (by omega) h1 (gr_m hg (by omega)))) (fun _ => ?_)
        unfold fL_X8_outs_L32
        exact g_32 hb hxb hx (by omega) (fun y x2 S2 L1 hy a1 a2 => ih (o + 1) x2 y S2 L1 hy (by omega) a1 a2) 2000 0 x2 0 S1 L (by decide) (by omega) h1 (gr_m hg (by omega))
  unfold f_X8_outs fL_X8_outs_L9
  refine Ep_lt (fun S1 e1 => ?_)
  exact lp 2000 0 1 0 S1 L (by decide) (by omega) (by rw [e1]; exact rI_s0 hS (iR_setU hS.1 rfl) (by omega) (by omega)) (gr_e gr_r (by rw [e1, st_oth (by omega)]))
theorem g_goOn {S : Tr} {L : Lo} (hS : rI 1 S) (hn : (S 62 1).toInt ≤ 20) : Ep (f_X8_goOn S L 1) (fun q => rI 1 q.1 ∧ gr 600 S q.1 ∧ (q.1 62 1).toInt = (S 62 1).toInt + 1) := by
  have o1 : (1 : Int32).toNatClampNeg = 1 := by decide
  have t := D_to (t_X8_goOn S L 1 hS.1 hS.2.1 (by rw [o1]; exact hS.2.2) (by decide) (by rw [o1]; exact hn))
  rw [o1] at t
  have w : Ep (f_X8_goOn S L 1) (fun q => gr 600 S q.1) := by
    have fin : ∀ (S1 : Tr) (L1 : Lo), gr 600 S S1 → Ep (fJ_X8_goOn_J26 1 S1 L1) (fun q => gr 600 S q.1) := fun S1 L1 h => by
      unfold fJ_X8_goOn_J26
      exact Ep_ck (Ep_lt (fun S11 e => Ep_some (gr_e h (by show S11 61 1 = S1 61 1; rw [e, st_oth (by omega)]))))
    unfold f_X8_goOn
    refine Ep_bd (g_outs (by decide) (by decide) hS) (fun q hq => Ep_lt (fun S1 e1 => Ep_lt (fun L2 _ => Ep_bd (l6_X8_ins (S0 := S1) S1 1 rfl) (fun S5 h5 => ?_))))
    rw [← e1] at hq
    have g5 : gr 600 S S5 := gr_e hq.2 h5
    exact Ep_ck (Ep_ite (fun _ => fin S5 L2 g5) (fun _ => Ep_bd (l6_X8_onTheWay (S0 := S5) S5 L2 1 rfl) (fun u hu => Ep_lt (fun S12 e12 => Ep_lt (fun L13 _ => fin S12 L13 (gr_e g5 (by rw [e12]; exact hu)))))))
  exact Ep_mono (Ep_and t w) (fun q h => ⟨⟨h.1.1, h.1.2.2.1, h.1.2.2.2.1⟩, h.2, h.1.2.2.2.2⟩)
/-- to the end: 21 stops at most -/
theorem g_end {S : Tr} {L : Lo} (hS : rI 1 S) (h0 : 0 ≤ (S 62 1).toInt) : Ep (f_X8_toEnd S L) (fun q => rI 1 q.1 ∧ gr 12600 S q.1) := by
  have lp : ∀ (N n : Nat) (S1 : Tr) (L : Lo), (S1 62 1).toInt = n → n ≤ 21 → rI 1 S1 → gr (600 * n) S S1 → Ep (lpF (fun _ _ => none) (fB_X8_toEnd_L0) N S1 L) (fun q => rI 1 q.1 ∧ gr 12600 S q.1) := by
    intro N
    induction N with
    | zero => intro n S1 L _ _ _ _; exact Ep_none
    | succ N ih =>
      intro n S1 L hn n21 h1 hg
      show Ep (fB_X8_toEnd_L0 (lpF (fun _ _ => none) (fB_X8_toEnd_L0) N) S1 L) _
      generalize lpF (fun _ _ => none) (fB_X8_toEnd_L0) N = k at ih ⊢
      unfold fB_X8_toEnd_L0
      refine Ep_ite (fun _ => Ep_some ⟨h1, gr_m hg (by omega)⟩) (fun c => ?_)
      have c1 := tq_len (x := (21 : Int32)) (y := S1 62 1) (a := 21) (by decide) hn c
      refine Ep_bd (g_goOn h1 (by omega)) (fun q hq => Ep_lt (fun S2 e2 => Ep_lt (fun L3 _ => ?_)))
      obtain ⟨w1, w2, w3⟩ := hq
      rw [← e2] at w1 w2 w3
      exact ih (n + 1) S2 L3 (by rw [w3, hn]; omega) (by omega) w1 (by
        have := gr_t hg w2 (by omega)
        exact gr_m this (by omega))
  have b62 : (S 62 1).toInt ≤ 21 := (hS.1 62 1).2
  unfold f_X8_toEnd fL_X8_toEnd_L0
  obtain ⟨n, hn⟩ : ∃ n : Nat, (S 62 1).toInt = n := ⟨(S 62 1).toInt.toNat, by omega⟩
  exact lp 2000 n S L hn (by omega) hS gr_r
-- 62.zaz.62.z54
/-! the rule with the fewest lifts -/
theorem sub_gr {a v : Int32} : (a + v) - a = v := by rw [Int32.add_comm a v, Int32.add_sub_cancel]
theorem lay_rI {S : Tr} (hS : rI 0 S) : Ep (f_X8_layTried S) (fun q => rI 1 q ∧ q 61 1 = S 61 0 ∧ q 61 0 = S 61 0 ∧ q 62 1 = S 62 0) := by
  refine Ep_mono (Ep_and (D_to (t_X8_layTried S hS.1 hS.2.2 hS.2.1)) (e_layT S)) (fun q h => ?_)
  obtain ⟨⟨a1, _, a3, a4, a5, a6⟩, _, _, c3⟩ := h
  exact ⟨⟨a1, a4, a3⟩, a6, c3 61 0 (by omega) (by omega) (by omega) (by omega) (by omega) (by omega) (by omega), a5⟩
theorem l6_61 {S0 S : Tr} (a : aG 1 S0 S) : S 61 0 = S0 61 0 := a 61 0 (Wb_h (by unfold h0c; omega))
/-- how many lifts a trial from now on has, at most -/
theorem g_lby {S : Tr} {L : Lo} {x : Int32} (hS : rI 0 S) : Ep (f_X8_liftsBy S L x) (fun q => 0 ≤ q.1.toInt ∧ q.1.toInt ≤ 12600) := by
  unfold f_X8_liftsBy
  refine Ep_bd (lay_rI hS) (fun S1 h1 => Ep_lt (fun S4 e4 => ?_))
  obtain ⟨r1, l1, l0, s62⟩ := h1
  have r4 : rI 1 S4 := by rw [e4]; exact rI_s0 r1 (iR_setU r1.1 rfl) (by omega) (by omega)
  have a61 : S4 61 1 = S 61 0 := by rw [e4, st_oth (by omega)]; exact l1
  have a60 : S4 61 0 = S 61 0 := by rw [e4, st_oth (by omega)]; exact l0
  have te := D_to (t_X8_toEnd S4 L r4.1 r4.2.1 r4.2.2)
  refine Ep_bd (Ep_and te (g_end (L := L) r4 (r4.1 62 1).1)) (fun q hq => Ep_lt (fun S5 e5 => Ep_lt (fun L6 _ => ?_)))
  obtain ⟨⟨_, ag, _⟩, _, v, v0, v1, v2⟩ := hq
  unfold f_X8_more
  refine Ep_bd (Ep_some (Q := fun r => r = S5 61 1 - S5 61 0) rfl) (fun r hr => Ep_some ?_)
  have e : r = v := by rw [hr, e5, v2, l6_61 ag, a61, a60, sub_gr]
  show 0 ≤ r.toInt ∧ r.toInt ≤ 12600
  rw [e]
  exact ⟨v0, v1⟩
theorem lby_ex {P T S : Tr} {L : Lo} (h : Nw P T S L) (x : Int32) : ∃ a, f_X8_liftsBy S L x = some a := by
  obtain ⟨a, e, _⟩ := t_X8_liftsBy S L x h.1.1 h.1.2.1 h.1.2.2
  exact ⟨a, e⟩
theorem e_X7bestRule {P Tn Tu S : Tr} {L Lc : Lo} {pa qa : Nat → Nat} {q0 q2 : Nat} (h : Nw P Tn S L) : E2 (f_X7_bestRule pa qa P Lc Tn Tu q0 q2) (f_X8_bestRule S L) (fun q q' => q.1 = q'.1) := by
  have lp : ∀ (N M n : Nat) (x1 f y : Int32) (S : Tr) (L Lc : Lo) (Tu : Tr) (q2 : Nat), Nw P Tn S L → y.toInt = n → 0 ≤ x1.toInt → x1.toInt ≤ 2 → (∃ Lc0 Tu0 n0 u0, clB pa qa P Lc0 Tn Tu0 q0 n0 x1 = some u0 ∧ u0.1 = f) → E2 (lpF (fun _ _ _ _ _ _ => none) (fB_X7_bestRule_L8 pa qa P Tn q0) N x1 f y Lc Tu q2) (lpF (fun _ _ _ _ => none) (fB_X8_bestRule_L9) M x1 y S L) (fun q q' => q.1 = q'.1) := by
    intro N
    induction N with
    | zero => intro M n x1 f y S L Lc Tu q2 _ _ _ _ _; exact E2_nl
    | succ N ih =>
      intro M n x1 f y S L Lc Tu q2 hN hy x0 x2 hf
      cases M with
      | zero => exact E2_nr
      | succ M =>
        have ih := ih M
        show E2 (fB_X7_bestRule_L8 pa qa P Tn q0 (lpF (fun _ _ _ _ _ _ => none) (fB_X7_bestRule_L8 pa qa P Tn q0) N) x1 f y Lc Tu q2) (fB_X8_bestRule_L9 (lpF (fun _ _ _ _ => none) (fB_X8_bestRule_L9) M) x1 y S L) _
        generalize lpF (fun _ _ _ _ _ _ => none) (fB_X7_bestRule_L8 pa qa P Tn q0) N = k8 at ih ⊢
        generalize lpF (fun _ _ _ _ => none) (fB_X8_bestRule_L9) M = k9 at ih ⊢
        unfold fB_X7_bestRule_L8 fB_X8_bestRule_L9
        refine E2_it Iff.rfl (fun _ _ => E2_some rfl) (fun c _ => ?_)
        have c3 := tq_len (x := (3 : Int32)) (y := y) (a := 3) (by decide) hy c
        have e1 := i_p1 hy (by omega)
        intro u v eu ev
        obtain ⟨q, hq, eu⟩ := tx_bd eu
        have eu : bd (f_X7_liftsOfTrial pa qa P Lc Tn (st q.1 0 3 y) q.2) (fun w => if f ≤ w.1 then k8 x1 f (y + 1) w.2.1 w.2.2 q.2 else k8 y w.1 (y + 1) w.2.1 w.2.2 q.2) = some u := eu
        obtain ⟨w, hw, eu⟩ := tx_bd eu
        have hc : clB pa qa P Lc Tn Tu q0 q2 y = some (w.1, w.2.1, w.2.2, q.2) := by
          unfold clB
          rw [hq]
          show bd (f_X7_liftsOfTrial pa qa P Lc Tn (st q.1 0 3 y) q.2) (fun w => some (w.1, w.2.1, w.2.2, q.2)) = _
          rw [hw]; rfl
        obtain ⟨a, ha, ev⟩ := tx_bd ev
        simp only [lt] at ev
        obtain ⟨c4, hc4, ev⟩ := tx_bd ev
        have ev : (if c4.1 ≤ a.1 then k9 x1 (y + 1) c4.2.1 c4.2.2 else k9 y (y + 1) c4.2.1 c4.2.2) = some v := ev
        have wa : w.1 = a.1 := e_clB hN (by omega) (by omega) _ _ hc ha
        have hN2 : Nw P Tn a.2.1 a.2.2 := nw_lby hN a ha
        have hN3 : Nw P Tn c4.2.1 c4.2.2 := nw_lby hN2 c4 hc4
        obtain ⟨Lc0, Tu0, n0, u0, g0, g1⟩ := hf
        have fc : f = c4.1 := g1.symm.trans (e_clB hN2 x0 x2 _ _ g0 hc4)
        by_cases g : f ≤ w.1
        · rw [if_pos g] at eu
          rw [if_pos (by rw [← wa, ← fc]; exact g)] at ev
          exact ih (n + 1) x1 f (y + 1) c4.2.1 c4.2.2 w.2.1 w.2.2 q.2 hN3 e1 x0 x2 ⟨Lc0, Tu0, n0, u0, g0, g1⟩ u v eu ev
        · rw [if_neg g] at eu
          rw [if_neg (by rw [← wa, ← fc]; exact g)] at ev
          exact ih (n + 1) y w.1 (y + 1) c4.2.1 c4.2.2 w.2.1 w.2.2 q.2 hN3 e1 (by omega) (by omega) ⟨Lc, Tu, q2, _, hc, rfl⟩ u v eu ev
  have first : ∀ (N : Nat) (S : Tr) (L : Lo), Nw P Tn S L → E2 (lpF (fun _ _ _ _ _ _ => none) (fB_X7_bestRule_L8 pa qa P Tn q0) (N + 1) 0 1000000 0 Lc Tu q2) (fL_X8_bestRule_L9 0 1 S L) (fun q q' => q.1 = q'.1) := by
    intro N S L hN
    have lp := lp N 2000
    show E2 (fB_X7_bestRule_L8 pa qa P Tn q0 (lpF (fun _ _ _ _ _ _ => none) (fB_X7_bestRule_L8 pa qa P Tn q0) N) 0 1000000 0 Lc Tu q2) _ _
    generalize lpF (fun _ _ _ _ _ _ => none) (fB_X7_bestRule_L8 pa qa P Tn q0) N = k8 at lp ⊢
    unfold fB_X7_bestRule_L8
    refine E2_ql (by decide) ?_
    intro u v eu ev
    obtain ⟨q, hq, eu⟩ := tx_bd eu
    have eu : bd (f_X7_liftsOfTrial pa qa P Lc Tn (st q.1 0 3 0) q.2) (fun w => if (1000000 : Int32) ≤ w.1 then k8 0 1000000 (0 + 1) w.2.1 w.2.2 q.2 else k8 0 w.1 (0 + 1) w.2.1 w.2.2 q.2) = some u := eu
    obtain ⟨w, hw, eu⟩ := tx_bd eu
    have hc : clB pa qa P Lc Tn Tu q0 q2 0 = some (w.1, w.2.1, w.2.2, q.2) := by
      unfold clB
      rw [hq]
      show bd (f_X7_liftsOfTrial pa qa P Lc Tn (st q.1 0 3 0) q.2) (fun w => some (w.1, w.2.1, w.2.2, q.2)) = _
      rw [hw]; rfl
    obtain ⟨a, ha⟩ := lby_ex hN 0
    have wa : w.1 = a.1 := e_clB hN (by decide) (by decide) _ _ hc ha
    have hbd := g_lby hN.1 a ha
    rw [if_neg (fun g => by
      have g := Int32.le_iff_toInt_le.mp g
      rw [wa, show (1000000 : Int32).toInt = 1000000 by decide] at g
      omega)] at eu
    have e01 : (0 + 1 : Int32) = 1 := by decide
    rw [e01] at eu
    exact lp 1 0 w.1 1 S L w.2.1 w.2.2 q.2 hN (by decide) (by decide) (by decide) ⟨Lc, Tu, q2, _, hc, rfl⟩ u v eu ev
  unfold f_X7_bestRule f_X8_bestRule fL_X7_bestRule_L8
  refine E2_ltr (fun S1 e1 => ?_)
  have hN : Nw P Tn S1 L := by rw [e1]; exact Nw_2 h
  exact first 1999 S1 L hN
-- 62.zaz.63.z55
/-! racks turned over ahead of each stop -/
/-- a stack of a trial is turned by both -/
theorem Rl_trn {p : Nat} {P T S : Tr} {L : Lo} {xb x1 : Int32} (hb : xb.toNatClampNeg = 1) (hxb : 0 ≤ xb.toInt ∧ xb.toInt ≤ 1) (hR : Rl 1 P T S) (hd : drw T L) (hx : x1.toInt = p) (hp : p < 5) : E2 (f_X6_turnOver T P x1) (f_X8_turns S xb x1) (fun q q' => Rl 1 P q.2 q'.2 ∧ drw q.2 L ∧ (∀ a j, ¬ a = 16 → q.2 a j = T a j) ∧ (∀ a j, a ≠ 55 → a ≠ 74 → q'.2 a j = S a j)) := by
  have ht := e_trn (xb := xb) hR.1 hR.2.1 hR.2.2.2.1.2.2.2.2 hb hxb hx hp
  have hD := D_to (t_X8_turns S xb x1 hR.1.1 (by rw [hb]; exact hR.1.2.2) hxb ⟨by omega, by omega⟩)
  intro u v eu ev
  obtain ⟨_, _, h3, h4, h5, h6, _⟩ := ht u v eu ev
  obtain ⟨r1, r2, r3, _⟩ := hD v ev
  rw [hb] at r2 r3
  have aM1 : aM 1 S v.2 := fun a j hf => by
    by_cases g5 : a = 55
    · subst g5
      refine h6 j (fun q => ?_)
      rw [Mb_55 (inB_of (by omega) (by omega))] at hf
      cases hf
    · by_cases g7 : a = 74
      · subst g7; simp [Mb] at hf
      · exact h5 a j g5 g7
  obtain ⟨d1, d2, d3, d4, d5⟩ := hR.2.2.2.1
  have hRl : Rl 1 P u.2 v.2 := ⟨⟨r1, pI_aG hR.1.2.1 r3, r2⟩, pK_M hR.2.1 aM1, sta_M hR.2.2.1 (cM_of (fun a j hn => h4 a j (by omega))) aM1, ⟨by rw [h4 0 0 (by omega), h5 62 1 (by omega) (by omega)]; exact d1, by rw [h4 0 1 (by omega), h5 61 1 (by omega) (by omega)]; exact d2, fun p hp => by
    rw [h5 0 13 (by omega) (by omega)] at hp
    rw [h4 11 p (by omega), h4 12 p (by omega), h5 59 _ (by omega) (by omega), h5 60 _ (by omega) (by omega)]; exact d3 p hp, fun i hi => by
    rw [h5 0 14 (by omega) (by omega)] at hi
    rw [h4 14 i (by omega), h4 15 i (by omega), h5 53 _ (by omega) (by omega), h5 54 _ (by omega) (by omega)]; exact d4 i hi, h3⟩, inv_e hR.2.2.2.2 (fun a j hj => h5 a j (by omega) (by omega))⟩
  exact ⟨hRl, drw_e hd (h4 0 5 (by omega)) (h4 0 2 (by omega)) rfl, h4, h5⟩
/-- while the racks are turned -/
def asI (P T0 S0 : Tr) (L : Lo) (T S : Tr) : Prop := Rl 1 P T S ∧ drw T L ∧ (∀ a j, ¬ a = 16 → T a j = T0 a j) ∧ ∀ a j, a ≠ 55 → a ≠ 74 → S a j = S0 a j
theorem e_as29 {k21 : Int32 → Lo → Tr → Option (Int32 × Lo × Tr × Nat)} {k20 : Tr → Lo → Option (Int32 × Tr × Lo)} {pa qa : Nat → Nat} {P Tn T0 S0 : Tr} {L Lc : Lo} {q0 q2 q4 : Nat} {x1 x2 : Int32} {Q : Int32 × Lo × Tr × Nat → Int32 × Tr × Lo → Prop} (hk : ∀ T S, asI P T0 S0 L T S → E2 (fJ_X7_asking_J66 k21 pa qa P Tn q0 q2 (pa 0) x1 x2 Lc T) (fJ_X8_asking_J68 k20 x1 S L) Q) (N : Nat) : ∀ (M n : Nat) (x3 : Int32) (T S : Tr), x3.toInt = n → n ≤ 5 → asI P T0 S0 L T S → E2 (lpF (fun _ _ => none) (fB_X7_asking_L29 k21 pa qa P Lc Tn q0 q2 q4 x1 x2) N x3 T) (lpF (fun _ _ => none) (fB_X8_asking_L33 k20 L x1) M x3 S) Q := by
  induction N with
  | zero => intro M n x3 T S _ _ _; exact E2_nl
  | succ N ih =>
    intro M n x3 T S hx hn hI
    cases M with
    | zero => exact E2_nr
    | succ M =>
      have ih := ih M
      show E2 (fB_X7_asking_L29 k21 pa qa P Lc Tn q0 q2 q4 x1 x2 (lpF (fun _ _ => none) (fB_X7_asking_L29 k21 pa qa P Lc Tn q0 q2 q4 x1 x2) N) x3 T) (fB_X8_asking_L33 k20 L x1 (lpF (fun _ _ => none) (fB_X8_asking_L33 k20 L x1) M) x3 S) _
      generalize lpF (fun _ _ => none) (fB_X7_asking_L29 k21 pa qa P Lc Tn q0 q2 q4 x1 x2) N = k at ih ⊢
      generalize lpF (fun _ _ => none) (fB_X8_asking_L33 k20 L x1) M = k' at ih ⊢
      obtain ⟨hR, hd, fT, fS⟩ := id hI
      have b12 : 0 ≤ (S 0 12).toInt ∧ (S 0 12).toInt ≤ 5 := hR.1.1 0 12
      have p00 : P 0 0 = S 0 12 := hR.2.1.1.1
      have e1 := i_p1 hx (by omega)
      unfold fB_X7_asking_L29 fB_X8_asking_L33
      rw [p00]
      refine E2_ckl (fun _ => E2_it Iff.rfl (fun _ _ => hk T S hI) (fun c _ => ?_))
      have lt := tq_len rfl hx c
      have p8 : P 8 n = S 24 n := (hR.2.1.2.1 n lt).1
      have k0 : 0 ≤ (S 24 n).toInt := hR.2.1.1.2.2.2.2.2.2.2 n lt
      have nx : ∀ (y y' : Int32) (T S : Tr), y = x3 + 1 → y' = x3 + 1 → asI P T0 S0 L T S → E2 (k y T) (k' y' S) Q := fun y y' T S ey ey' h => by
        subst ey ey'
        exact ih (n + 1) (x3 + 1) T S e1 (by omega) h
      rw [i_cn hx]
      refine E2_ckl (fun _ => E2_ckr (fun _ => E2_bl (e_rck hx (by rw [p8]; exact k0)) (fun r hr => ?_)))
      rw [p8] at hr
      have i2 : (2 : Int32) ≤ S 24 n ↔ (1 : Int32) < S 24 n := by
        rw [Int32.le_iff_toInt_le, Int32.lt_iff_toInt_lt, show (2 : Int32).toInt = 2 by decide, show (1 : Int32).toInt = 1 by decide]
        omega
      rcases hr with ⟨rfl, g⟩ | ⟨rfl, g⟩
      · exact E2_pl rfl (E2_pr (i2.mpr g) (E2_ltl (fun y ey => E2_ltr (fun y' ey' => nx y y' T S ey ey' hI))))
      · refine E2_ql (by decide) (E2_qr (fun q => g (i2.mp q)) (E2_bd (Rl_trn (xb := 1) (by decide) (by decide) hR hd hx (by omega)) (fun u v huv => E2_ltl (fun _ _ => E2_ltl (fun T2 t2 => E2_ltl (fun y ey => E2_ltr (fun _ _ => E2_ltr (fun S2 s2 => E2_ltr (fun y' ey' => ?_)))))))))
        obtain ⟨w1, w2, w3, w4⟩ := huv
        rw [← t2, ← s2] at w1
        rw [← t2] at w2 w3
        rw [← s2] at w4
        exact nx y y' T2 S2 ey ey' ⟨w1, w2, fun a j n => (w3 a j n).trans (fT a j n), fun a j n1 n2 => (w4 a j n1 n2).trans (fS a j n1 n2)⟩
theorem e_as {pa qa : Nat → Nat} {P Tn S7 : Tr} {q0 q2 q4 : Nat} {x1 : Int32} (h60 : S7 61 1 = S7 61 0) (htn : Tn 0 1 = S7 61 0) (x10 : 0 ≤ x1.toInt) (x12 : x1.toInt ≤ 12600) (N : Nat) : ∀ (M n : Nat) (x2 : Int32) (T S : Tr) (L Lc : Lo), Rl 1 P T S → drw T L → S 0 70 = 0 → x2 = T 0 0 → (S 62 1).toInt = n → n ≤ 21 → gr (600 * n) S7 S → S 61 0 = S7 61 0 → E2 (lpF (fun _ _ _ => none) (fB_X7_asking_L21 pa qa P Tn q0 q2 q4 x1) N x2 Lc T) (lpF (fun _ _ => none) (fB_X8_asking_L20 x1) M S L) (fun q q' => q.1 = q'.1) := by
  induction N with
  | zero => intro M n x2 T S L Lc _ _ _ _ _ _ _ _; exact E2_nl
  | succ N ih =>
    intro M n x2 T S L Lc hR hd h70 hx2 hn n21 hg h61
    cases M with
    | zero => exact E2_nr
    | succ M =>
      have ih := ih M
      show E2 (fB_X7_asking_L21 pa qa P Tn q0 q2 q4 x1 (lpF (fun _ _ _ => none) (fB_X7_asking_L21 pa qa P Tn q0 q2 q4 x1) N) x2 Lc T) (fB_X8_asking_L20 x1 (lpF (fun _ _ => none) (fB_X8_asking_L20 x1) M) S L) _
      generalize lpF (fun _ _ _ => none) (fB_X7_asking_L21 pa qa P Tn q0 q2 q4 x1) N = k at ih ⊢
      generalize lpF (fun _ _ => none) (fB_X8_asking_L20 x1) M = k' at ih ⊢
      have t00 : T 0 0 = S 62 1 := hR.2.2.2.1.1
      have t01 : T 0 1 = S 61 1 := hR.2.2.2.1.2.1
      unfold fB_X7_asking_L21 fB_X8_asking_L20
      rw [hx2]
      by_cases c : (20 : Int32) < T 0 0
      · rw [if_pos c]
        have c1 := Int32.lt_iff_toInt_lt.mp c
        rw [t00, show (20 : Int32).toInt = 20 by decide] at c1
        rw [if_pos (Int32.le_iff_toInt_le.mpr (by rw [show (21 : Int32).toInt = 21 by decide]; omega) : (21 : Int32) ≤ S 62 1)]
        obtain ⟨v, v0, v1, v2⟩ := hg
        have er : S 61 1 - S 61 0 = v := by rw [v2, h60, h61, sub_gr]
        have et : T 0 1 - Tn 0 1 = v := by rw [t01, htn, ← h61]; exact er
        have v12 : v.toInt ≤ 12600 := by omega
        have sv : (x1 - v).toInt = x1.toInt - v.toInt := i_subK rfl rfl (by omega) (by omega)
        unfold fJ_X7_asking_J79 fJ_X8_asking_J76 f_X8_more
        rw [et, er]
        refine E2_ltl (fun y ey => E2_sr ?_)
        by_cases g : x1 ≤ v
        · rw [if_pos g]
          have g1 := Int32.le_iff_toInt_le.mp g
          by_cases z : 0 ≤ y
          · rw [if_pos z]
            have z1 := Int32.le_iff_toInt_le.mp z
            rw [ey, sv, show (0 : Int32).toInt = 0 by decide] at z1
            refine E2_some ?_
            show y = 0
            exact Int32.toInt_inj.mp (by rw [ey, sv, show (0 : Int32).toInt = 0 by decide]; omega)
          · rw [if_neg z]; exact E2_some rfl
        · rw [if_neg g]
          have g1 : v.toInt < x1.toInt := Int.not_le.mp (fun q => g (Int32.le_iff_toInt_le.mpr q))
          rw [if_pos (Int32.le_iff_toInt_le.mpr (by rw [ey, sv, show (0 : Int32).toInt = 0 by decide]; omega) : (0 : Int32) ≤ y)]
          exact E2_sr (E2_some ey)
      · rw [if_neg c]
        have c1 : (S 62 1).toInt ≤ 20 := by
          have := tq_ltn (x := (20 : Int32)) (y := T 0 0) (a := 20) (by decide) rfl c
          rw [t00] at this
          exact this
        rw [if_neg (fun g => by
          have g := Int32.le_iff_toInt_le.mp g
          rw [show (21 : Int32).toInt = 21 by decide] at g
          omega)]
        unfold fL_X7_asking_L29 fL_X8_asking_L33
        refine e_as29 (T0 := T) (S0 := S) (fun T2 S2 hI => ?_) 2000 2000 0 0 T S (by decide) (by omega) ⟨hR, hd, fun _ _ _ => rfl, fun _ _ _ _ => rfl⟩
        obtain ⟨hR2, hd2, fT, fS⟩ := hI
        have s62 : S2 62 1 = S 62 1 := fS 62 1 (by omega) (by omega)
        have hst2 : (S2 62 1).toInt ≤ 20 := by rw [s62]; exact c1
        unfold fJ_X7_asking_J66 fJ_X8_asking_J68
        refine E2_ckl (fun _ => E2_bd (E2_and (R := fun _ => True) (fun _ _ => trivial) (g_goOn hR2.1 hst2) (e_pass (Lc := Lc) (xb := 1) (by decide) (by decide) hR2 hd2 ((fS 0 70 (by omega) (by omega)).trans h70) hst2)) (fun u v huv => E2_ltl (fun T3 t3 => E2_ltl (fun L4 _ => E2_ltl (fun y ey => E2_ltr (fun S3 s3 => E2_ltr (fun L5 l5 => ?_)))))))
        obtain ⟨hp, _, _, hgr, h621⟩ := huv
        obtain ⟨w1, w2, w3, w4, w5, w6⟩ := ps_of hp hst2 (by rw [s62]; omega)
        rw [← t3, ← s3] at w1
        rw [← t3, ← l5] at w2
        rw [← s3] at w3 w4 hgr
        refine ih (n + 1) y T3 S3 L5 L4 w1 w2 ?_ ?_ ?_ (by omega) ?_ ?_
        · rw [w4 0 70 (aM_0 (by omega) (by omega)), fS 0 70 (by omega) (by omega)]; exact h70
        · rw [ey, w1.2.2.2.1.1]
          refine Int32.toInt_inj.mp ?_
          have a : (T 0 0 + 1).toInt = (n : Int) + 1 := i_addK (by rw [t00]; exact hn) (by decide) (by omega) (by omega)
          rw [a, w3, s62, hn]
        · rw [w3, s62, hn]; omega
        · have g1 : gr (600 * n) S7 S2 := gr_e hg (fS 61 1 (by omega) (by omega))
          exact gr_m (gr_t g1 hgr (by omega)) (by omega)
        · rw [w4 61 0 rfl, fS 61 0 (by omega) (by omega)]; exact h61
theorem e_X7asking {P Tn Tu S : Tr} {L Lc : Lo} {pa qa : Nat → Nat} {q0 q2 q4 : Nat} (h : Nw P Tn S L) : E2 (f_X7_asking pa qa P Lc Tn Tu q0 q2 q4) (f_X8_asking S L) (fun q q' => q.1 = q'.1) := by
  unfold f_X7_asking f_X8_asking
  refine E2_ltr (fun S1 e1 => ?_)
  have hN : Nw P Tn S1 L := by rw [e1]; exact Nw_2 h
  have hn3 : Tn 0 3 = S1 23 0 := hN.2.2.2.2.2.2.1.1
  intro u v eu ev
  obtain ⟨a, ha, eu⟩ := tx_bd eu
  have eu : bd (f_X7_liftsOfTrial pa qa P Lc Tn a.1 a.2) (fun w => bd (f_X7_startTrial pa qa Tn w.2.2 q0 a.2) (fun c => fL_X7_asking_L21 pa qa P Tn q0 c.2 q4 w.1 (Tn 0 0) w.2.1 c.1)) = some u := eu
  obtain ⟨w, hw, eu⟩ := tx_bd eu
  obtain ⟨b, hb, ev⟩ := tx_bd ev
  simp only [lt] at ev
  have hN2 : Nw P Tn b.2.1 b.2.2 := nw_lby hN b hb
  have bb := g_lby hN.1 b hb
  -- the class's first trial keeps the rule; the reference sets it
  have wb : w.1 = b.1 := by
    unfold f_X8_liftsBy at hb
    obtain ⟨S2, hS2, hb⟩ := tx_bd hb
    obtain ⟨hR, g70, g65, g5, hf, hc, hp, _, _⟩ := e_start hN a S2 ha hS2
    have e64 : st S2 0 64 (S1 23 0) = S2 := by
      funext c j
      by_cases q : c = 0 ∧ j = 64
      · obtain ⟨rfl, rfl⟩ := q
        rw [st_same, hp.1]
      · exact st_no q
    simp only [lt] at hb
    rw [e64] at hb
    obtain ⟨q, hq, hb⟩ := tx_bd hb
    have hb : some (q.1 61 1 - q.1 61 0, q.1, q.2) = some b := hb
    obtain ⟨u1, u2⟩ := e_lot (Tn := Tn) hR (fun n => absurd g5 n) g70 w q hw hq
    have a61 : q.1 61 0 = S2 61 0 := u2.2.2.2.2.1.1 61 0 rfl
    have b61 : S2 61 0 = S1 61 0 := hf 61 0 (by omega) (by omega) (by omega) (by omega) (by omega) (by omega) (by omega)
    rw [← Option.some.inj hb, u1, hN.2.2.1.2.1]
    show q.1 61 1 - S1 61 0 = q.1 61 1 - q.1 61 0
    rw [a61, b61]
  obtain ⟨c, hc, eu⟩ := tx_bd eu
  obtain ⟨S7, hS7, ev⟩ := tx_bd ev
  obtain ⟨hR, g70, g65, g5, hf, hc7, hp, _, _⟩ := e_start hN2 c S7 hc hS7
  have l61 : S7 61 0 = b.2.1 61 0 := hf 61 0 (by omega) (by omega) (by omega) (by omega) (by omega) (by omega) (by omega)
  have l1 : S7 61 1 = b.2.1 61 0 := hc7.2.2.2.2.1
  rw [wb] at eu
  unfold fL_X7_asking_L21 at eu
  unfold fL_X8_asking_L20 at ev
  have b62 : 0 ≤ (S7 62 1).toInt ∧ (S7 62 1).toInt ≤ 21 := hR.1.1 62 1
  obtain ⟨n, hn⟩ : ∃ n : Nat, (S7 62 1).toInt = n := ⟨(S7 62 1).toInt.toNat, by omega⟩
  refine e_as (S7 := S7) (l1.trans l61.symm) (by rw [l61]; exact hN2.2.2.1.2.1) bb.1 bb.2 2000 2000 n (Tn 0 0) c.1 S7 b.2.2 w.2.1 hR (fun n => absurd g5 n) g70 ?_ hn (by omega) gr_r rfl u v eu ev
  rw [hR.2.2.2.1.1, hc7.2.2.2.2.2.1]; exact hN2.2.2.1.1
-- 62.zaz.64.z56
/-! who is awaited has spent nothing -/
def spJ (j0 : Nat) (S : Tr) : Prop := S 59 j0 = 0 → S 60 j0 = 0
theorem sp_s {j0 : Nat} {S : Tr} {a i : Nat} {v : Int32} (h : spJ j0 S) (hn : ¬ (a = 59 ∨ a = 60)) : spJ j0 (st S a i v) := by
  unfold spJ
  rw [st_oth (fun e => hn (Or.inl e.symm)), st_oth (fun e => hn (Or.inr e.symm))]; exact h
theorem sp_9 {j0 : Nat} {S : Tr} {i : Nat} {v : Int32} (h : spJ j0 S) (hv : ¬ v = 0) : spJ j0 (st S 59 i v) := fun e => by
  by_cases g : j0 = i
  · rw [g, st_same] at e; exact absurd e hv
  · rw [st_ne g] at e
    rw [st_oth (by omega)]; exact h e
set_option maxHeartbeats 1000000 in
set_option maxRecDepth 100000 in
theorem sjJ_X8_takes_J96 {j0 : Nat} (x1 : Int32) (x2 : Int32) (x3 : Int32) (S : Tr) (hS : spJ j0 S)   : Ep (fJ_X8_takes_J96 x1 x2 x3 S) (fun q => spJ j0 q) := by
  unfold fJ_X8_takes_J96
  refine Ep_ck ?_
  refine Ep_lt (fun S_11 eS_11 => ?_)
  have hS_11 : spJ j0 S_11 := by rw [eS_11]; exact sp_s hS (by omega)
  refine Ep_lt (fun S_12 eS_12 => ?_)
  have hS_12 : spJ j0 S_12 := by rw [eS_12]; exact sp_s hS_11 (by omega)
  exact Ep_some hS_12
set_option maxHeartbeats 1000000 in
set_option maxRecDepth 100000 in
theorem sjB_X8_takes_L36 {j0 : Nat} (x1 : Int32) (x2 : Int32) (x3 : Int32) (x4 : Int32)    (N : Nat) : ∀ (x5 : Int32) (S : Tr), spJ j0 S → Ep (lpF (fun _ _ => none) (fB_X8_takes_L36 x1 x2 x3 x4) N x5 S) (fun q => spJ j0 q) := by
  induction N with
  | zero => intro x5 S _; exact Ep_none
  | succ N ih =>
    intro x5 S hS
    show Ep (fB_X8_takes_L36 x1 x2 x3 x4 (lpF (fun _ _ => none) (fB_X8_takes_L36 x1 x2 x3 x4) N) x5 S) _
    have hk36 := ih
    clear ih
    generalize lpF (fun _ _ => none) (fB_X8_takes_L36 x1 x2 x3 x4) N = k36 at hk36 ⊢
    unfold fB_X8_takes_L36
    refine Ep_ck ?_
    refine Ep_ite (fun _ => ?_) (fun _ => ?_)
    · exact sjJ_X8_takes_J96 x1 x2 x3 S hS
    · refine Ep_ck ?_
      refine Ep_ck ?_
      refine Ep_lt (fun S_15 eS_15 => ?_)
      have hS_15 : spJ j0 S_15 := by rw [eS_15]; exact sp_s hS (by omega)
      refine Ep_lt (fun y16 ey16 => ?_)
      exact hk36 y16 S_15 hS_15
set_option maxHeartbeats 1000000 in
set_option maxRecDepth 100000 in
theorem sjL_X8_takes_L36 {j0 : Nat} (x1 : Int32) (x2 : Int32) (x3 : Int32) (x4 : Int32)    (x5 : Int32) (S : Tr) (hS : spJ j0 S) : Ep (fL_X8_takes_L36 x1 x2 x3 x4 x5 S) (fun q => spJ j0 q) := by
  unfold fL_X8_takes_L36
  exact sjB_X8_takes_L36 x1 x2 x3 x4 2000 x5 S hS
set_option maxHeartbeats 1000000 in
set_option maxRecDepth 100000 in
theorem sj_X8_takes {j0 : Nat} (S : Tr) (x1 : Int32) (x2 : Int32) (x3 : Int32) (hS : spJ j0 S)   : Ep (f_X8_takes S x1 x2 x3) (fun q => spJ j0 q) := by
  unfold f_X8_takes
  refine Ep_ck ?_
  refine Ep_lt (fun y2 ey2 => ?_)
  refine Ep_any (fun r3 => ?_)
  refine Ep_ck ?_
  refine Ep_lt (fun S_7 eS_7 => ?_)
  have hS_7 : spJ j0 S_7 := by rw [eS_7]; exact sp_s hS (by omega)
  exact sjL_X8_takes_L36 x1 x2 x3 y2 r3 S_7 hS_7
set_option maxHeartbeats 1000000 in
set_option maxRecDepth 100000 in
theorem sjJ_X8_ins_J185 {j0 : Nat} (k146 : Int32 → Tr → Option (Tr)) (x1 : Int32) (x2 : Int32) (s0 : Int32) (s1 : Int32) (s2 : Int32) (S : Tr) (hS : spJ j0 S) (hk146 : ∀ (x2 : Int32) (S : Tr), spJ j0 S → Ep (k146 x2 S) (fun q => spJ j0 q))  : Ep (fJ_X8_ins_J185 k146 x1 x2 s0 s1 s2 S) (fun q => spJ j0 q) := by
  unfold fJ_X8_ins_J185
  refine Ep_ck ?_
  refine Ep_lt (fun S_7 eS_7 => ?_)
  have hS_7 : spJ j0 S_7 := by rw [eS_7]; exact sp_s hS (by omega)
  refine Ep_lt (fun y8 ey8 => ?_)
  exact hk146 y8 S_7 hS_7
set_option maxHeartbeats 1000000 in
set_option maxRecDepth 100000 in
theorem sjB_X8_ins_L146 {j0 : Nat} (x1 : Int32)    (N : Nat) : ∀ (x2 : Int32) (S : Tr), spJ j0 S → Ep (lpF (fun _ _ => none) (fB_X8_ins_L146 x1) N x2 S) (fun q => spJ j0 q) := by
  induction N with
  | zero => intro x2 S _; exact Ep_none
  | succ N ih =>
    intro x2 S hS
    show Ep (fB_X8_ins_L146 x1 (lpF (fun _ _ => none) (fB_X8_ins_L146 x1) N) x2 S) _
    have hk146 := ih
    clear ih
    generalize lpF (fun _ _ => none) (fB_X8_ins_L146 x1) N = k146 at hk146 ⊢
    unfold fB_X8_ins_L146
    refine Ep_ite (fun _ => ?_) (fun _ => ?_)
    · exact Ep_some hS
    · refine Ep_ck ?_
      refine Ep_ck ?_
      refine Ep_ite (fun _ => ?_) (fun _ => ?_)
      · refine Ep_ck ?_
        exact sjJ_X8_ins_J185 k146 x1 x2 (S 56 (((5 : Int32) * x1) + x2).toNatClampNeg) (S 63 x1.toNatClampNeg) x1 S hS hk146
      · exact sjJ_X8_ins_J185 k146 x1 x2 0 (S 63 x1.toNatClampNeg) x1 S hS hk146
set_option maxHeartbeats 1000000 in
set_option maxRecDepth 100000 in
theorem sjL_X8_ins_L146 {j0 : Nat} (x1 : Int32)    (x2 : Int32) (S : Tr) (hS : spJ j0 S) : Ep (fL_X8_ins_L146 x1 x2 S) (fun q => spJ j0 q) := by
  unfold fL_X8_ins_L146
  exact sjB_X8_ins_L146 x1 2000 x2 S hS
set_option maxHeartbeats 1000000 in
set_option maxRecDepth 100000 in
theorem sj_X8_lays {j0 : Nat} (S : Tr) (x1 : Int32) (x2 : Int32) (x3 : Int32) (hS : spJ j0 S)   : Ep (f_X8_lays S x1 x2 x3) (fun q => spJ j0 q) := by
  unfold f_X8_lays
  refine Ep_ck ?_
  refine Ep_ck ?_
  refine Ep_lt (fun S_3 eS_3 => ?_)
  have hS_3 : spJ j0 S_3 := by rw [eS_3]; exact sp_s hS (by omega)
  refine Ep_lt (fun S_4 eS_4 => ?_)
  have hS_4 : spJ j0 S_4 := by rw [eS_4]; exact sp_s hS_3 (by omega)
  refine Ep_ck ?_
  refine Ep_lt (fun S_6 eS_6 => ?_)
  have hS_6 : spJ j0 S_6 := by rw [eS_6]; exact sp_s hS_4 (by omega)
  refine Ep_lt (fun S_7 eS_7 => ?_)
  have hS_7 : spJ j0 S_7 := by rw [eS_7]; exact sp_s hS_6 (by omega)
  exact Ep_some hS_7
set_option maxHeartbeats 1000000 in
set_option maxRecDepth 100000 in
theorem sjB_X8_ins_L61 {j0 : Nat} (k2 : Int32 → Tr → Option (Tr)) (x1 : Int32) (x2 : Int32)  (hk2 : ∀ (x2 : Int32) (S : Tr), spJ j0 S → Ep (k2 x2 S) (fun q => spJ j0 q))  (N : Nat) : ∀ (x3 : Int32) (S : Tr), spJ j0 S → Ep (lpF (fun _ _ => none) (fB_X8_ins_L61 k2 x1 x2) N x3 S) (fun q => spJ j0 q) := by
  induction N with
  | zero => intro x3 S _; exact Ep_none
  | succ N ih =>
    intro x3 S hS
    show Ep (fB_X8_ins_L61 k2 x1 x2 (lpF (fun _ _ => none) (fB_X8_ins_L61 k2 x1 x2) N) x3 S) _
    have hk61 := ih
    clear ih
    generalize lpF (fun _ _ => none) (fB_X8_ins_L61 k2 x1 x2) N = k61 at hk61 ⊢
    unfold fB_X8_ins_L61
    refine Ep_ite (fun _ => ?_) (fun _ => ?_)
    · refine Ep_lt (fun y17 ey17 => ?_)
      exact hk2 y17 S hS
    · refine Ep_ck ?_
      refine Ep_ite (fun _ => ?_) (fun _ => ?_)
      · refine Ep_ck ?_
        refine Ep_ite (fun _ => ?_) (fun _ => ?_)
        · refine Ep_any (fun r23 => ?_)
          refine Ep_ite (fun _ => ?_) (fun _ => ?_)
          · refine Ep_bd (sj_X8_lays S x1 r23 x3 hS) (fun S_27 hS_27 => ?_)
            refine Ep_lt (fun y30 ey30 => ?_)
            exact hk61 y30 S_27 hS_27
          · refine Ep_lt (fun S_31 eS_31 => ?_)
            have hS_31 : spJ j0 S_31 := by rw [eS_31]; exact sp_s hS (by omega)
            refine Ep_lt (fun y32 ey32 => ?_)
            exact hk61 y32 S_31 hS_31
        · refine Ep_lt (fun y33 ey33 => ?_)
          exact hk61 y33 S hS
      · refine Ep_lt (fun y20 ey20 => ?_)
        exact hk61 y20 S hS
set_option maxHeartbeats 1000000 in
set_option maxRecDepth 100000 in
theorem sjL_X8_ins_L61 {j0 : Nat} (k2 : Int32 → Tr → Option (Tr)) (x1 : Int32) (x2 : Int32)  (hk2 : ∀ (x2 : Int32) (S : Tr), spJ j0 S → Ep (k2 x2 S) (fun q => spJ j0 q))  (x3 : Int32) (S : Tr) (hS : spJ j0 S) : Ep (fL_X8_ins_L61 k2 x1 x2 x3 S) (fun q => spJ j0 q) := by
  unfold fL_X8_ins_L61
  exact sjB_X8_ins_L61 k2 x1 x2 hk2 2000 x3 S hS
set_option maxHeartbeats 1000000 in
set_option maxRecDepth 100000 in
theorem sjB_X8_ins_L2 {j0 : Nat} (x1 : Int32)    (N : Nat) : ∀ (x2 : Int32) (S : Tr), spJ j0 S → Ep (lpF (fun _ _ => none) (fB_X8_ins_L2 x1) N x2 S) (fun q => spJ j0 q) := by
  induction N with
  | zero => intro x2 S _; exact Ep_none
  | succ N ih =>
    intro x2 S hS
    show Ep (fB_X8_ins_L2 x1 (lpF (fun _ _ => none) (fB_X8_ins_L2 x1) N) x2 S) _
    have hk2 := ih
    clear ih
    generalize lpF (fun _ _ => none) (fB_X8_ins_L2 x1) N = k2 at hk2 ⊢
    unfold fB_X8_ins_L2
    refine Ep_ite (fun _ => ?_) (fun _ => ?_)
    · exact sjL_X8_ins_L146 x1 0 S hS
    · refine Ep_ck ?_
      refine Ep_ck ?_
      refine Ep_ite (fun _ => ?_) (fun _ => ?_)
      · refine Ep_ite (fun _ => ?_) (fun _ => ?_)
        · refine Ep_lt (fun S_15 eS_15 => ?_)
          have hS_15 : spJ j0 S_15 := by rw [eS_15]; exact sp_9 hS (by decide)
          exact sjL_X8_ins_L61 k2 x1 x2 hk2 0 S_15 hS_15
        · refine Ep_lt (fun y34 ey34 => ?_)
          exact hk2 y34 S hS
      · refine Ep_lt (fun y13 ey13 => ?_)
        exact hk2 y13 S hS
set_option maxHeartbeats 1000000 in
set_option maxRecDepth 100000 in
theorem sjL_X8_ins_L2 {j0 : Nat} (x1 : Int32)    (x2 : Int32) (S : Tr) (hS : spJ j0 S) : Ep (fL_X8_ins_L2 x1 x2 S) (fun q => spJ j0 q) := by
  unfold fL_X8_ins_L2
  exact sjB_X8_ins_L2 x1 2000 x2 S hS
set_option maxHeartbeats 1000000 in
set_option maxRecDepth 100000 in
theorem sj_X8_ins {j0 : Nat} (S : Tr) (x1 : Int32) (hS : spJ j0 S)   : Ep (f_X8_ins S x1) (fun q => spJ j0 q) := by
  unfold f_X8_ins
  exact sjL_X8_ins_L2 x1 0 S hS
set_option maxHeartbeats 1000000 in
set_option maxRecDepth 100000 in
theorem sjJ_X8_lawOf_J39 {j0 : Nat} (x1 : Int32) (S : Tr) (L : Lo) (hS : spJ j0 S)   : Ep (fJ_X8_lawOf_J39 x1 S L) (fun q => spJ j0 q.2.1) := by
  unfold fJ_X8_lawOf_J39
  refine Ep_ite (fun _ => ?_) (fun _ => ?_)
  · refine Ep_ck ?_
    refine Ep_ck ?_
    exact Ep_some hS
  · exact Ep_some hS
set_option maxHeartbeats 1000000 in
set_option maxRecDepth 100000 in
theorem sjJ_X8_bounded_J29 {j0 : Nat} (x1 : Int64) (s0 : Int32) (S : Tr) (hS : spJ j0 S)   : Ep (fJ_X8_bounded_J29 x1 s0 S) (fun q => spJ j0 q.2) := by
  unfold fJ_X8_bounded_J29
  refine Ep_ck ?_
  refine Ep_lt (fun S_3 eS_3 => ?_)
  have hS_3 : spJ j0 S_3 := by rw [eS_3]; exact sp_s hS (by omega)
  refine Ep_ite (fun _ => ?_) (fun _ => ?_)
  · exact Ep_some hS_3
  · exact Ep_some hS_3
set_option maxHeartbeats 1000000 in
set_option maxRecDepth 100000 in
theorem sjJ_X8_bounded_J24 {j0 : Nat} (x1 : Int64) (S : Tr) (hS : spJ j0 S)   : Ep (fJ_X8_bounded_J24 x1 S) (fun q => spJ j0 q.2) := by
  unfold fJ_X8_bounded_J24
  exact sjJ_X8_bounded_J29 x1 1 S hS
set_option maxHeartbeats 1000000 in
set_option maxRecDepth 100000 in
theorem sj_X8_bounded {j0 : Nat} (S : Tr) (x1 : Int64) (hS : spJ j0 S)   : Ep (f_X8_bounded S x1) (fun q => spJ j0 q.2) := by
  unfold f_X8_bounded
  refine Ep_ite (fun _ => ?_) (fun _ => ?_)
  · refine Ep_ite (fun _ => ?_) (fun _ => ?_)
    · exact sjJ_X8_bounded_J24 x1 S hS
    · refine Ep_ite (fun _ => ?_) (fun _ => ?_)
      · exact sjJ_X8_bounded_J29 x1 0 S hS
      · exact sjJ_X8_bounded_J24 x1 S hS
  · exact sjJ_X8_bounded_J24 x1 S hS
set_option maxHeartbeats 1000000 in
set_option maxRecDepth 100000 in
theorem sjJ_X8_times_J69 {j0 : Nat} (x1 : Int64) (x3 : Int64) (s0 : Int32) (S : Tr) (hS : spJ j0 S)   : Ep (fJ_X8_times_J69 x1 x3 s0 S) (fun q => spJ j0 q.2) := by
  unfold fJ_X8_times_J69
  refine Ep_ck ?_
  refine Ep_lt (fun S_4 eS_4 => ?_)
  have hS_4 : spJ j0 S_4 := by rw [eS_4]; exact sp_s hS (by omega)
  refine Ep_ite (fun _ => ?_) (fun _ => ?_)
  · exact Ep_some hS_4
  · exact Ep_some hS_4
set_option maxHeartbeats 1000000 in
set_option maxRecDepth 100000 in
theorem sjJ_X8_times_J64 {j0 : Nat} (x1 : Int64) (x3 : Int64) (S : Tr) (hS : spJ j0 S)   : Ep (fJ_X8_times_J64 x1 x3 S) (fun q => spJ j0 q.2) := by
  unfold fJ_X8_times_J64
  exact sjJ_X8_times_J69 x1 x3 1 S hS
set_option maxHeartbeats 1000000 in
set_option maxRecDepth 100000 in
theorem sjJ_X8_times_J49 {j0 : Nat} (x1 : Int64) (x3 : Int64) (s0 : Int32) (S : Tr) (hS : spJ j0 S)   : Ep (fJ_X8_times_J49 x1 x3 s0 S) (fun q => spJ j0 q.2) := by
  unfold fJ_X8_times_J49
  refine Ep_ite (fun _ => ?_) (fun _ => ?_)
  · refine Ep_ite (fun _ => ?_) (fun _ => ?_)
    · exact sjJ_X8_times_J69 x1 x3 0 S hS
    · exact sjJ_X8_times_J64 x1 x3 S hS
  · exact sjJ_X8_times_J64 x1 x3 S hS
set_option maxHeartbeats 1000000 in
set_option maxRecDepth 100000 in
theorem sjJ_X8_times_J48 {j0 : Nat} (x1 : Int64) (x3 : Int64) (S : Tr) (hS : spJ j0 S)   : Ep (fJ_X8_times_J48 x1 x3 S) (fun q => spJ j0 q.2) := by
  unfold fJ_X8_times_J48
  exact sjJ_X8_times_J49 x1 x3 0 S hS
set_option maxHeartbeats 1000000 in
set_option maxRecDepth 100000 in
theorem sjJ_X8_times_J39 {j0 : Nat} (x1 : Int64) (x3 : Int64) (s0 : Int64) (s1 : Int64) (s2 : Int64) (S : Tr) (hS : spJ j0 S)   : Ep (fJ_X8_times_J39 x1 x3 s0 s1 s2 S) (fun q => spJ j0 q.2) := by
  unfold fJ_X8_times_J39
  refine Ep_ck ?_
  refine Ep_ite (fun _ => ?_) (fun _ => ?_)
  · exact sjJ_X8_times_J48 x1 x3 S hS
  · exact sjJ_X8_times_J49 x1 x3 1 S hS
set_option maxHeartbeats 1000000 in
set_option maxRecDepth 100000 in
theorem sjJ_X8_times_J24 {j0 : Nat} (x1 : Int64) (x3 : Int64) (s0 : Int64) (S : Tr) (hS : spJ j0 S)   : Ep (fJ_X8_times_J24 x1 x3 s0 S) (fun q => spJ j0 q.2) := by
  unfold fJ_X8_times_J24
  refine Ep_ite (fun _ => ?_) (fun _ => ?_)
  · exact sjJ_X8_times_J39 x1 x3 x1 1000000000000 s0 S hS
  · exact sjJ_X8_times_J39 x1 x3 (-x1) 1000000000000 s0 S hS
set_option maxHeartbeats 1000000 in
set_option maxRecDepth 100000 in
theorem sj_X8_times {j0 : Nat} (S : Tr) (x1 : Int64) (x3 : Int64) (hS : spJ j0 S)   : Ep (f_X8_times S x1 x3) (fun q => spJ j0 q.2) := by
  unfold f_X8_times
  refine Ep_ite (fun _ => ?_) (fun _ => ?_)
  · exact sjJ_X8_times_J48 x1 x3 S hS
  · refine Ep_ite (fun _ => ?_) (fun _ => ?_)
    · exact sjJ_X8_times_J48 x1 x3 S hS
    · refine Ep_ite (fun _ => ?_) (fun _ => ?_)
      · exact sjJ_X8_times_J24 x1 x3 x3 S hS
      · exact sjJ_X8_times_J24 x1 x3 (-x3) S hS
set_option maxHeartbeats 1000000 in
set_option maxRecDepth 100000 in
theorem sjJ_X8_valueOf_J240 {j0 : Nat} (L : Lo) (x2 : Int64) (x4 : Int64) (s0 : Int32) (S : Tr) (hS : spJ j0 S)   : Ep (fJ_X8_valueOf_J240 L x2 x4 s0 S) (fun q => spJ j0 q.2) := by
  unfold fJ_X8_valueOf_J240
  refine Ep_ck ?_
  refine Ep_lt (fun S_34 eS_34 => ?_)
  have hS_34 : spJ j0 S_34 := by rw [eS_34]; exact sp_s hS (by omega)
  refine Ep_ite (fun _ => ?_) (fun _ => ?_)
  · refine Ep_ck ?_
    exact Ep_some hS_34
  · exact Ep_some hS_34
set_option maxHeartbeats 1000000 in
set_option maxRecDepth 100000 in
theorem sjJ_X8_valueOf_J235 {j0 : Nat} (L : Lo) (x2 : Int64) (x4 : Int64) (S : Tr) (hS : spJ j0 S)   : Ep (fJ_X8_valueOf_J235 L x2 x4 S) (fun q => spJ j0 q.2) := by
  unfold fJ_X8_valueOf_J235
  exact sjJ_X8_valueOf_J240 L x2 x4 1 S hS
set_option maxHeartbeats 1000000 in
set_option maxRecDepth 100000 in
theorem sj_X8_valueOf {j0 : Nat} (S : Tr) (L : Lo) (x1 : Int32) (hS : spJ j0 S)   : Ep (f_X8_valueOf S L x1) (fun q => spJ j0 q.2) := by
  unfold f_X8_valueOf
  refine Ep_ck ?_
  refine Ep_ite (fun _ => ?_) (fun _ => ?_)
  · exact Ep_some hS
  · refine Ep_ite (fun _ => ?_) (fun _ => ?_)
    · refine Ep_ck ?_
      exact Ep_some hS
    · refine Ep_ck ?_
      refine Ep_lt (fun y5 ey5 => ?_)
      refine Ep_ite (fun _ => ?_) (fun _ => ?_)
      · refine Ep_ite (fun _ => ?_) (fun _ => ?_)
        · exact Ep_some hS
        · exact Ep_some hS
      · refine Ep_ck ?_
        refine Ep_lt (fun y8 ey8 => ?_)
        refine Ep_lt (fun y9 ey9 => ?_)
        refine Ep_ite (fun _ => ?_) (fun _ => ?_)
        · refine Ep_ite (fun _ => ?_) (fun _ => ?_)
          · exact Ep_some hS
          · refine Ep_ite (fun _ => ?_) (fun _ => ?_)
            · exact Ep_some hS
            · exact Ep_some hS
        · refine Ep_ite (fun _ => ?_) (fun _ => ?_)
          · refine Ep_ite (fun _ => ?_) (fun _ => ?_)
            · refine Ep_ite (fun _ => ?_) (fun _ => ?_)
              · exact Ep_some hS
              · exact Ep_some hS
            · exact Ep_some hS
          · refine Ep_ite (fun _ => ?_) (fun _ => ?_)
            · refine Ep_bd (sj_X8_bounded S (y5 + y8) hS) (fun q hq => ?_)
              refine Ep_lt (fun r17 er17 => ?_)
              refine Ep_lt (fun S_18 eS_18 => ?_)
              have hS_18 : spJ j0 S_18 := by rw [eS_18]; exact hq
              exact Ep_some hS_18
            · refine Ep_ite (fun _ => ?_) (fun _ => ?_)
              · refine Ep_bd (sj_X8_bounded S (y5 - y8) hS) (fun q hq => ?_)
                refine Ep_lt (fun r22 er22 => ?_)
                refine Ep_lt (fun S_23 eS_23 => ?_)
                have hS_23 : spJ j0 S_23 := by rw [eS_23]; exact hq
                exact Ep_some hS_23
              · refine Ep_ite (fun _ => ?_) (fun _ => ?_)
                · refine Ep_bd (sj_X8_times S y5 y8 hS) (fun q hq => ?_)
                  refine Ep_lt (fun r27 er27 => ?_)
                  refine Ep_lt (fun S_28 eS_28 => ?_)
                  have hS_28 : spJ j0 S_28 := by rw [eS_28]; exact hq
                  exact Ep_some hS_28
                · refine Ep_ite (fun _ => ?_) (fun _ => ?_)
                  · refine Ep_ite (fun _ => ?_) (fun _ => ?_)
                    · refine Ep_ite (fun _ => ?_) (fun _ => ?_)
                      · exact sjJ_X8_valueOf_J235 L y5 y8 S hS
                      · exact sjJ_X8_valueOf_J240 L y5 y8 0 S hS
                    · exact sjJ_X8_valueOf_J235 L y5 y8 S hS
                  · refine Ep_any (fun r38 => ?_)
                    refine Ep_ite (fun _ => ?_) (fun _ => ?_)
                    · exact Ep_some hS
                    · exact Ep_some hS
set_option maxHeartbeats 1000000 in
set_option maxRecDepth 100000 in
theorem sjB_X8_lawOf_L12 {j0 : Nat} (x1 : Int32)    (N : Nat) : ∀ (x2 : Int32) (S : Tr) (L : Lo), spJ j0 S → Ep (lpF (fun _ _ _ => none) (fB_X8_lawOf_L12 x1) N x2 S L) (fun q => spJ j0 q.2.1) := by
  induction N with
  | zero => intro x2 S L _; exact Ep_none
  | succ N ih =>
    intro x2 S L hS
    show Ep (fB_X8_lawOf_L12 x1 (lpF (fun _ _ _ => none) (fB_X8_lawOf_L12 x1) N) x2 S L) _
    have hk12 := ih
    clear ih
    generalize lpF (fun _ _ _ => none) (fB_X8_lawOf_L12 x1) N = k12 at hk12 ⊢
    unfold fB_X8_lawOf_L12
    refine Ep_ck ?_
    refine Ep_ite (fun _ => ?_) (fun _ => ?_)
    · exact sjJ_X8_lawOf_J39 x1 S L hS
    · refine Ep_bd (sj_X8_valueOf S L x2 hS) (fun q hq => ?_)
      refine Ep_lt (fun r9 er9 => ?_)
      refine Ep_lt (fun S_10 eS_10 => ?_)
      have hS_10 : spJ j0 S_10 := by rw [eS_10]; exact hq
      refine Ep_ck ?_
      refine Ep_lt (fun L_14 eL_14 => ?_)
      refine Ep_lt (fun y15 ey15 => ?_)
      exact hk12 y15 S_10 L_14 hS_10
set_option maxHeartbeats 1000000 in
set_option maxRecDepth 100000 in
theorem sjL_X8_lawOf_L12 {j0 : Nat} (x1 : Int32)    (x2 : Int32) (S : Tr) (L : Lo) (hS : spJ j0 S) : Ep (fL_X8_lawOf_L12 x1 x2 S L) (fun q => spJ j0 q.2.1) := by
  unfold fL_X8_lawOf_L12
  exact sjB_X8_lawOf_L12 x1 2000 x2 S L hS
set_option maxHeartbeats 1000000 in
set_option maxRecDepth 100000 in
theorem sj_X8_lawOf {j0 : Nat} (S : Tr) (L : Lo) (x1 : Int32) (hS : spJ j0 S)   : Ep (f_X8_lawOf S L x1) (fun q => spJ j0 q.2.1) := by
  unfold f_X8_lawOf
  refine Ep_lt (fun S_1 eS_1 => ?_)
  have hS_1 : spJ j0 S_1 := by rw [eS_1]; exact sp_s hS (by omega)
  refine Ep_ck ?_
  refine Ep_lt (fun y3 ey3 => ?_)
  exact sjL_X8_lawOf_L12 x1 y3 S_1 L hS_1
set_option maxHeartbeats 1000000 in
set_option maxRecDepth 100000 in
theorem sj_X8_boundLaw {j0 : Nat} (S : Tr) (L : Lo) (x1 : Int32) (x2 : Int32) (x3 : Int32) (hS : spJ j0 S)   : Ep (f_X8_boundLaw S L x1 x2 x3) (fun q => spJ j0 q.2.1) := by
  unfold f_X8_boundLaw
  refine Ep_ck ?_
  refine Ep_ite (fun _ => ?_) (fun _ => ?_)
  · exact Ep_some hS
  · refine Ep_bd (sj_X8_lawOf S L x1 hS) (fun q hq => ?_)
    refine Ep_lt (fun r3 er3 => ?_)
    refine Ep_lt (fun S_4 eS_4 => ?_)
    have hS_4 : spJ j0 S_4 := by rw [eS_4]; exact hq
    refine Ep_lt (fun L_5 eL_5 => ?_)
    refine Ep_ite (fun _ => ?_) (fun _ => ?_)
    · refine Ep_ite (fun _ => ?_) (fun _ => ?_)
      · refine Ep_ite (fun _ => ?_) (fun _ => ?_)
        · exact Ep_some hS_4
        · exact Ep_some hS_4
      · exact Ep_some hS_4
    · exact Ep_some hS_4
set_option maxHeartbeats 1000000 in
set_option maxRecDepth 100000 in
theorem sjB_X8_onTheWay_L90 {j0 : Nat} (x1 : Int32)    (N : Nat) : ∀ (x2 : Int32) (S : Tr) (L : Lo), spJ j0 S → Ep (lpF (fun _ _ _ => none) (fB_X8_onTheWay_L90 x1) N x2 S L) (fun q => spJ j0 q.1) := by
  induction N with
  | zero => intro x2 S L _; exact Ep_none
  | succ N ih =>
    intro x2 S L hS
    show Ep (fB_X8_onTheWay_L90 x1 (lpF (fun _ _ _ => none) (fB_X8_onTheWay_L90 x1) N) x2 S L) _
    have hk90 := ih
    clear ih
    generalize lpF (fun _ _ _ => none) (fB_X8_onTheWay_L90 x1) N = k90 at hk90 ⊢
    unfold fB_X8_onTheWay_L90
    refine Ep_ite (fun _ => ?_) (fun _ => ?_)
    · exact Ep_some hS
    · refine Ep_ite (fun _ => ?_) (fun _ => ?_)
      · refine Ep_ck ?_
        refine Ep_ite (fun _ => ?_) (fun _ => ?_)
        · refine Ep_ck ?_
          refine Ep_ite (fun _ => ?_) (fun _ => ?_)
          · refine Ep_ck ?_
            refine Ep_any (fun L_10 => ?_)
            refine Ep_bd (sj_X8_boundLaw S L_10 (2 : Int32) (10 : Int32) (100 : Int32) hS) (fun q hq => ?_)
            refine Ep_lt (fun r13 er13 => ?_)
            refine Ep_lt (fun S_14 eS_14 => ?_)
            have hS_14 : spJ j0 S_14 := by rw [eS_14]; exact hq
            refine Ep_lt (fun L_15 eL_15 => ?_)
            refine Ep_any (fun q => ?_)
            refine Ep_lt (fun r18 er18 => ?_)
            refine Ep_lt (fun L_19 eL_19 => ?_)
            refine Ep_ite (fun _ => ?_) (fun _ => ?_)
            · refine Ep_lt (fun y23 ey23 => ?_)
              exact hk90 y23 S_14 L_19 hS_14
            · refine Ep_bd (sj_X8_takes S_14 x1 x2 (4 : Int32) hS_14) (fun S_24 hS_24 => ?_)
              refine Ep_lt (fun y27 ey27 => ?_)
              exact hk90 y27 S_24 L_19 hS_24
          · refine Ep_lt (fun y28 ey28 => ?_)
            exact hk90 y28 S L hS
        · refine Ep_lt (fun y6 ey6 => ?_)
          exact hk90 y6 S L hS
      · exact Ep_some hS
set_option maxHeartbeats 1000000 in
set_option maxRecDepth 100000 in
theorem sjL_X8_onTheWay_L90 {j0 : Nat} (x1 : Int32)    (x2 : Int32) (S : Tr) (L : Lo) (hS : spJ j0 S) : Ep (fL_X8_onTheWay_L90 x1 x2 S L) (fun q => spJ j0 q.1) := by
  unfold fL_X8_onTheWay_L90
  exact sjB_X8_onTheWay_L90 x1 2000 x2 S L hS
set_option maxHeartbeats 1000000 in
set_option maxRecDepth 100000 in
theorem sjJ_X8_fallOf_J58 {j0 : Nat} (s0 : Int32) (s1 : Int32) (S : Tr) (L : Lo) (hS : spJ j0 S)   : Ep (fJ_X8_fallOf_J58 s0 s1 S L) (fun q => spJ j0 q.2.1) := by
  unfold fJ_X8_fallOf_J58
  refine Ep_bd (sj_X8_boundLaw S L s1 s0 (100 : Int32) hS) (fun q hq => ?_)
  refine Ep_lt (fun r11 er11 => ?_)
  refine Ep_lt (fun S_12 eS_12 => ?_)
  have hS_12 : spJ j0 S_12 := by rw [eS_12]; exact hq
  refine Ep_lt (fun L_13 eL_13 => ?_)
  exact Ep_some hS_12
set_option maxHeartbeats 1000000 in
set_option maxRecDepth 100000 in
theorem sjJ_X8_fallOf_J17 {j0 : Nat} (x1 : Int32) (x2 : Int32) (s0 : Int32) (S : Tr) (L : Lo) (hS : spJ j0 S)   : Ep (fJ_X8_fallOf_J17 x1 x2 s0 S L) (fun q => spJ j0 q.2.1) := by
  unfold fJ_X8_fallOf_J17
  refine Ep_any (fun r2 => ?_)
  refine Ep_ck ?_
  refine Ep_lt (fun y6 ey6 => ?_)
  refine Ep_any (fun L_7 => ?_)
  refine Ep_ite (fun _ => ?_) (fun _ => ?_)
  · exact sjJ_X8_fallOf_J58 y6 1 S L_7 hS
  · exact sjJ_X8_fallOf_J58 0 1 S L_7 hS
set_option maxHeartbeats 1000000 in
set_option maxRecDepth 100000 in
theorem sj_X8_fallOf {j0 : Nat} (S : Tr) (L : Lo) (x1 : Int32) (x2 : Int32) (hS : spJ j0 S)   : Ep (f_X8_fallOf S L x1 x2) (fun q => spJ j0 q.2.1) := by
  unfold f_X8_fallOf
  refine Ep_ite (fun _ => ?_) (fun _ => ?_)
  · exact sjJ_X8_fallOf_J17 x1 x2 (S 23 1) S L hS
  · exact sjJ_X8_fallOf_J17 x1 x2 0 S L hS
set_option maxHeartbeats 1000000 in
set_option maxRecDepth 100000 in
theorem sjB_X8_onTheWay_L2 {j0 : Nat} (x1 : Int32)    (N : Nat) : ∀ (x2 : Int32) (S : Tr) (L : Lo), spJ j0 S → Ep (lpF (fun _ _ _ => none) (fB_X8_onTheWay_L2 x1) N x2 S L) (fun q => spJ j0 q.1) := by
  induction N with
  | zero => intro x2 S L _; exact Ep_none
  | succ N ih =>
    intro x2 S L hS
    show Ep (fB_X8_onTheWay_L2 x1 (lpF (fun _ _ _ => none) (fB_X8_onTheWay_L2 x1) N) x2 S L) _
    have hk2 := ih
    clear ih
    generalize lpF (fun _ _ _ => none) (fB_X8_onTheWay_L2 x1) N = k2 at hk2 ⊢
    unfold fB_X8_onTheWay_L2
    refine Ep_ite (fun _ => ?_) (fun _ => ?_)
    · exact sjL_X8_onTheWay_L90 x1 0 S L hS
    · refine Ep_ite (fun _ => ?_) (fun _ => ?_)
      · refine Ep_ck ?_
        refine Ep_ite (fun _ => ?_) (fun _ => ?_)
        · refine Ep_lt (fun y32 ey32 => ?_)
          exact hk2 y32 S L hS
        · refine Ep_ck ?_
          refine Ep_ite (fun _ => ?_) (fun _ => ?_)
          · refine Ep_lt (fun y53 ey53 => ?_)
            exact hk2 y53 S L hS
          · refine Ep_any (fun r35 => ?_)
            refine Ep_bd (sj_X8_fallOf S L x1 r35 hS) (fun q hq => ?_)
            refine Ep_lt (fun r38 er38 => ?_)
            refine Ep_lt (fun S_39 eS_39 => ?_)
            have hS_39 : spJ j0 S_39 := by rw [eS_39]; exact hq
            refine Ep_lt (fun L_40 eL_40 => ?_)
            refine Ep_any (fun q => ?_)
            refine Ep_lt (fun r43 er43 => ?_)
            refine Ep_lt (fun L_44 eL_44 => ?_)
            refine Ep_ite (fun _ => ?_) (fun _ => ?_)
            · refine Ep_lt (fun y48 ey48 => ?_)
              exact hk2 y48 S_39 L_44 hS_39
            · refine Ep_bd (sj_X8_takes S_39 x1 r35 (3 : Int32) hS_39) (fun S_49 hS_49 => ?_)
              refine Ep_lt (fun y52 ey52 => ?_)
              exact hk2 y52 S_49 L_44 hS_49
      · exact sjL_X8_onTheWay_L90 x1 0 S L hS
set_option maxHeartbeats 1000000 in
set_option maxRecDepth 100000 in
theorem sjL_X8_onTheWay_L2 {j0 : Nat} (x1 : Int32)    (x2 : Int32) (S : Tr) (L : Lo) (hS : spJ j0 S) : Ep (fL_X8_onTheWay_L2 x1 x2 S L) (fun q => spJ j0 q.1) := by
  unfold fL_X8_onTheWay_L2
  exact sjB_X8_onTheWay_L2 x1 2000 x2 S L hS
set_option maxHeartbeats 1000000 in
set_option maxRecDepth 100000 in
theorem sj_X8_onTheWay {j0 : Nat} (S : Tr) (L : Lo) (x1 : Int32) (hS : spJ j0 S)   : Ep (f_X8_onTheWay S L x1) (fun q => spJ j0 q.1) := by
  unfold f_X8_onTheWay
  exact sjL_X8_onTheWay_L2 x1 0 S L hS
set_option maxHeartbeats 1000000 in
set_option maxRecDepth 100000 in
theorem sjB_X8_outs_L261 {j0 : Nat} (L : Lo) (x1 : Int32)    (N : Nat) : ∀ (x3 : Int32) (S : Tr), spJ j0 S → Ep (lpF (fun _ _ => none) (fB_X8_outs_L261 L x1) N x3 S) (fun q => spJ j0 q.1) := by
  induction N with
  | zero => intro x3 S _; exact Ep_none
  | succ N ih =>
    intro x3 S hS
    show Ep (fB_X8_outs_L261 L x1 (lpF (fun _ _ => none) (fB_X8_outs_L261 L x1) N) x3 S) _
    have hk261 := ih
    clear ih
    generalize lpF (fun _ _ => none) (fB_X8_outs_L261 L x1) N = k261 at hk261 ⊢
    unfold fB_X8_outs_L261
    refine Ep_ite (fun _ => ?_) (fun _ => ?_)
    · exact Ep_some hS
    · refine Ep_ck ?_
      refine Ep_ite (fun _ => ?_) (fun _ => ?_)
      · refine Ep_lt (fun S_10 eS_10 => ?_)
        have hS_10 : spJ j0 S_10 := by rw [eS_10]; exact sp_9 hS (by decide)
        refine Ep_lt (fun y11 ey11 => ?_)
        exact hk261 y11 S_10 hS_10
      · refine Ep_lt (fun y9 ey9 => ?_)
        exact hk261 y9 S hS
set_option maxHeartbeats 1000000 in
set_option maxRecDepth 100000 in
theorem sjL_X8_outs_L261 {j0 : Nat} (L : Lo) (x1 : Int32)    (x3 : Int32) (S : Tr) (hS : spJ j0 S) : Ep (fL_X8_outs_L261 L x1 x3 S) (fun q => spJ j0 q.1) := by
  unfold fL_X8_outs_L261
  exact sjB_X8_outs_L261 L x1 2000 x3 S hS
set_option maxHeartbeats 1000000 in
set_option maxRecDepth 100000 in
theorem sjB_X8_outs_L223 {j0 : Nat} (L : Lo) (x1 : Int32)    (N : Nat) : ∀ (x3 : Int32) (S : Tr), spJ j0 S → Ep (lpF (fun _ _ => none) (fB_X8_outs_L223 L x1) N x3 S) (fun q => spJ j0 q.1) := by
  induction N with
  | zero => intro x3 S _; exact Ep_none
  | succ N ih =>
    intro x3 S hS
    show Ep (fB_X8_outs_L223 L x1 (lpF (fun _ _ => none) (fB_X8_outs_L223 L x1) N) x3 S) _
    have hk223 := ih
    clear ih
    generalize lpF (fun _ _ => none) (fB_X8_outs_L223 L x1) N = k223 at hk223 ⊢
    unfold fB_X8_outs_L223
    refine Ep_ite (fun _ => ?_) (fun _ => ?_)
    · exact sjL_X8_outs_L261 L x1 0 S hS
    · refine Ep_ck ?_
      refine Ep_ite (fun _ => ?_) (fun _ => ?_)
      · refine Ep_bd (sj_X8_takes S x1 x3 (5 : Int32) hS) (fun S_15 hS_15 => ?_)
        refine Ep_lt (fun y18 ey18 => ?_)
        exact hk223 y18 S_15 hS_15
      · refine Ep_lt (fun y14 ey14 => ?_)
        exact hk223 y14 S hS
set_option maxHeartbeats 1000000 in
set_option maxRecDepth 100000 in
theorem sjL_X8_outs_L223 {j0 : Nat} (L : Lo) (x1 : Int32)    (x3 : Int32) (S : Tr) (hS : spJ j0 S) : Ep (fL_X8_outs_L223 L x1 x3 S) (fun q => spJ j0 q.1) := by
  unfold fL_X8_outs_L223
  exact sjB_X8_outs_L223 L x1 2000 x3 S hS
set_option maxHeartbeats 1000000 in
set_option maxRecDepth 100000 in
theorem f9J_X8_takes_J96 {S0 : Tr} (x1 : Int32) (x2 : Int32) (x3 : Int32) (S : Tr) (hS : S 59 = S0 59)   : Ep (fJ_X8_takes_J96 x1 x2 x3 S) (fun q => q 59 = S0 59) := by
  unfold fJ_X8_takes_J96
  refine Ep_ck ?_
  refine Ep_lt (fun S_11 eS_11 => ?_)
  have hS_11 : S_11 59 = S0 59 := by rw [eS_11]; exact by funext j; rw [st_oth (by omega), hS]
  refine Ep_lt (fun S_12 eS_12 => ?_)
  have hS_12 : S_12 59 = S0 59 := by rw [eS_12]; exact by funext j; rw [st_oth (by omega), hS_11]
  exact Ep_some hS_12
set_option maxHeartbeats 1000000 in
set_option maxRecDepth 100000 in
theorem f9B_X8_takes_L36 {S0 : Tr} (x1 : Int32) (x2 : Int32) (x3 : Int32) (x4 : Int32)    (N : Nat) : ∀ (x5 : Int32) (S : Tr), S 59 = S0 59 → Ep (lpF (fun _ _ => none) (fB_X8_takes_L36 x1 x2 x3 x4) N x5 S) (fun q => q 59 = S0 59) := by
  induction N with
  | zero => intro x5 S _; exact Ep_none
  | succ N ih =>
    intro x5 S hS
    show Ep (fB_X8_takes_L36 x1 x2 x3 x4 (lpF (fun _ _ => none) (fB_X8_takes_L36 x1 x2 x3 x4) N) x5 S) _
    have hk36 := ih
    clear ih
    generalize lpF (fun _ _ => none) (fB_X8_takes_L36 x1 x2 x3 x4) N = k36 at hk36 ⊢
    unfold fB_X8_takes_L36
    refine Ep_ck ?_
    refine Ep_ite (fun _ => ?_) (fun _ => ?_)
    · exact f9J_X8_takes_J96 x1 x2 x3 S hS
    · refine Ep_ck ?_
      refine Ep_ck ?_
      refine Ep_lt (fun S_15 eS_15 => ?_)
      have hS_15 : S_15 59 = S0 59 := by rw [eS_15]; exact by funext j; rw [st_oth (by omega), hS]
      refine Ep_lt (fun y16 ey16 => ?_)
      exact hk36 y16 S_15 hS_15
set_option maxHeartbeats 1000000 in
set_option maxRecDepth 100000 in
theorem f9L_X8_takes_L36 {S0 : Tr} (x1 : Int32) (x2 : Int32) (x3 : Int32) (x4 : Int32)    (x5 : Int32) (S : Tr) (hS : S 59 = S0 59) : Ep (fL_X8_takes_L36 x1 x2 x3 x4 x5 S) (fun q => q 59 = S0 59) := by
  unfold fL_X8_takes_L36
  exact f9B_X8_takes_L36 x1 x2 x3 x4 2000 x5 S hS
set_option maxHeartbeats 1000000 in
set_option maxRecDepth 100000 in
theorem f9_X8_takes {S0 : Tr} (S : Tr) (x1 : Int32) (x2 : Int32) (x3 : Int32) (hS : S 59 = S0 59)   : Ep (f_X8_takes S x1 x2 x3) (fun q => q 59 = S0 59) := by
  unfold f_X8_takes
  refine Ep_ck ?_
  refine Ep_lt (fun y2 ey2 => ?_)
  refine Ep_any (fun r3 => ?_)
  refine Ep_ck ?_
  refine Ep_lt (fun S_7 eS_7 => ?_)
  have hS_7 : S_7 59 = S0 59 := by rw [eS_7]; exact by funext j; rw [st_oth (by omega), hS]
  exact f9L_X8_takes_L36 x1 x2 x3 y2 r3 S_7 hS_7
theorem sp_32 {j0 i0 : Nat} {k9 : Int32 → Int32 → Tr → Lo → Option (Tr × Lo)} {xb xo : Int32} (hi : (((6 : Int32) * xb) + xo).toNatClampNeg = i0) (hk : ∀ (x2 y : Int32) (S1 : Tr) (L1 : Lo), spJ j0 S1 → Ep (k9 x2 y S1 L1) (fun q => spJ j0 q.1)) (N : Nat) : ∀ (x2 x4 : Int32) (S : Tr) (L : Lo), spJ j0 S → ¬ S 59 i0 = 0 → Ep (lpF (fun _ _ _ _ => none) (fB_X8_outs_L32 k9 xb xo) N x2 x4 S L) (fun q => spJ j0 q.1) := by
  induction N with
  | zero => intro x2 x4 S L _ _; exact Ep_none
  | succ N ih =>
    intro x2 x4 S L hS h0
    show Ep (fB_X8_outs_L32 k9 xb xo (lpF (fun _ _ _ _ => none) (fB_X8_outs_L32 k9 xb xo) N) x2 x4 S L) _
    generalize lpF (fun _ _ _ _ => none) (fB_X8_outs_L32 k9 xb xo) N = k at ih ⊢
    unfold fB_X8_outs_L32 fJ_X8_outs_J182 fJ_X8_outs_J116 fJ_X8_outs_J112 fJ_X8_outs_J117
    rw [hi]
    refine Ep_ite (fun _ => Ep_any (fun r => Ep_ite (fun _ => Ep_ck (Ep_lt (fun S1 e => Ep_lt (fun y _ => hk x2 y S1 L (by rw [e]; exact sp_9 hS (by decide)))))) (fun _ => Ep_lt (fun y _ => hk x2 y S L hS)))) (fun _ => Ep_ck (Ep_ite (fun _ => Ep_ck (Ep_ite (fun _ => ?_) (fun _ => Ep_lt (fun y _ => ih x2 y S L hS h0)))) (fun _ => Ep_lt (fun y _ => ih x2 y S L hS h0))))
    refine Ep_bd (q5_X8_secondsOf (S0 := S) S L xb x4 o51_r) (fun q hq => Ep_lt (fun r37 _ => Ep_lt (fun S38 e38 => Ep_lt (fun L39 _ => ?_))))
    rw [← e38] at hq
    have s8 : spJ j0 S38 := by unfold spJ; rw [hq.1 59 _ (by omega), hq.1 60 _ (by omega)]; exact hS
    have z8 : ¬ S38 59 i0 = 0 := by rw [hq.1 59 _ (by omega)]; exact h0
    have no : Ep (lt (x4 + 1) fun y56 => k 0 y56 S38 L39) (fun q => spJ j0 q.1) := Ep_lt (fun y _ => ih 0 y S38 L39 s8 z8)
    have yes : Ep (lt (st S38 0 72 ((S38 0 72) + r37)) fun S_44 => ck (okI (((6 : Int32) * xb) + xo) 12) (lt (st S_44 60 i0 ((S_44 60 i0) + r37)) fun S_46 => ck (okI xb 2) (bd (f_X8_aboveOf S_46 xb x4) fun r48 => lt (st S_46 61 xb.toNatClampNeg ((S_46 61 xb.toNatClampNeg) + r48)) fun S_51 => bd (f_X8_takes S_51 xb x4 (2 : Int32)) fun S_52 => lt (x4 + 1) fun y55 => k 1 y55 S_52 L39))) (fun q => spJ j0 q.1) := by
      refine Ep_lt (fun S44 e44 => Ep_ck (Ep_lt (fun S46 e46 => Ep_ck (Ep_any (fun r48 => Ep_lt (fun S51 e51 => ?_))))))
      have z1 : S51 59 i0 = S38 59 i0 := by rw [e51, st_oth (by omega), e46, st_oth (by omega), e44, st_oth (by omega)]
      have s51 : spJ j0 S51 := by
        by_cases g : j0 = i0
        · intro e
          rw [g, z1] at e; exact absurd e z8
        · rw [e51]
          refine sp_s ?_ (by omega)
          unfold spJ
          rw [e46, st_oth (by omega), st_ne g, e44, st_oth (by omega), st_oth (by omega)]; exact s8
      exact Ep_bd (Ep_and (sj_X8_takes S51 xb x4 2 s51) (f9_X8_takes (S0 := S51) S51 xb x4 2 rfl)) (fun S52 h52 => Ep_lt (fun y _ => ih 1 y S52 L39 h52.1 (by rw [h52.2, z1]; exact z8)))
    refine Ep_ite (fun _ => Ep_ite (fun _ => no) (fun g => absurd rfl g)) (fun _ => Ep_ite (fun _ => Ep_ck (Ep_ck (Ep_ite (fun _ => Ep_ite (fun _ => no) (fun g => absurd rfl g)) (fun _ => Ep_ite (fun g => absurd g (by decide)) (fun _ => yes))))) (fun _ => Ep_ite (fun g => absurd g (by decide)) (fun _ => yes)))
theorem sp_outs {j0 : Nat} {S : Tr} {L : Lo} {xb : Int32} (h : spJ j0 S) : Ep (f_X8_outs S L xb) (fun q => spJ j0 q.1) := by
  have lp : ∀ (N : Nat) (x2 x3 : Int32) (S1 : Tr) (L : Lo), spJ j0 S1 → Ep (lpF (fun _ _ _ _ => none) (fB_X8_outs_L9 xb) N x2 x3 S1 L) (fun q => spJ j0 q.1) := by
    intro N
    induction N with
    | zero => intro x2 x3 S1 L _; exact Ep_none
    | succ N ih =>
      intro x2 x3 S1 L h1
      show Ep (fB_X8_outs_L9 xb (lpF (fun _ _ _ _ => none) (fB_X8_outs_L9 xb) N) x2 x3 S1 L) _
      generalize lpF (fun _ _ _ _ => none) (fB_X8_outs_L9 xb) N = k at ih ⊢
      unfold fB_X8_outs_L9 fJ_X8_outs_J209
      have go : Ep (f_X8_getsOut S1 xb x3) (fun r => r = 0 ∨ S1 59 (((6 : Int32) * xb) + x3).toNatClampNeg = 1) := by
        unfold f_X8_getsOut
        exact Ep_ck (Ep_ite (fun c => Ep_mono (Q1 := fun _ => True) (fun _ _ => trivial) (fun _ _ => Or.inr c)) (fun _ => Ep_some (Or.inl rfl)))
      refine Ep_ite (fun _ => Ep_ck (Ep_ite (fun _ => sjL_X8_outs_L223 L xb 0 S1 h1) (fun _ => Ep_some h1))) (fun _ => Ep_bd go (fun r hr => Ep_ite (fun _ => Ep_lt (fun y _ => ih x2 y S1 L h1)) (fun n => ?_)))
      unfold fL_X8_outs_L32
      exact sp_32 rfl (fun x2 y S2 L1 a => ih x2 y S2 L1 a) 2000 x2 0 S1 L h1 (by rw [hr.resolve_left n]; decide)
  unfold f_X8_outs fL_X8_outs_L9
  exact Ep_lt (fun S1 e1 => lp 2000 1 0 S1 L (by rw [e1]; exact sp_s h (by omega)))
theorem sp_goOn {j0 : Nat} {S : Tr} {L : Lo} {xb : Int32} (h : spJ j0 S) : Ep (f_X8_goOn S L xb) (fun q => spJ j0 q.1) := by
  have fin : ∀ (S : Tr) (L : Lo), spJ j0 S → Ep (fJ_X8_goOn_J26 xb S L) (fun q => spJ j0 q.1) := fun S L h => by
    unfold fJ_X8_goOn_J26
    exact Ep_ck (Ep_lt (fun S1 e1 => Ep_some (by rw [e1]; exact sp_s h (by omega))))
  unfold f_X8_goOn
  exact Ep_bd (sp_outs h) (fun q hq => Ep_lt (fun S1 e1 => Ep_lt (fun L2 _ => Ep_bd (sj_X8_ins S1 xb (by rw [e1]; exact hq)) (fun S5 h5 => Ep_ck (Ep_ite (fun _ => fin S5 L2 h5) (fun _ => Ep_bd (sj_X8_onTheWay S5 L2 xb h5) (fun r hr => Ep_lt (fun S12 e12 => Ep_lt (fun L13 _ => fin S12 L13 (by rw [e12]; exact hr))))))))))
-- 62.zaz.65.z57
/-! a train played again; when to turn a stack -/
def fgT (T : Tr) : Prop := T 0 5 = 0 ∧ ¬ T 0 6 = 0 ∧ ¬ T 0 7 = 0
theorem fgT_e {T T1 : Tr} (h : fgT T) (e : ∀ j, 5 ≤ j → j ≤ 7 → T1 0 j = T 0 j) : fgT T1 := ⟨(e 5 (by omega) (by omega)).trans h.1, fun q => h.2.1 ((e 6 (by omega) (by omega)).symm.trans q), fun q => h.2.2 ((e 7 (by omega) (by omega)).symm.trans q)⟩
theorem fgT_c {T T2 A : Tr} (h : fgT T) (hA : cpA T T2 A) : fgT A := fgT_e h (fun j h1 _ => hA.2.2.2.2.2 j h1)
theorem fgT_d {T : Tr} {L : Lo} (h : fgT T) : drw T L := fun n => absurd h.1 n
theorem fgT_s {Tn A : Tr} (h : sttQ Tn A) : fgT A := ⟨h.2.1, by rw [h.2.2.1]; decide, by rw [h.2.2.2]; decide⟩
theorem j11 : (1 : Int32).toNatClampNeg = 1 := by decide
/-- a copy of a train goes as the train does -/
theorem Rl_cpy {P T X A S : Tr} (hR : Rl 1 P T S) (hA : cpA X T A) (fT : fgT T) (fA : fgT A) : Rl 1 P A S := by
  obtain ⟨hI, hK, ⟨s1, s2, s3, s4, s5, s6, s7, s8⟩, ⟨d1, d2, d3, d4, d5⟩, hv⟩ := hR
  obtain ⟨a1, a2, a3, a4, a5, _⟩ := hA
  have h13 : 0 ≤ (S 0 13).toInt ∧ (S 0 13).toInt ≤ 6 := hI.1 0 13
  have h14 : 0 ≤ (S 0 14).toInt ∧ (S 0 14).toInt ≤ 10 := hI.1 0 14
  refine ⟨hI, hK, ⟨fun p hp => ?_, fun i hi => ?_, (a1 3 (by omega)).trans s3, (a1 4 (by omega)).trans s4, ?_, ?_, ?_, s8⟩, ⟨(a1 0 (by omega)).trans d1, (a1 1 (by omega)).trans d2, fun p hp => ?_, fun i hi => ?_, fun p hp => ⟨?_, fun k hk => ?_, ?_⟩⟩, hv⟩
  · rw [(a2 p (by omega)).1, (a2 p (by omega)).2.1]; exact s1 p hp
  · rw [(a3 i (by omega)).1]; exact s2 i hi
  · exact fA.1.trans (fT.1.symm.trans s5)
  · exact ⟨fun e => absurd e fA.2.1, fun e => absurd (s6.mpr e) fT.2.1⟩
  · exact ⟨fun e => absurd e fA.2.2, fun e => absurd (s7.mpr e) fT.2.2⟩
  · rw [(a2 p (by omega)).2.2.1, (a2 p (by omega)).2.2.2]; exact d3 p hp
  · rw [(a3 i (by omega)).2.1, (a3 i (by omega)).2.2]; exact d4 i hi
  · rw [(a5 p hp).1]; exact (d5 p hp).1
  · have b56 := BM56 hI.1 (5 * 1 + p)
    rw [a4 _ (by omega)]; exact (d5 p hp).2.1 k hk
  · have y := (d5 p hp).1
    have b56 := BM56 hI.1 (5 * 1 + p)
    rw [(a5 p hp).2, (a5 p hp).1, (d5 p hp).2.2]
    refine wsm_cg (fun k hk => ?_)
    rw [y, i_cl] at hk
    unfold wgt
    rw [a4 _ (by omega)]
/-- how a train has come to where it stands: n stops passed -/
def Hs (P : Tr) : Nat → Tr → Tr → Prop
  | 0, T, T' => T = T'
  | n + 1, T, T' => ∃ (Lc : Lo) (q : Tr × Lo), f_X6_passStop T P Lc = some q ∧ Hs P n q.1 T'
theorem Hs_app {P T1 : Tr} {Lc : Lo} {q : Tr × Lo} (e : f_X6_passStop T1 P Lc = some q) : ∀ (n : Nat) (T : Tr), Hs P n T T1 → Hs P (n + 1) T q.1 := by
  intro n
  induction n with
  | zero =>
    intro T h
    have h : T = T1 := h
    subst h
    exact ⟨Lc, q, e, rfl⟩
  | succ n ih =>
    intro T h
    obtain ⟨Lc0, q0, e0, h0⟩ := h
    exact ⟨Lc0, q0, e0, ih q0.1 h0⟩
theorem fgT_pass {P T S : Tr} {Lc : Lo} {q : Tr × Lo} (hR : Rl 1 P T S) (h70 : S 0 70 = 0) (hst : (S 62 1).toInt ≤ 20) (f : fgT T) (e : f_X6_passStop T P Lc = some q) : fgT q.1 := by
  have b62 : 0 ≤ (S 62 1).toInt ∧ (S 62 1).toInt ≤ 21 := hR.1.1 62 1
  obtain ⟨q', e', _⟩ := t_X8_goOn S Lc 1 hR.1.1 hR.1.2.1 (by rw [j11]; exact hR.1.2.2) (by decide) (by rw [j11]; exact hst)
  obtain ⟨_, _, _, _, _, fT⟩ := ps_of (e_pass (Lc := Lc) (xb := 1) (by decide) (by decide) hR (fgT_d (L := Lc) f) h70 hst q q' e e') hst b62.1
  exact fgT_e f (fun j h1 _ => fT 0 j (by omega) (by omega) (by omega))
/-- the reference goes on to a stop: then it stands as the train does -/
def rpB {β : Type} (x : Int32) (J : Tr → Lo → Option β) (k : Tr → Lo → Option β) (S : Tr) (L : Lo) : Option β := if x ≤ (S 62 1) then (J S L) else (bd (f_X8_goOn S L (1 : Int32)) fun q => lt q.1 fun S_50 => lt q.2 fun L_51 => k S_50 L_51)
theorem e_rp {α β : Type} {Q : α → β → Prop} {A : Option α} {J : Tr → Lo → Option β} {P T' S0 : Tr} {x : Int32} (hx : x.toInt ≤ 20) (hk : ∀ S L, Rl 1 P T' S → drw T' L → S 0 70 = 0 → S 62 1 = x → aG 1 S0 S → E2 A (J S L) Q) (M : Nat) : ∀ (n : Nat) (T S : Tr) (L : Lo), Hs P n T T' → Rl 1 P T S → drw T L → S 0 70 = 0 → (S 62 1).toInt + n = x.toInt → aG 1 S0 S → E2 A (lpF (fun _ _ => none) (rpB x J) M S L) Q := by
  induction M with
  | zero => intro n T S L _ _ _ _ _ _; exact E2_nr
  | succ M ih =>
    intro n T S L hH hR hd h70 hn ha
    show E2 A (rpB x J (lpF (fun _ _ => none) (rpB x J) M) S L) Q
    generalize lpF (fun _ _ => none) (rpB x J) M = k at ih ⊢
    unfold rpB
    cases n with
    | zero =>
      have hH : T = T' := hH
      subst hH
      have e : S 62 1 = x := Int32.toInt_inj.mp (by omega)
      rw [if_pos (Int32.le_iff_toInt_le.mpr (by omega))]
      exact hk S L hR hd h70 e ha
    | succ n =>
      obtain ⟨Lc, q, e, h2⟩ := hH
      rw [if_neg (fun g => by
        have g := Int32.le_iff_toInt_le.mp g
        omega)]
      have b62 : 0 ≤ (S 62 1).toInt ∧ (S 62 1).toInt ≤ 21 := hR.1.1 62 1
      have hst : (S 62 1).toInt ≤ 20 := by omega
      intro u v eu ev
      obtain ⟨q', e', ev⟩ := tx_bd ev
      have ev : k q'.1 q'.2 = some v := ev
      obtain ⟨p1, p2, p3, p4, p5, p6⟩ := ps_of (e_pass (Lc := Lc) (xb := 1) (by decide) (by decide) hR hd h70 hst q q' e e') hst b62.1
      have hD := D_to (t_X8_goOn S L 1 hR.1.1 hR.1.2.1 (by rw [j11]; exact hR.1.2.2) (by decide) (by rw [j11]; exact hst)) q' e'
      rw [j11] at hD
      exact ih n q.1 q'.1 q'.2 h2 p1 p2 ((p4 0 70 (aM_0 (by omega) (by omega))).trans h70) (by omega) (aG_tr ha hD.2.1) u v eu ev
theorem e_wh {pa qa : Nat → Nat} {P Tn T0 X Tu0 : Tr} {A0 : Tr × Nat} {q0 q20 q3 q4 : Nat} {x1 x2 : Int32} {p : Nat} (hA0 : f_X7_startTrial pa qa Tn Tu0 q0 q20 = some A0) (hc0 : cpA X A0.1 T0) (f0 : fgT T0) (hx : x1.toInt = p) (hp : p < 5) (N : Nat) : ∀ (M n m : Nat) (x4 x5 y4 y5 x6 : Int32) (Tu Tv S : Tr) (L Lc : Lo) (q2 : Nat), Nw0 P Tn S → Hs P n T0 Tv → fgT Tu → fgT Tv → x6.toInt = m → (Tn 0 0).toInt + n = m → x5 = (if x2 = 0 then y4 else y5) → E2 (lpF (fun _ _ _ _ _ _ _ => none) (fB_X7_when_L55 pa qa P Tn q0 q3 q4 x1 x2) N x4 x5 x6 Lc Tu Tv q2) (lpF (fun _ _ _ _ _ _ => none) (fB_X8_when_L53 x1 x2) M x4 y4 y5 x6 S L) (fun q q' => q.1 = q'.1) := by
  induction N with
  | zero => intro M n m x4 x5 y4 y5 x6 Tu Tv S L Lc q2 _ _ _ _ _ _ _; exact E2_nl
  | succ N ih =>
    intro M n m x4 x5 y4 y5 x6 Tu Tv S L Lc q2 hz hH fu fv h6 hn h5
    cases M with
    | zero => exact E2_nr
    | succ M =>
      have ih := ih M
      show E2 (fB_X7_when_L55 pa qa P Tn q0 q3 q4 x1 x2 (lpF (fun _ _ _ _ _ _ _ => none) (fB_X7_when_L55 pa qa P Tn q0 q3 q4 x1 x2) N) x4 x5 x6 Lc Tu Tv q2) (fB_X8_when_L53 x1 x2 (lpF (fun _ _ _ _ _ _ => none) (fB_X8_when_L53 x1 x2) M) x4 y4 y5 x6 S L) _
      generalize lpF (fun _ _ _ _ _ _ _ => none) (fB_X7_when_L55 pa qa P Tn q0 q3 q4 x1 x2) N = k at ih ⊢
      generalize lpF (fun _ _ _ _ _ _ => none) (fB_X8_when_L53 x1 x2) M = k' at ih ⊢
      unfold fB_X7_when_L55 fB_X8_when_L53
      refine E2_it Iff.rfl (fun _ _ => ?_) (fun c _ => ?_)
      · unfold fJ_X8_when_J142
        subst h5
        by_cases g : x2 = 0
        · rw [if_pos g, if_pos g]; exact E2_some rfl
        · rw [if_neg g, if_neg g]; exact E2_some rfl
      · have c1 := tq_len (x := (20 : Int32)) (y := x6) (a := 20) (by decide) h6 c
        refine E2_bl (e_cpA Tu Tv q2 q3) (fun qc hc => E2_ltl (fun Tu22 e22 => E2_ltl (fun n23 _ => E2_ckl (fun _ => ?_))))
        rw [← e22] at hc
        have fc := fgT_c fu hc
        have hst : Ep (f_X8_layTried S) (fun S2 => Rl 1 P A0.1 S2 ∧ trQ Tn S A0.1 S2) := fun S2 hS2 => e_startC hz A0 S2 hA0 hS2
        refine E2_br hst (fun S2 h2 => ?_)
        obtain ⟨hR2, g70, g65, g5, hf2, hcp, _, hst2, ag2⟩ := h2
        have hR3 : Rl 1 P T0 S2 := Rl_cpy hR2 hc0 (fgT_s hst2) f0
        have s62 : S2 62 1 = S 62 0 := hcp.2.2.2.2.2.1
        have t00 : Tn 0 0 = S 62 0 := hz.2.2.1.1
        show E2 _ (lpF (fun _ _ => none) (rpB x6 (fJ_X8_when_J83 k' x1 x2 x4 y4 y5 x6)) 2000 S2 L) _
        refine e_rp (T' := Tv) (S0 := S2) (by omega) (fun S3 L3 hR4 hd4 h704 s624 ag4 => ?_) 2000 n T0 S2 L hH hR3 (fgT_d f0) g70 (by rw [s62, ← t00]; omega) aG_rfl
        have hR5 : Rl 1 P Tu22 S3 := Rl_cpy hR4 hc fv fc
        have j5 : ((5 : Int32) + x1).toNatClampNeg = 5 * 1 + p := by rw [jh (by decide : (5 : Int32).toInt = ((5 : Nat) : Int)) hx (by omega)]
        have v17 : Tv 17 p = S3 56 (5 * 1 + p) := (hR4.2.2.2.1.2.2.2.2 p hp).1
        unfold fJ_X8_when_J83
        rw [j5]
        refine E2_ckr (fun _ => E2_ltr (fun y28 e28 => ?_))
        rw [← v17] at e28
        have hD := D_to (t_X8_turns S3 1 x1 hR5.1.1 (by rw [j11]; exact hR5.1.2.2) (by decide) ⟨by omega, by omega⟩)
        refine E2_bd (E2_and (R := fun _ => True) (fun _ _ => trivial) hD (Rl_trn (xb := 1) (by decide) (by decide) hR5 (fgT_d (L := L3) fc) hx hp)) (fun u v huv => E2_ltl (fun _ _ => E2_ltl (fun T28 t28 => E2_ltr (fun _ _ => E2_ltr (fun S30 s30 => ?_)))))
        obtain ⟨⟨w1, w2, w3, w4⟩, _, d1, d2, d3, d4, d5⟩ := huv
        rw [← t28, ← s30] at w1
        rw [← t28] at w3
        rw [← s30] at w4
        rw [← s30, j11] at d3
        have f28 : fgT T28 := fgT_e fc (fun j _ _ => w3 0 j (by omega))
        have h7030 : S30 0 70 = 0 := (w4 0 70 (by omega) (by omega)).trans h704
        refine E2_bd (E2_and (R := fun _ => True) (fun _ _ => trivial) (D_to (t_X8_toEnd S30 L3 w1.1.1 w1.1.2.1 w1.1.2.2)) (e_lot (Tn := Tn) w1 (fgT_d f28) h7030)) (fun u v huv => E2_ltl (fun r31 e31 => E2_ltl (fun L32 _ => E2_ltl (fun T33 t33 => E2_ckl (fun _ => E2_ltr (fun S33 s33 => E2_ltr (fun L34 _ => ?_)))))))
        obtain ⟨⟨u1, u2⟩, _, v1, v2, v3, v4⟩ := huv
        have f33 : fgT T33 := fgT_e f28 (fun j _ _ => by rw [t33]; exact u2.2.2.2.2.1.2.2 0 j (by omega) (by omega) (by omega))
        rw [← s33] at u1 v1 v2 v3
        have agT : aG 1 S S33 := aG_tr (aG_tr (aG_tr ag2 ag4) d3) v2
        have hz2 : Nw0 P Tn S33 := Nw0_G hz ⟨v1, v3, gI0_G1 hz.1.1 hz.1.2.2 agT⟩ agT
        have a61 : S33 61 0 = Tn 0 1 := hz2.2.2.1.2.1.symm
        have rr : r31 = S33 61 1 - S33 61 0 := by rw [e31, u1, a61]
        have fin : ∀ (z4 z5 w4 w5 : Int32), z5 = (if x2 = 0 then w4 else w5) → E2 (fJ_X7_when_J132 k pa qa P Tn q0 q3 q4 x1 x2 z4 z5 x6 L32 T33 Tv (pa 0)) (lt (x6 + 1) fun y => k' z4 w4 w5 y S33 L34) (fun q q' => q.1 = q'.1) := fun z4 z5 w4 w5 e => by
          unfold fJ_X7_when_J132
          refine E2_ckl (fun _ => E2_bl (R := fun q => Hs P (n + 1) T0 q.1 ∧ fgT q.1) (fun q hq => ⟨Hs_app hq n T0 hH, fgT_pass hR4 h704 (by rw [s624]; omega) fv hq⟩) (fun q hq => E2_ltl (fun T39 t39 => E2_ltl (fun L40 _ => E2_ltl (fun y43 e43 => E2_ltr (fun y ey => ?_))))))
          rw [← t39] at hq
          subst e43 ey
          exact ih (n + 1) (m + 1) z4 z5 w4 w5 (x6 + 1) T33 T39 S33 L34 L40 (pa 0) hz2 hq.1 f33 hq.2 (i_p1 h6 (by omega)) (by omega) e
        unfold f_X8_more
        rw [i_cn hx, ← rr]
        subst e28
        refine E2_sr ?_
        by_cases g : x4 ≤ r31 + Tv 17 p
        · have g' : ¬ (r31 + Tv 17 p < x4) := fun q => by
            have a := Int32.le_iff_toInt_le.mp g
            have b := Int32.lt_iff_toInt_lt.mp q
            omega
          rw [if_pos g, if_neg g']
          exact fin x4 x5 y4 y5 h5
        · have g' : r31 + Tv 17 p < x4 := Int32.lt_iff_toInt_lt.mpr (Int.not_le.mp (fun q => g (Int32.le_iff_toInt_le.mpr q)))
          rw [if_neg g, if_pos g']
          refine E2_ltl (fun y44 e44 => E2_sr (E2_ltr (fun z44 ez => E2_sr ?_)))
          subst e44 ez
          by_cases h : x2 = 0
          · rw [if_pos h]
            unfold fJ_X7_when_J130
            exact fin _ _ _ _ (by rw [if_pos h])
          · rw [if_neg h]
            unfold fJ_X7_when_J130
            exact fin _ _ _ _ (by rw [if_neg h])
theorem e_X7when {P Tn Tu Tv S : Tr} {L Lc : Lo} {pa qa : Nat → Nat} {q0 q2 q3 q4 : Nat} {x1 x2 : Int32} (h : Nw P Tn S L) (fv : fgT Tv) : E2 (f_X7_when pa qa P Lc Tn Tu Tv q0 q2 q3 q4 x1 x2) (f_X8_when S L x1 x2) (fun q q' => q.1 = q'.1) := by
  unfold f_X7_when f_X8_when
  refine E2_ltr (fun S1 e1 => ?_)
  have hN : Nw P Tn S1 L := by rw [e1]; exact Nw_2 h
  have b12 : 0 ≤ (S1 0 12).toInt ∧ (S1 0 12).toInt ≤ 5 := hN.1.1 0 12
  refine E2_bd (e_isPl hN.2.1.1.1) (fun r r' hr => ?_)
  obtain ⟨rfl, hr⟩ := hr
  refine E2_it Iff.rfl (fun _ _ => E2_some rfl) (fun n _ => ?_)
  obtain ⟨_, z0, z12⟩ := hr.resolve_left n
  obtain ⟨p, hp⟩ : ∃ p : Nat, x1.toInt = p := ⟨x1.toInt.toNat, by omega⟩
  by_cases c0 : x2 < 0
  · rw [if_pos c0, isIn_0 (Or.inl c0)]
    exact E2_sr (E2_pr rfl (E2_some rfl))
  · rw [if_neg c0]
    by_cases c1 : x2 ≤ 1
    · rw [if_pos c1, isIn_1 c0 (fun g => by
        have a := Int32.le_iff_toInt_le.mp c1
        have b := Int32.lt_iff_toInt_lt.mp g
        omega)]
      refine E2_sr (E2_qr (by decide) ?_)
      intro u v eu ev
      obtain ⟨A0, hA0, eu⟩ := tx_bd eu
      obtain ⟨S10, hS10, ev⟩ := tx_bd ev
      have eu : bd (f_X6_copy Tv A0.1 q3 A0.2) (fun q => bd (f_X7_liftsOfTrial pa qa P Lc Tn A0.1 A0.2) (fun w => fL_X7_when_L55 pa qa P Tn q0 q.2 q4 x1 x2 w.1 (-2) (Tn 0 0) w.2.1 w.2.2 q.1 A0.2)) = some u := eu
      obtain ⟨qc, hqc, eu⟩ := tx_bd eu
      obtain ⟨w, hw, eu⟩ := tx_bd eu
      obtain ⟨b, hb, ev⟩ := tx_bd ev
      have ev : fL_X8_when_L53 x1 x2 (b.1 61 1 - b.1 61 0) (-2) (-2) (b.1 62 0) b.1 b.2 = some v := ev
      have hz := Nw0_w hN
      obtain ⟨hR, g70, g65, g5, hf, hcp, _, hst, ag⟩ := e_startC hz A0 S10 hA0 hS10
      have fA := fgT_s hst
      have hc0 := e_cpA Tv A0.1 q3 A0.2 qc hqc
      have f0 := fgT_c fv hc0
      obtain ⟨u1, u2⟩ := e_lot (Tn := Tn) hR (fgT_d fA) g70 w b hw hb
      have te := D_to (t_X8_toEnd S10 L hR.1.1 hR.1.2.1 hR.1.2.2) b hb
      have agT : aG 1 S1 b.1 := aG_tr ag te.2.1
      have hz2 : Nw0 P Tn b.1 := Nw0_G hz ⟨te.1, te.2.2.1, gI0_G1 hz.1.1 hz.1.2.2 agT⟩ agT
      have t00 : Tn 0 0 = b.1 62 0 := hz2.2.2.1.1
      have t01 : Tn 0 1 = b.1 61 0 := hz2.2.2.1.2.1
      have b62 : 0 ≤ (b.1 62 0).toInt ∧ (b.1 62 0).toInt ≤ 21 := hz2.1.1 62 0
      obtain ⟨m, hm⟩ : ∃ m : Nat, (b.1 62 0).toInt = m := ⟨(b.1 62 0).toInt.toNat, by omega⟩
      have fw : fgT w.2.2 := fgT_e fA (fun j _ _ => u2.2.2.2.2.1.2.2 0 j (by omega) (by omega) (by omega))
      rw [u1, t01, t00] at eu
      unfold fL_X7_when_L55 at eu
      unfold fL_X8_when_L53 at ev
      exact e_wh hA0 hc0 f0 hp (by omega) 2000 2000 0 m _ (-2) (-2) (-2) (b.1 62 0) w.2.2 qc.1 b.1 b.2 w.2.1 A0.2 hz2 rfl fw f0 hm (by rw [t00]; omega) (ite_self _).symm u v eu ev
    · rw [if_neg c1, isIn_0 (Or.inr (Int32.lt_iff_toInt_lt.mpr (Int.not_le.mp (fun q => c1 (Int32.le_iff_toInt_le.mpr q)))))]
      exact E2_sr (E2_pr rfl (E2_some rfl))
-- 62.zaz.66.z58
/-! who misses a stop -/
def lte (S : Tr) (p : Nat) : Prop := S 28 p = S 62 1 ∧ S 59 (6 + p) = 1
def lw (S : Tr) (n m : Nat) (w : Int32) : Prop := (w = -2 ∧ ∀ p, n ≤ p → p < m → ¬ lte S p) ∨ ∃ p : Nat, n ≤ p ∧ p < m ∧ w.toInt = p ∧ lte S p ∧ ∀ q, n ≤ q → q < p → ¬ lte S q
theorem lw_no {S : Tr} {n m : Nat} {w : Int32} (h : lw S (n + 1) m w) (hn : ¬ lte S n) : lw S n m w := by
  rcases h with ⟨e, z⟩ | ⟨p, h1, h2, h3, h4, h5⟩
  · refine Or.inl ⟨e, fun p q1 q2 => ?_⟩
    rcases (by omega : p = n ∨ n + 1 ≤ p) with g | g
    · rw [g]; exact hn
    · exact z p g q2
  · refine Or.inr ⟨p, by omega, h2, h3, h4, fun q q1 q2 => ?_⟩
    rcases (by omega : q = n ∨ n + 1 ≤ q) with g | g
    · rw [g]; exact hn
    · exact h5 q g q2
theorem e_50 {k23 : Int32 → Tr → Lo → Option (Int32 × Tr × Lo)} {S : Tr} {L : Lo} {x1 : Int32} {m : Nat} {v : Int32 × Tr × Lo} (m6 : m ≤ 6) (N : Nat) : ∀ (n : Nat) (w x3 : Int32), x3.toInt = (n : Int) - 1 → n ≤ m → lw S n m w → lpF (fun _ _ => none) (fB_X8_missed_L50 k23 S L x1) N w x3 = some v → ∃ w, lw S 0 m w ∧ fJ_X8_missed_J90 k23 x1 w S L = some v := by
  induction N with
  | zero => intro n w x3 _ _ _ e; cases e
  | succ N ih =>
    intro n w x3 hx hn hw e
    have e : fB_X8_missed_L50 k23 S L x1 (lpF (fun _ _ => none) (fB_X8_missed_L50 k23 S L x1) N) w x3 = some v := e
    generalize lpF (fun _ _ => none) (fB_X8_missed_L50 k23 S L x1) N = k at ih e
    unfold fB_X8_missed_L50 at e
    simp only [lt] at e
    cases n with
    | zero =>
      rw [if_pos (Int32.lt_iff_toInt_lt.mpr (by rw [show (0 : Int32).toInt = 0 by decide]; omega) : x3 < 0)] at e
      exact ⟨w, hw, e⟩
    | succ n =>
      have hx : x3.toInt = n := by omega
      rw [if_neg (fun g => by
        have g := Int32.lt_iff_toInt_lt.mp g
        rw [show (0 : Int32).toInt = 0 by decide] at g
        omega : ¬ x3 < 0)] at e
      have j6 : ((6 : Int32) + x3).toNatClampNeg = 6 + n := by rw [jh (by decide : (6 : Int32).toInt = ((6 : Nat) : Int)) hx (by omega)]
      have e1 : (x3 + (-1)).toInt = (n : Int) - 1 := by
        rw [i_addK (y := -1) hx (by decide) (by omega) (by omega)]
        omega
      rw [i_cn hx, j6] at e
      obtain ⟨_, e⟩ := tx_ck e
      by_cases g1 : S 28 n = S 62 1
      · rw [if_pos g1] at e
        obtain ⟨_, e⟩ := tx_ck e
        by_cases g2 : S 59 (6 + n) = 1
        · rw [if_pos g2] at e
          exact ih n x3 (x3 + (-1)) e1 (by omega) (Or.inr ⟨n, by omega, by omega, hx, ⟨g1, g2⟩, fun q h1 h2 => absurd h2 (by omega)⟩) e
        · rw [if_neg g2] at e
          exact ih n w (x3 + (-1)) e1 (by omega) (lw_no hw (fun h => g2 h.2)) e
      · rw [if_neg g1] at e
        exact ih n w (x3 + (-1)) e1 (by omega) (lw_no hw (fun h => g1 h.1)) e
theorem e_fl {P T S : Tr} {m : Nat} (hR : Rl 1 P T S) (hm : (S 0 13).toInt = m) : Ep (f_X6_firstLate T P) (fun r => (r = -1 ∧ ∀ p, p < m → ¬ lte S p) ∨ ∃ p : Nat, p < m ∧ r.toInt = p ∧ lte S p ∧ ∀ q, q < p → ¬ lte S q) := by
  obtain ⟨⟨hS, _, _⟩, hK, _, hd, hv⟩ := hR
  have h13 : 0 ≤ (S 0 13).toInt ∧ (S 0 13).toInt ≤ 6 := hS 0 13
  have p13 : P 0 1 = S 0 13 := hK.1.2.1
  have t00 : T 0 0 = S 62 1 := hd.1
  have lp : ∀ (N n : Nat) (x : Int32), x.toInt = n → n ≤ 6 → (∀ p : Nat, p < n → ¬ lte S p) → Ep (lpF (fun _ => none) (fB_X6_firstLate_L2 T P) N x) (fun r => (r = -1 ∧ ∀ p, p < m → ¬ lte S p) ∨ ∃ p : Nat, p < m ∧ r.toInt = p ∧ lte S p ∧ ∀ q, q < p → ¬ lte S q) := by
    intro N
    induction N with
    | zero => intro n x _ _ _; exact Ep_none
    | succ N ih =>
      intro n x hx hn hz
      show Ep (fB_X6_firstLate_L2 T P (lpF (fun _ => none) (fB_X6_firstLate_L2 T P) N) x) _
      generalize lpF (fun _ => none) (fB_X6_firstLate_L2 T P) N = k at ih ⊢
      unfold fB_X6_firstLate_L2
      rw [p13]
      refine Ep_ite (fun c => ?_) (fun c => ?_)
      · have := tq_le rfl hx c
        exact Ep_some (Or.inl ⟨rfl, fun p hp => hz p (by omega)⟩)
      · have lt := tq_len rfl hx c
        have e6 : 6 * 1 + n = 6 + n := by omega
        rw [i_cn hx, (hd.2.2.1 n lt).1, (hK.2.2.1 n lt).2.2.1, t00, e6]
        have nx : ¬ lte S n → ∀ y : Int32, y = x + 1 → Ep (k y) (fun r => (r = -1 ∧ ∀ p, p < m → ¬ lte S p) ∨ ∃ p : Nat, p < m ∧ r.toInt = p ∧ lte S p ∧ ∀ q, q < p → ¬ lte S q) := fun ng y ey => ih (n + 1) y (by rw [ey]; exact i_p1 hx (by omega)) (by omega) (fun p hp => by
          rcases (by omega : p < n ∨ p = n) with q | q
          · exact hz p q
          · rw [q]; exact ng)
        refine Ep_ck (Ep_ite (fun g => Ep_ite (fun g2 => Ep_some (Or.inr ⟨n, by omega, hx, ⟨g2, g⟩, fun q hq => hz q hq⟩)) (fun g2 => Ep_lt (fun y ey => nx (fun h => g2 h.1) y ey))) (fun g => Ep_lt (fun y ey => nx (fun h => g h.2) y ey)))
  unfold f_X6_firstLate fL_X6_firstLate_L2
  exact lp 2000 0 0 (by decide) (by omega) (fun p hp => absurd hp (by omega))
theorem J90_ex {k23 : Int32 → Tr → Lo → Option (Int32 × Tr × Lo)} {S : Tr} {L : Lo} {x1 w : Int32} {v : Int32 × Tr × Lo} (e : fJ_X8_missed_J90 k23 x1 w S L = some v) : ∃ S5 q', f_X8_ins S 1 = some S5 ∧ goJ 1 S5 L = some q' ∧ k23 w q'.1 q'.2 = some v := by
  unfold fJ_X8_missed_J90 at e
  obtain ⟨S5, h5, e⟩ := tx_bd e
  by_cases c : (20 : Int32) ≤ S5 62 1
  · rw [if_pos c] at e
    unfold fJ_X8_missed_J111 at e
    refine ⟨S5, (st S5 62 1 (S5 62 1 + 1), L), h5, ?_, e⟩
    unfold goJ fJ_X8_goOn_J26
    (rw [j11, show okI (1 : Int32) 2 = true by decide, if_pos c]) <;> rfl
  · rw [if_neg c] at e
    obtain ⟨q, hq, e⟩ := tx_bd e
    unfold fJ_X8_missed_J111 at e
    refine ⟨S5, (st q.1 62 1 (q.1 62 1 + 1), q.2), h5, ?_, e⟩
    unfold goJ fJ_X8_goOn_J26
    (rw [j11, show okI (1 : Int32) 2 = true by decide, if_neg c, hq]) <;> rfl
theorem pass_ex {T P t : Tr} {L : Lo} {a : Int32 × Tr × Lo} {q : Tr × Lo} (h : ¬ (20 : Int32) < T 0 0) (ok : okI (T 0 0) 21 = true) (ha : f_X6_takeDown T P L (P 18 (T 0 0).toNatClampNeg) = some a) (ht : f_X6_getIn a.2.1 P = some t) (hq : f_X6_wayOn t P a.2.2 = some q) : f_X6_passStop T P L = some q := by
  rw [pass_tgw h, ok]
  unfold tgw
  rw [ha]
  show bd (f_X6_getIn a.2.1 P) (fun T_8 => f_X6_wayOn T_8 P a.2.2) = some q
  rw [ht]
  exact hq
theorem go_ex {S S5 : Tr} {L : Lo} {o q : Tr × Lo} (ho : f_X8_outs S L 1 = some o) (h5 : f_X8_ins o.1 1 = some S5) (hJ : goJ 1 S5 o.2 = some q) : f_X8_goOn S L 1 = some q := by
  unfold f_X8_goOn
  rw [ho]
  show bd (f_X8_ins o.1 1) (fun S_5 => goJ 1 S_5 o.2) = some q
  rw [h5]
  exact hJ
theorem Rl_70 {P T S : Tr} (hR : Rl 1 P T S) : Rl 1 P T (st S 0 70 1) := by
  obtain ⟨s1, s2, s3, s4, s5, s6, s7, s8⟩ := hR.2.2.1
  refine Rl_sta hR (rI_s0 hR.1 (iR_set hR.1.1 (by decide) (by decide)) (by omega) (by omega)) (fun _ _ _ _ => rfl) (fun a j n _ => st_no (by omega)) ⟨fun p hp => ?_, fun i hi => ?_, ?_, ?_, ?_, ?_, ?_, ?_⟩
  · rw [st_ne (by omega)] at hp
    rw [st_oth (by omega), st_ne (by omega), st_oth (by omega)]; exact s1 p hp
  · rw [st_ne (by omega)] at hi
    rw [st_oth (by omega), st_oth (by omega), st_ne (by omega)]; exact s2 i hi
  · rw [st_ne (by omega)]; exact s3
  · rw [st_ne (by omega), st_oth (by omega)]; exact s4
  · rw [st_ne (by omega)]; exact s5
  · rw [st_ne (by omega)]; exact s6
  · rw [st_ne (by omega)]; exact s7
  · rw [st_ne (by omega)]; exact s8
theorem e_ms {pa qa : Nat → Nat} {P Tn S1 Tu0 : Tr} {A0 : Tr × Nat} {q0 q20 q2 q4 : Nat} {x1 : Int32} (hz : Nw0 P Tn S1) (hA0 : f_X7_startTrial pa qa Tn Tu0 q0 q20 = some A0) (N : Nat) : ∀ (M n : Nat) (x2 : Int32) (Tu Tv S : Tr) (L Lc : Lo) (q3 : Nat), Rl 1 P Tu S → aG 1 S1 S → S 0 70 = 0 → Hs P n A0.1 Tu → fgT Tu → fgT Tv → x2 = Tu 0 0 → (Tn 0 0).toInt + n = x2.toInt → E2 (lpF (fun _ _ _ _ _ => none) (fB_X7_missed_L23 pa qa P Tn q0 q2 q4 x1) N x2 Lc Tu Tv q3) (lpF (fun _ _ _ => none) (fB_X8_missed_L23 x1) M (-2) S L) (fun q q' => q.1 = q'.1) := by
  induction N with
  | zero => intro M n x2 Tu Tv S L Lc q3 _ _ _ _ _ _ _ _; exact E2_nl
  | succ N ih =>
    intro M n x2 Tu Tv S L Lc q3 hR ag h70 hH fu fv hx2 hn
    cases M with
    | zero => exact E2_nr
    | succ M =>
      have ih := ih M
      have kn : ∀ (w : Int32) (S : Tr) (L : Lo) (v : Int32 × Tr × Lo), 0 ≤ w.toInt → lpF (fun _ _ _ => none) (fB_X8_missed_L23 x1) M w S L = some v → fJ_X8_missed_J124 x1 w S L = some v := by
        intro w S L v hw e
        cases M with
        | zero => cases e
        | succ M =>
          have e : fB_X8_missed_L23 x1 (lpF (fun _ _ _ => none) (fB_X8_missed_L23 x1) M) w S L = some v := e
          unfold fB_X8_missed_L23 at e
          by_cases c : (21 : Int32) ≤ S 62 1
          · rw [if_pos c] at e; exact e
          · rw [if_neg c, if_pos (Int32.le_iff_toInt_le.mpr (by rw [show (0 : Int32).toInt = 0 by decide]; exact hw))] at e; exact e
      show E2 (fB_X7_missed_L23 pa qa P Tn q0 q2 q4 x1 (lpF (fun _ _ _ _ _ => none) (fB_X7_missed_L23 pa qa P Tn q0 q2 q4 x1) N) x2 Lc Tu Tv q3) (fB_X8_missed_L23 x1 (lpF (fun _ _ _ => none) (fB_X8_missed_L23 x1) M) (-2) S L) _
      generalize lpF (fun _ _ _ _ _ => none) (fB_X7_missed_L23 pa qa P Tn q0 q2 q4 x1) N = k at ih ⊢
      generalize lpF (fun _ _ _ => none) (fB_X8_missed_L23 x1) M = k' at ih kn ⊢
      have t00 : Tu 0 0 = S 62 1 := hR.2.2.2.1.1
      have b62 : 0 ≤ (S 62 1).toInt ∧ (S 62 1).toInt ≤ 21 := hR.1.1 62 1
      subst hx2
      unfold fB_X7_missed_L23 fB_X8_missed_L23
      by_cases c : (20 : Int32) < Tu 0 0
      · rw [if_pos c]
        have c1 := Int32.lt_iff_toInt_lt.mp c
        rw [t00, show (20 : Int32).toInt = 20 by decide] at c1
        rw [if_pos (Int32.le_iff_toInt_le.mpr (by rw [show (21 : Int32).toInt = 21 by decide]; omega) : (21 : Int32) ≤ S 62 1)]
        unfold fJ_X8_missed_J124
        exact E2_pr (by decide) (E2_some rfl)
      · rw [if_neg c]
        have c1 : (S 62 1).toInt ≤ 20 := by
          have := tq_ltn (x := (20 : Int32)) (y := Tu 0 0) (a := 20) (by decide) rfl c
          rw [t00] at this
          exact this
        rw [if_neg (fun g => by
          have g := Int32.le_iff_toInt_le.mp g
          rw [show (21 : Int32).toInt = 21 by decide] at g
          omega : ¬ (21 : Int32) ≤ S 62 1), if_neg (by decide : ¬ (0 : Int32) ≤ -2)]
        refine E2_bl (e_cpA Tv Tu q3 q2) (fun qc hc => E2_ltl (fun Tv9 t9 => E2_ltl (fun q10 _ => E2_ckl (fun _ => E2_ckl (fun ok => E2_ckl (fun _ => ?_))))))
        rw [← t9] at hc
        have f9 := fgT_c fv hc
        intro u v eu ev
        obtain ⟨a, ha, eu⟩ := tx_bd eu
        obtain ⟨o, ho, ev⟩ := tx_bd ev
        obtain ⟨hR1, r72, _, fT, fS, am, oLL, hh, h20⟩ := e_outs (Lc := Lc) (L0 := L) (xb := 1) (by decide) (by decide) hR (lim_0 hR h70 c1) c1 a o ha ho
        have s13 : o.1 0 13 = S 0 13 := fS 0 13 (by omega) (by omega) (by omega)
        have b13 : 0 ≤ (o.1 0 13).toInt ∧ (o.1 0 13).toInt ≤ 6 := hR1.1.1 0 13
        obtain ⟨m, hm⟩ : ∃ m : Nat, (o.1 0 13).toInt = m := ⟨(o.1 0 13).toInt.toNat, by omega⟩
        simp only [lt] at eu ev
        obtain ⟨r, hr, eu⟩ := tx_bd eu
        have hr := e_fl hR1 hm r hr
        have ey : (o.1 0 13 - 1).toInt = (m : Int) - 1 := i_subK hm (by decide) (by omega) (by omega)
        unfold fL_X8_missed_L50 at ev
        obtain ⟨w, hw, ev⟩ := e_50 (m := m) (by omega) 2000 m (-2) (o.1 0 13 - 1) ey (by omega) (Or.inl ⟨rfl, fun p h1 h2 => absurd h2 (by omega)⟩) ev
        obtain ⟨S5, q', h5, hJ, ev⟩ := J90_ex ev
        have hg : f_X8_goOn S L 1 = some q' := go_ex ho h5 hJ
        have hD := D_to (t_X8_goOn S L 1 hR.1.1 hR.1.2.1 (by rw [j11]; exact hR.1.2.2) (by decide) (by rw [j11]; exact c1)) q' hg
        rw [j11] at hD
        have agT : aG 1 S1 q'.1 := aG_tr ag hD.2.1
        rcases hr with ⟨rfl, hno⟩ | ⟨p, p1, p2, p3, p4⟩
        · have hw2 : w = -2 := by
            rcases hw with ⟨e, _⟩ | ⟨p, _, h2, _, h4, _⟩
            · exact e
            · exact absurd h4 (hno p h2)
          subst hw2
          rw [if_pos (by decide : (-1 : Int32) < 0)] at eu
          obtain ⟨t, ht, eu⟩ := tx_bd eu
          obtain ⟨y, hy, eu⟩ := tx_bd eu
          have hp : f_X6_passStop Tu P Lc = some y := pass_ex c ok ha ht hy
          obtain ⟨z1, z2, z3, z4, z5, z6⟩ := ps_of (e_pass (Lc := Lc) (xb := 1) (by decide) (by decide) hR (fgT_d (L := L) fu) h70 c1 y q' hp hg) c1 b62.1
          have ea : (Tu 0 0 + 1).toInt = (S 62 1).toInt + 1 := i_addK (by rw [t00]) (by decide) (by omega) (by omega)
          refine ih (n + 1) (Tu 0 0 + 1) y.1 Tv9 q'.1 q'.2 y.2 q10 z1 agT ((z4 0 70 (aM_0 (by omega) (by omega))).trans h70) (Hs_app hp n A0.1 hH) (fgT_e fu (fun j _ _ => z6 0 j (by omega) (by omega) (by omega))) f9 ?_ ?_ u v eu ev
          · rw [z1.2.2.2.1.1]
            exact Int32.toInt_inj.mp (by rw [ea, z3])
          · rw [ea, ← t00]; omega
        · rcases hw with ⟨_, z⟩ | ⟨p', h1, h2, h3, h4, h5'⟩
          · exact absurd p3 (z p (by omega) p1)
          · have e : p' = p := by
              rcases Nat.lt_trichotomy p' p with g | g | g
              · exact absurd h4 (p4 p' g)
              · exact g
              · exact absurd p3 (h5' p (by omega) g)
            rw [e] at h3
            have ew : w = r := Int32.toInt_inj.mp (h3.trans p2.symm)
            rw [if_neg (fun g => by
              have g := Int32.lt_iff_toInt_lt.mp g
              rw [show (0 : Int32).toInt = 0 by decide] at g
              omega : ¬ r < 0)] at eu
            have ev := kn w q'.1 q'.2 v (by omega) ev
            unfold fJ_X7_missed_J69 at eu
            unfold fJ_X8_missed_J124 at ev
            rw [if_neg (fun g => by
              have g := Int32.lt_iff_toInt_lt.mp g
              rw [show (0 : Int32).toInt = 0 by decide] at g
              omega : ¬ w < 0)] at ev
            by_cases cx : x1 = 0
            · rw [if_pos cx] at eu ev
              rw [← Option.some.inj eu, ← Option.some.inj ev]
              exact ew.symm
            · rw [if_neg cx] at eu ev
              obtain ⟨_, eu⟩ := tx_ck eu
              obtain ⟨d, hd, eu⟩ := tx_bd eu
              simp only [lt] at eu ev
              obtain ⟨_, eu⟩ := tx_ck eu
              obtain ⟨_, eu⟩ := tx_ck eu
              obtain ⟨_, ev⟩ := tx_ck ev
              obtain ⟨S14, hS14, ev⟩ := tx_bd ev
              have hz2 : Nw0 P Tn q'.1 := Nw0_G hz ⟨hD.1, hD.2.2.1, gI0_G1 hz.1.1 hz.1.2.2 agT⟩ agT
              obtain ⟨hRs, g70, g65, g5, hf2, hcp, _, hst2, ag2⟩ := e_startC hz2 A0 S14 hA0 hS14
              have y13 : q'.1 28 w.toNatClampNeg = Tu 0 0 := by
                rw [i_cn h3, hD.2.1 28 p (Wb_h (by unfold h0c; omega)), t00, ← fS 28 p (by omega) (by omega) (by omega), p3.1, fS 62 1 (by omega) (by omega) (by omega)]
              rw [y13] at ev
              have ev : lpF (fun _ _ => none) (rpB (Tu 0 0) (fJ_X8_missed_J163 (Tu 0 0))) 2000 S14 q'.2 = some v := ev
              have s62 : S14 62 1 = q'.1 62 0 := hcp.2.2.2.2.2.1
              have u00 : Tn 0 0 = q'.1 62 0 := hz2.2.2.1.1
              refine e_rp (A := some u) (T' := Tu) (S0 := S14) (Q := fun q q' => q.1 = q'.1) (by rw [t00]; exact c1) (fun S3 L3 hR4 hd4 h704 s624 ag4 => ?_) 2000 n A0.1 S14 q'.2 hH hRs (fgT_d (fgT_s hst2)) g70 (by rw [s62, ← u00]; exact hn) aG_rfl u v rfl ev
              unfold fJ_X8_missed_J163
              refine E2_ltr (fun S18 e18 => ?_)
              have hR5 : Rl 1 P Tv9 S18 := by rw [e18]; exact Rl_70 (Rl_cpy hR4 hc fu f9)
              have s18 : S18 62 1 = Tu 0 0 := by rw [e18, st_oth (by omega)]; exact s624
              intro u' v' eu' ev'
              obtain ⟨o2, ho2, ev'⟩ := tx_bd ev'
              obtain ⟨hR6, r72', _⟩ := e_outs (L0 := L3) (Lc := a.2.2) (xb := 1) (by decide) (by decide) hR5 (Or.inr ⟨by rw [e18, st_same]; decide, rfl⟩) (by rw [s18, t00]; exact c1) d o2 hd ho2
              simp only [lt] at ev'
              obtain ⟨_, ev'⟩ := tx_ck ev'
              rw [← Option.some.inj eu', ← Option.some.inj eu, ← Option.some.inj ev']
              show d.1 - P 18 (Tu 0 0).toNatClampNeg = st o2.1 0 70 0 0 72 - st o2.1 0 70 0 34 (Tu 0 0).toNatClampNeg
              rw [st_ne (by omega), st_oth (by omega), r72', hR6.2.1.2.2.2.2.1 _ (by rw [i_cl, t00]; omega)]
theorem e_X7missed {P Tn Tu Tv S : Tr} {L Lc : Lo} {pa qa : Nat → Nat} {q0 q2 q3 q4 : Nat} {x1 : Int32} (h : Nw P Tn S L) (fv : fgT Tv) : E2 (f_X7_missed pa qa P Lc Tn Tu Tv q0 q2 q3 q4 x1) (f_X8_missed S L x1) (fun q q' => q.1 = q'.1) := by
  unfold f_X7_missed f_X8_missed
  refine E2_ltr (fun S1 e1 => ?_)
  have hN : Nw P Tn S1 L := by rw [e1]; exact Nw_2 h
  by_cases c0 : x1 < 0
  · rw [if_pos c0, isIn_0 (Or.inl c0)]
    exact E2_sr (E2_pr rfl (E2_some rfl))
  · rw [if_neg c0]
    by_cases c1 : x1 ≤ 1
    · rw [if_pos c1, isIn_1 c0 (fun g => by
        have a := Int32.le_iff_toInt_le.mp c1
        have b := Int32.lt_iff_toInt_lt.mp g
        omega)]
      refine E2_sr (E2_qr (by decide) ?_)
      intro u v eu ev
      obtain ⟨A0, hA0, eu⟩ := tx_bd eu
      obtain ⟨S6, hS6, ev⟩ := tx_bd ev
      simp only [lt] at eu
      have hz := Nw0_w hN
      obtain ⟨hR, g70, g65, g5, hf, hcp, _, hst, ag⟩ := e_startC hz A0 S6 hA0 hS6
      have t00 : Tn 0 0 = S1 62 0 := hz.2.2.1.1
      have a00 : A0.1 0 0 = S1 62 0 := hR.2.2.2.1.1.trans hcp.2.2.2.2.2.1
      unfold fL_X7_missed_L23 at eu
      unfold fL_X8_missed_L23 at ev
      exact e_ms hz hA0 2000 2000 0 (Tn 0 0) A0.1 Tv S6 L Lc q3 hR ag g70 rfl (fgT_s hst) fv (t00.trans a00.symm) (by omega) u v eu ev
    · rw [if_neg c1, isIn_0 (Or.inr (Int32.lt_iff_toInt_lt.mpr (Int.not_le.mp (fun q => c1 (Int32.le_iff_toInt_le.mpr q)))))]
      exact E2_sr (E2_pr rfl (E2_some rfl))
-- 62.zaz.67.z59
/-! the spare train's flags stay -/
def fv (T T1 : Tr) : Prop := ∀ j, 5 ≤ j → j ≤ 7 → T1 0 j = T 0 j
theorem fv_r {T : Tr} : fv T T := fun _ _ _ => rfl
theorem fv_t {T T1 T2 : Tr} (h1 : fv T T1) (h2 : fv T1 T2) : fv T T2 := fun j a b => (h2 j a b).trans (h1 j a b)
theorem fv_s {T0 T : Tr} {a i : Nat} {v : Int32} (h : fv T0 T) (hn : ¬ (a = 0 ∧ 5 ≤ i ∧ i ≤ 7)) : fv T0 (st T a i v) := fun j p q => by
  rw [st_no (fun e => hn (by omega))]; exact h j p q
theorem fv_c {T0 T : Tr} {a : Nat} {f : Nat → Int32} (h : fv T0 T) (ha : ¬ 0 = a) : fv T0 (stC T a f) := fun j p q => by
  rw [stC_oth ha]; exact h j p q
theorem fv_cpy (T T2 : Tr) (q q2 : Nat) : Ep (f_X6_copy T T2 q q2) (fun r => fv T r.1) := Ep_mono (e_cpA T T2 q q2) (fun r h j p _ => h.2.2.2.2.2 j p)
theorem Ep_tr {ρ : Type} {x : Option ρ} : Ep x (fun _ => True) := fun _ _ => trivial
theorem fgT_v {T T1 : Tr} (h : fgT T) (f : fv T T1) : fgT T1 := fgT_e h f
set_option maxHeartbeats 1000000 in
set_option maxRecDepth 100000 in
theorem fvJ_X6_takeAway_J70 {T0 : Tr} (P : Tr) (x1 : Int32) (x2 : Int32) (x4 : Int32) (T : Tr) (hT : fv T0 T)   : Ep (fJ_X6_takeAway_J70 P x1 x2 x4 T) (fun q => fv T0 q) := by
  unfold fJ_X6_takeAway_J70
  refine Ep_ck ?_
  refine Ep_lt (fun T_10 eT_10 => ?_)
  have hT_10 : fv T0 T_10 := by rw [eT_10]; exact fv_s hT (by omega)
  refine Ep_ck ?_
  refine Ep_lt (fun T_12 eT_12 => ?_)
  have hT_12 : fv T0 T_12 := by rw [eT_12]; exact fv_s hT_10 (by omega)
  refine Ep_lt (fun T_13 eT_13 => ?_)
  have hT_13 : fv T0 T_13 := by rw [eT_13]; exact fv_s hT_12 (by omega)
  refine Ep_lt (fun T_14 eT_14 => ?_)
  have hT_14 : fv T0 T_14 := by rw [eT_14]; exact fv_s hT_13 (by omega)
  exact Ep_some hT_14
set_option maxHeartbeats 1000000 in
set_option maxRecDepth 100000 in
theorem fvB_X6_takeAway_L22 {T0 : Tr} (P : Tr) (x1 : Int32) (x2 : Int32) (x4 : Int32)    (N : Nat) : ∀ (x5 : Int32) (T : Tr), fv T0 T → Ep (lpF (fun _ _ => none) (fB_X6_takeAway_L22 P x1 x2 x4) N x5 T) (fun q => fv T0 q) := by
  induction N with
  | zero => intro x5 T _; exact Ep_none
  | succ N ih =>
    intro x5 T hT
    show Ep (fB_X6_takeAway_L22 P x1 x2 x4 (lpF (fun _ _ => none) (fB_X6_takeAway_L22 P x1 x2 x4) N) x5 T) _
    have hk22 := ih
    clear ih
    generalize lpF (fun _ _ => none) (fB_X6_takeAway_L22 P x1 x2 x4) N = k22 at hk22 ⊢
    unfold fB_X6_takeAway_L22
    refine Ep_ck ?_
    refine Ep_ite (fun _ => ?_) (fun _ => ?_)
    · exact fvJ_X6_takeAway_J70 P x1 x2 x4 T hT
    · refine Ep_ck ?_
      refine Ep_ck ?_
      refine Ep_lt (fun T_17 eT_17 => ?_)
      have hT_17 : fv T0 T_17 := by rw [eT_17]; exact fv_s hT (by omega)
      refine Ep_lt (fun y18 ey18 => ?_)
      exact hk22 y18 T_17 hT_17
set_option maxHeartbeats 1000000 in
set_option maxRecDepth 100000 in
theorem fvL_X6_takeAway_L22 {T0 : Tr} (P : Tr) (x1 : Int32) (x2 : Int32) (x4 : Int32)    (x5 : Int32) (T : Tr) (hT : fv T0 T) : Ep (fL_X6_takeAway_L22 P x1 x2 x4 x5 T) (fun q => fv T0 q) := by
  unfold fL_X6_takeAway_L22
  exact fvB_X6_takeAway_L22 P x1 x2 x4 2000 x5 T hT
set_option maxHeartbeats 1000000 in
set_option maxRecDepth 100000 in
theorem fv_X6_takeAway {T0 : Tr} (T : Tr) (P : Tr) (x1 : Int32) (x2 : Int32) (hT : fv T0 T)   : Ep (f_X6_takeAway T P x1 x2) (fun q => fv T0 q) := by
  unfold f_X6_takeAway
  refine Ep_any (fun r1 => ?_)
  refine Ep_ite (fun _ => ?_) (fun _ => ?_)
  · refine Ep_ck ?_
    refine Ep_lt (fun y6 ey6 => ?_)
    exact fvL_X6_takeAway_L22 P x1 x2 y6 r1 T hT
  · exact Ep_some hT
set_option maxHeartbeats 1000000 in
set_option maxRecDepth 100000 in
theorem fvB_X6_setFree_L2 {T0 : Tr} (P : Tr) (x1 : Int32) (x2 : Int32)    (N : Nat) : ∀ (x3 : Int32) (T : Tr), fv T0 T → Ep (lpF (fun _ _ => none) (fB_X6_setFree_L2 P x1 x2) N x3 T) (fun q => fv T0 q) := by
  induction N with
  | zero => intro x3 T _; exact Ep_none
  | succ N ih =>
    intro x3 T hT
    show Ep (fB_X6_setFree_L2 P x1 x2 (lpF (fun _ _ => none) (fB_X6_setFree_L2 P x1 x2) N) x3 T) _
    have hk2 := ih
    clear ih
    generalize lpF (fun _ _ => none) (fB_X6_setFree_L2 P x1 x2) N = k2 at hk2 ⊢
    unfold fB_X6_setFree_L2
    refine Ep_ite (fun _ => ?_) (fun _ => ?_)
    · exact Ep_some hT
    · refine Ep_ck ?_
      refine Ep_ite (fun _ => ?_) (fun _ => ?_)
      · refine Ep_ite (fun _ => ?_) (fun _ => ?_)
        · refine Ep_bd (fv_X6_takeAway T P x3 x2 hT) (fun T_7 hT_7 => ?_)
          refine Ep_lt (fun y10 ey10 => ?_)
          exact hk2 y10 T_7 hT_7
        · refine Ep_lt (fun y6 ey6 => ?_)
          exact hk2 y6 T hT
      · refine Ep_lt (fun y4 ey4 => ?_)
        exact hk2 y4 T hT
set_option maxHeartbeats 1000000 in
set_option maxRecDepth 100000 in
theorem fvL_X6_setFree_L2 {T0 : Tr} (P : Tr) (x1 : Int32) (x2 : Int32)    (x3 : Int32) (T : Tr) (hT : fv T0 T) : Ep (fL_X6_setFree_L2 P x1 x2 x3 T) (fun q => fv T0 q) := by
  unfold fL_X6_setFree_L2
  exact fvB_X6_setFree_L2 P x1 x2 2000 x3 T hT
set_option maxHeartbeats 1000000 in
set_option maxRecDepth 100000 in
theorem fv_X6_setFree {T0 : Tr} (T : Tr) (P : Tr) (x1 : Int32) (x2 : Int32) (hT : fv T0 T)   : Ep (f_X6_setFree T P x1 x2) (fun q => fv T0 q) := by
  unfold f_X6_setFree
  exact fvL_X6_setFree_L2 P x1 x2 0 T hT
set_option maxHeartbeats 1000000 in
set_option maxRecDepth 100000 in
theorem fvJ_X6_takeDown_J192 {T0 : Tr} (k7 : Int32 → Int32 → Int32 → Tr → Lo → Option (Int32 × Tr × Lo)) (P : Tr) (x1 : Int32) (x2 : Int32) (x3 : Int32) (x4 : Int32) (T : Tr) (L : Lo) (hT : fv T0 T) (hk7 : ∀ (x2 : Int32) (x3 : Int32) (x4 : Int32) (T : Tr) (L : Lo), fv T0 T → Ep (k7 x2 x3 x4 T L) (fun q => fv T0 q.2.1))  : Ep (fJ_X6_takeDown_J192 k7 P x1 x2 x3 x4 T L) (fun q => fv T0 q.2.1) := by
  unfold fJ_X6_takeDown_J192
  refine Ep_any (fun r8 => ?_)
  refine Ep_ite (fun _ => ?_) (fun _ => ?_)
  · refine Ep_ck ?_
    refine Ep_lt (fun T_14 eT_14 => ?_)
    have hT_14 : fv T0 T_14 := by rw [eT_14]; exact fv_s hT (by omega)
    refine Ep_lt (fun y15 ey15 => ?_)
    exact hk7 x2 x3 y15 T_14 L hT_14
  · refine Ep_lt (fun y12 ey12 => ?_)
    exact hk7 x2 x3 y12 T L hT
set_option maxHeartbeats 1000000 in
set_option maxRecDepth 100000 in
theorem fvJ_X6_takeDown_J176 {T0 : Tr} (k7 : Int32 → Int32 → Int32 → Tr → Lo → Option (Int32 × Tr × Lo)) (P : Tr) (x1 : Int32) (x2 : Int32) (x3 : Int32) (x4 : Int32) (T : Tr) (L : Lo) (hT : fv T0 T) (hk7 : ∀ (x2 : Int32) (x3 : Int32) (x4 : Int32) (T : Tr) (L : Lo), fv T0 T → Ep (k7 x2 x3 x4 T L) (fun q => fv T0 q.2.1))  : Ep (fJ_X6_takeDown_J176 k7 P x1 x2 x3 x4 T L) (fun q => fv T0 q.2.1) := by
  unfold fJ_X6_takeDown_J176
  refine Ep_ite (fun _ => ?_) (fun _ => ?_)
  · refine Ep_bd (fv_X6_setFree T P x4 (5 : Int32) hT) (fun T_16 hT_16 => ?_)
    exact fvJ_X6_takeDown_J192 k7 P x1 x2 x3 x4 T_16 L hT_16 hk7
  · exact fvJ_X6_takeDown_J192 k7 P x1 x2 x3 x4 T L hT hk7
set_option maxHeartbeats 1000000 in
set_option maxRecDepth 100000 in
theorem fv_X6_worked {T0 : Tr} (T : Tr) (P : Tr) (L : Lo) (x1 : Int32) (x2 : Int32) (x3 : Int32) (hT : fv T0 T)   : Ep (f_X6_worked T P L x1 x2 x3) (fun q => fv T0 q.2.1) := by
  unfold f_X6_worked
  refine Ep_ck ?_
  refine Ep_lt (fun y2 ey2 => ?_)
  refine Ep_ck ?_
  refine Ep_ite (fun _ => ?_) (fun _ => ?_)
  · exact Ep_some hT
  · refine Ep_ite (fun _ => ?_) (fun _ => ?_)
    · refine Ep_lt (fun T_6 eT_6 => ?_)
      have hT_6 : fv T0 T_6 := by rw [eT_6]; exact fv_s hT (by omega)
      refine Ep_lt (fun T_7 eT_7 => ?_)
      have hT_7 : fv T0 T_7 := by rw [eT_7]; exact fv_s hT_6 (by omega)
      refine Ep_ck ?_
      refine Ep_any (fun r9 => ?_)
      refine Ep_lt (fun T_12 eT_12 => ?_)
      have hT_12 : fv T0 T_12 := by rw [eT_12]; exact fv_s hT_7 (by omega)
      refine Ep_lt (fun T_13 eT_13 => ?_)
      have hT_13 : fv T0 T_13 := by rw [eT_13]; exact fv_s hT_12 (by omega)
      refine Ep_lt (fun T_14 eT_14 => ?_)
      have hT_14 : fv T0 T_14 := by rw [eT_14]; exact fv_s hT_13 (by omega)
      refine Ep_lt (fun T_15 eT_15 => ?_)
      have hT_15 : fv T0 T_15 := by rw [eT_15]; exact fv_s hT_14 (by omega)
      refine Ep_lt (fun T_16 eT_16 => ?_)
      have hT_16 : fv T0 T_16 := by rw [eT_16]; exact fv_s hT_15 (by omega)
      refine Ep_any (fun q => ?_)
      refine Ep_lt (fun r17 er17 => ?_)
      refine Ep_lt (fun L_18 eL_18 => ?_)
      exact Ep_some hT_16
    · exact Ep_some hT
set_option maxHeartbeats 1000000 in
set_option maxRecDepth 100000 in
theorem fvB_X6_secondsFor_L26 {T0 : Tr} (P : Tr) (x2 : Int32) (x4 : Int32)    (N : Nat) : ∀ (x5 : Int32) (x6 : Int32) (T : Tr) (L : Lo), fv T0 T → Ep (lpF (fun _ _ _ _ => none) (fB_X6_secondsFor_L26 P x2 x4) N x5 x6 T L) (fun q => fv T0 q.2.1) := by
  induction N with
  | zero => intro x5 x6 T L _; exact Ep_none
  | succ N ih =>
    intro x5 x6 T L hT
    show Ep (fB_X6_secondsFor_L26 P x2 x4 (lpF (fun _ _ _ _ => none) (fB_X6_secondsFor_L26 P x2 x4) N) x5 x6 T L) _
    have hk26 := ih
    clear ih
    generalize lpF (fun _ _ _ _ => none) (fB_X6_secondsFor_L26 P x2 x4) N = k26 at hk26 ⊢
    unfold fB_X6_secondsFor_L26
    refine Ep_ck ?_
    refine Ep_ite (fun _ => ?_) (fun _ => ?_)
    · exact Ep_some hT
    · refine Ep_ck ?_
      refine Ep_lt (fun y10 ey10 => ?_)
      refine Ep_bd (fv_X6_worked T P L (0 : Int32) y10 x2 hT) (fun q hq => ?_)
      refine Ep_lt (fun r11 er11 => ?_)
      refine Ep_lt (fun T_12 eT_12 => ?_)
      have hT_12 : fv T0 T_12 := by rw [eT_12]; exact hq
      refine Ep_lt (fun L_13 eL_13 => ?_)
      refine Ep_ite (fun _ => ?_) (fun _ => ?_)
      · refine Ep_ite (fun _ => ?_) (fun _ => ?_)
        · refine Ep_lt (fun y18 ey18 => ?_)
          exact hk26 x5 y18 T_12 L_13 hT_12
        · refine Ep_ck ?_
          refine Ep_ck ?_
          refine Ep_lt (fun y21 ey21 => ?_)
          refine Ep_lt (fun y22 ey22 => ?_)
          exact hk26 y21 y22 T_12 L_13 hT_12
      · refine Ep_any (fun r23 => ?_)
        refine Ep_lt (fun y26 ey26 => ?_)
        refine Ep_lt (fun y27 ey27 => ?_)
        exact hk26 y26 y27 T_12 L_13 hT_12
set_option maxHeartbeats 1000000 in
set_option maxRecDepth 100000 in
theorem fvL_X6_secondsFor_L26 {T0 : Tr} (P : Tr) (x2 : Int32) (x4 : Int32)    (x5 : Int32) (x6 : Int32) (T : Tr) (L : Lo) (hT : fv T0 T) : Ep (fL_X6_secondsFor_L26 P x2 x4 x5 x6 T L) (fun q => fv T0 q.2.1) := by
  unfold fL_X6_secondsFor_L26
  exact fvB_X6_secondsFor_L26 P x2 x4 2000 x5 x6 T L hT
set_option maxHeartbeats 1000000 in
set_option maxRecDepth 100000 in
theorem fv_X6_secondsFor {T0 : Tr} (T : Tr) (P : Tr) (L : Lo) (x1 : Int32) (x2 : Int32) (hT : fv T0 T)   : Ep (f_X6_secondsFor T P L x1 x2) (fun q => fv T0 q.2.1) := by
  unfold f_X6_secondsFor
  refine Ep_any (fun r1 => ?_)
  refine Ep_ite (fun _ => ?_) (fun _ => ?_)
  · refine Ep_ck ?_
    refine Ep_lt (fun y6 ey6 => ?_)
    exact fvL_X6_secondsFor_L26 P x2 y6 0 r1 T L hT
  · exact Ep_some hT
set_option maxHeartbeats 1000000 in
set_option maxRecDepth 100000 in
theorem fvJ_X6_takeDown_J126 {T0 : Tr} (k7 : Int32 → Int32 → Int32 → Tr → Lo → Option (Int32 × Tr × Lo)) (k53 : Int32 → Int32 → Int32 → Tr → Lo → Option (Int32 × Tr × Lo)) (P : Tr) (x1 : Int32) (x4 : Int32) (x2 : Int32) (x5 : Int32) (x6 : Int32) (s0 : Int32) (T : Tr) (L : Lo) (hT : fv T0 T) (hk7 : ∀ (x2 : Int32) (x3 : Int32) (x4 : Int32) (T : Tr) (L : Lo), fv T0 T → Ep (k7 x2 x3 x4 T L) (fun q => fv T0 q.2.1)) (hk53 : ∀ (x2 : Int32) (x3 : Int32) (x5 : Int32) (T : Tr) (L : Lo), fv T0 T → Ep (k53 x2 x3 x5 T L) (fun q => fv T0 q.2.1))  : Ep (fJ_X6_takeDown_J126 k7 k53 P x1 x4 x2 x5 x6 s0 T L) (fun q => fv T0 q.2.1) := by
  unfold fJ_X6_takeDown_J126
  refine Ep_ite (fun _ => ?_) (fun _ => ?_)
  · refine Ep_lt (fun y32 ey32 => ?_)
    exact hk53 x2 s0 y32 T L hT
  · refine Ep_lt (fun y33 ey33 => ?_)
    refine Ep_ck ?_
    refine Ep_lt (fun T_35 eT_35 => ?_)
    have hT_35 : fv T0 T_35 := by rw [eT_35]; exact fv_s hT (by omega)
    refine Ep_any (fun r36 => ?_)
    refine Ep_lt (fun T_39 eT_39 => ?_)
    have hT_39 : fv T0 T_39 := by rw [eT_39]; exact fv_s hT_35 (by omega)
    refine Ep_bd (fv_X6_takeAway T_39 P x5 (2 : Int32) hT_39) (fun T_40 hT_40 => ?_)
    refine Ep_lt (fun y43 ey43 => ?_)
    exact hk53 y33 s0 y43 T_40 L hT_40
set_option maxHeartbeats 1000000 in
set_option maxRecDepth 100000 in
theorem fvB_X6_takeDown_L53 {T0 : Tr} (k7 : Int32 → Int32 → Int32 → Tr → Lo → Option (Int32 × Tr × Lo)) (P : Tr) (x1 : Int32) (x4 : Int32)  (hk7 : ∀ (x2 : Int32) (x3 : Int32) (x4 : Int32) (T : Tr) (L : Lo), fv T0 T → Ep (k7 x2 x3 x4 T L) (fun q => fv T0 q.2.1))  (N : Nat) : ∀ (x2 : Int32) (x3 : Int32) (x5 : Int32) (T : Tr) (L : Lo), fv T0 T → Ep (lpF (fun _ _ _ _ _ => none) (fB_X6_takeDown_L53 k7 P x1 x4) N x2 x3 x5 T L) (fun q => fv T0 q.2.1) := by
  induction N with
  | zero => intro x2 x3 x5 T L _; exact Ep_none
  | succ N ih =>
    intro x2 x3 x5 T L hT
    show Ep (fB_X6_takeDown_L53 k7 P x1 x4 (lpF (fun _ _ _ _ _ => none) (fB_X6_takeDown_L53 k7 P x1 x4) N) x2 x3 x5 T L) _
    have hk53 := ih
    clear ih
    generalize lpF (fun _ _ _ _ _ => none) (fB_X6_takeDown_L53 k7 P x1 x4) N = k53 at hk53 ⊢
    unfold fB_X6_takeDown_L53
    refine Ep_ite (fun _ => ?_) (fun _ => ?_)
    · exact fvJ_X6_takeDown_J176 k7 P x1 x2 x3 x4 T L hT hk7
    · refine Ep_ite (fun _ => ?_) (fun _ => ?_)
      · exact fvJ_X6_takeDown_J176 k7 P x1 x2 x3 x4 T L hT hk7
      · refine Ep_ck ?_
        refine Ep_ite (fun _ => ?_) (fun _ => ?_)
        · refine Ep_ite (fun _ => ?_) (fun _ => ?_)
          · refine Ep_ck ?_
            refine Ep_bd (fv_X6_secondsFor T P L x5 (T 10 x4.toNatClampNeg) hT) (fun q hq => ?_)
            refine Ep_lt (fun r25 er25 => ?_)
            refine Ep_lt (fun T_26 eT_26 => ?_)
            have hT_26 : fv T0 T_26 := by rw [eT_26]; exact hq
            refine Ep_lt (fun L_27 eL_27 => ?_)
            refine Ep_ite (fun _ => ?_) (fun _ => ?_)
            · exact fvJ_X6_takeDown_J126 k7 k53 P x1 x4 x2 x5 r25 0 T_26 L_27 hT_26 hk7 hk53
            · exact fvJ_X6_takeDown_J126 k7 k53 P x1 x4 x2 x5 r25 1 T_26 L_27 hT_26 hk7 hk53
          · refine Ep_lt (fun y44 ey44 => ?_)
            exact hk53 x2 x3 y44 T L hT
        · refine Ep_lt (fun y22 ey22 => ?_)
          exact hk53 x2 x3 y22 T L hT
set_option maxHeartbeats 1000000 in
set_option maxRecDepth 100000 in
theorem fvL_X6_takeDown_L53 {T0 : Tr} (k7 : Int32 → Int32 → Int32 → Tr → Lo → Option (Int32 × Tr × Lo)) (P : Tr) (x1 : Int32) (x4 : Int32)  (hk7 : ∀ (x2 : Int32) (x3 : Int32) (x4 : Int32) (T : Tr) (L : Lo), fv T0 T → Ep (k7 x2 x3 x4 T L) (fun q => fv T0 q.2.1))  (x2 : Int32) (x3 : Int32) (x5 : Int32) (T : Tr) (L : Lo) (hT : fv T0 T) : Ep (fL_X6_takeDown_L53 k7 P x1 x4 x2 x3 x5 T L) (fun q => fv T0 q.2.1) := by
  unfold fL_X6_takeDown_L53
  exact fvB_X6_takeDown_L53 k7 P x1 x4 hk7 2000 x2 x3 x5 T L hT
set_option maxHeartbeats 1000000 in
set_option maxRecDepth 100000 in
theorem fvB_X6_takeDown_L7 {T0 : Tr} (P : Tr) (x1 : Int32)    (N : Nat) : ∀ (x2 : Int32) (x3 : Int32) (x4 : Int32) (T : Tr) (L : Lo), fv T0 T → Ep (lpF (fun _ _ _ _ _ => none) (fB_X6_takeDown_L7 P x1) N x2 x3 x4 T L) (fun q => fv T0 q.2.1) := by
  induction N with
  | zero => intro x2 x3 x4 T L _; exact Ep_none
  | succ N ih =>
    intro x2 x3 x4 T L hT
    show Ep (fB_X6_takeDown_L7 P x1 (lpF (fun _ _ _ _ _ => none) (fB_X6_takeDown_L7 P x1) N) x2 x3 x4 T L) _
    have hk7 := ih
    clear ih
    generalize lpF (fun _ _ _ _ _ => none) (fB_X6_takeDown_L7 P x1) N = k7 at hk7 ⊢
    unfold fB_X6_takeDown_L7
    refine Ep_ite (fun _ => ?_) (fun _ => ?_)
    · exact Ep_some hT
    · refine Ep_ck ?_
      refine Ep_ite (fun _ => ?_) (fun _ => ?_)
      · refine Ep_ite (fun _ => ?_) (fun _ => ?_)
        · exact fvL_X6_takeDown_L53 k7 P x1 x4 hk7 x2 x3 0 T L hT
        · refine Ep_lt (fun y45 ey45 => ?_)
          exact hk7 x2 x3 y45 T L hT
      · refine Ep_lt (fun y4 ey4 => ?_)
        exact hk7 x2 x3 y4 T L hT
set_option maxHeartbeats 1000000 in
set_option maxRecDepth 100000 in
theorem fvL_X6_takeDown_L7 {T0 : Tr} (P : Tr) (x1 : Int32)    (x2 : Int32) (x3 : Int32) (x4 : Int32) (T : Tr) (L : Lo) (hT : fv T0 T) : Ep (fL_X6_takeDown_L7 P x1 x2 x3 x4 T L) (fun q => fv T0 q.2.1) := by
  unfold fL_X6_takeDown_L7
  exact fvB_X6_takeDown_L7 P x1 2000 x2 x3 x4 T L hT
set_option maxHeartbeats 1000000 in
set_option maxRecDepth 100000 in
theorem fv_X6_takeDown {T0 : Tr} (T : Tr) (P : Tr) (L : Lo) (x1 : Int32) (hT : fv T0 T)   : Ep (f_X6_takeDown T P L x1) (fun q => fv T0 q.2.1) := by
  unfold f_X6_takeDown
  exact fvL_X6_takeDown_L7 P x1 0 1 0 T L hT
set_option maxHeartbeats 1000000 in
set_option maxRecDepth 100000 in
theorem fv_X6_putOn {T0 : Tr} (T : Tr) (P : Tr) (x1 : Int32) (x2 : Int32) (hT : fv T0 T)   : Ep (f_X6_putOn T P x1 x2) (fun q => fv T0 q) := by
  unfold f_X6_putOn
  refine Ep_ck ?_
  refine Ep_lt (fun y2 ey2 => ?_)
  refine Ep_ite (fun _ => ?_) (fun _ => ?_)
  · exact Ep_some hT
  · refine Ep_ck ?_
    refine Ep_lt (fun T_5 eT_5 => ?_)
    have hT_5 : fv T0 T_5 := by rw [eT_5]; exact fv_s hT (by omega)
    refine Ep_lt (fun T_6 eT_6 => ?_)
    have hT_6 : fv T0 T_6 := by rw [eT_6]; exact fv_s hT_5 (by omega)
    refine Ep_ck ?_
    refine Ep_lt (fun T_8 eT_8 => ?_)
    have hT_8 : fv T0 T_8 := by rw [eT_8]; exact fv_s hT_6 (by omega)
    refine Ep_lt (fun T_9 eT_9 => ?_)
    have hT_9 : fv T0 T_9 := by rw [eT_9]; exact fv_s hT_8 (by omega)
    refine Ep_lt (fun T_10 eT_10 => ?_)
    have hT_10 : fv T0 T_10 := by rw [eT_10]; exact fv_s hT_9 (by omega)
    exact Ep_some hT_10
set_option maxHeartbeats 1000000 in
set_option maxRecDepth 100000 in
theorem fvJ_X6_stow_J31 {T0 : Tr} (P : Tr) (x1 : Int32) (x2 : Int32) (T : Tr) (hT : fv T0 T)   : Ep (fJ_X6_stow_J31 P x1 x2 T) (fun q => fv T0 q) := by
  unfold fJ_X6_stow_J31
  refine Ep_ite (fun _ => ?_) (fun _ => ?_)
  · refine Ep_bd (fv_X6_putOn T P x2 x1 hT) (fun T_9 hT_9 => ?_)
    exact Ep_some hT_9
  · refine Ep_ck ?_
    refine Ep_lt (fun T_13 eT_13 => ?_)
    have hT_13 : fv T0 T_13 := by rw [eT_13]; exact fv_s hT (by omega)
    exact Ep_some hT_13
set_option maxHeartbeats 1000000 in
set_option maxRecDepth 100000 in
theorem fv_X6_stow {T0 : Tr} (T : Tr) (P : Tr) (x1 : Int32) (hT : fv T0 T)   : Ep (f_X6_stow T P x1) (fun q => fv T0 q) := by
  unfold f_X6_stow
  refine Ep_ck ?_
  refine Ep_lt (fun y2 ey2 => ?_)
  refine Ep_ite (fun _ => ?_) (fun _ => ?_)
  · refine Ep_any (fun r4 => ?_)
    refine Ep_ite (fun _ => ?_) (fun _ => ?_)
    · exact fvJ_X6_stow_J31 P x1 (-1) T hT
    · exact fvJ_X6_stow_J31 P x1 y2 T hT
  · refine Ep_any (fun r14 => ?_)
    exact fvJ_X6_stow_J31 P x1 r14 T hT
set_option maxHeartbeats 1000000 in
set_option maxRecDepth 100000 in
theorem fvB_X6_getIn_L47 {T0 : Tr} (k2 : Int32 → Tr → Option (Tr)) (P : Tr) (x1 : Int32)  (hk2 : ∀ (x1 : Int32) (T : Tr), fv T0 T → Ep (k2 x1 T) (fun q => fv T0 q))  (N : Nat) : ∀ (x2 : Int32) (T : Tr), fv T0 T → Ep (lpF (fun _ _ => none) (fB_X6_getIn_L47 k2 P x1) N x2 T) (fun q => fv T0 q) := by
  induction N with
  | zero => intro x2 T _; exact Ep_none
  | succ N ih =>
    intro x2 T hT
    show Ep (fB_X6_getIn_L47 k2 P x1 (lpF (fun _ _ => none) (fB_X6_getIn_L47 k2 P x1) N) x2 T) _
    have hk47 := ih
    clear ih
    generalize lpF (fun _ _ => none) (fB_X6_getIn_L47 k2 P x1) N = k47 at hk47 ⊢
    unfold fB_X6_getIn_L47
    refine Ep_ite (fun _ => ?_) (fun _ => ?_)
    · refine Ep_lt (fun y8 ey8 => ?_)
      exact hk2 y8 T hT
    · refine Ep_ck ?_
      refine Ep_ite (fun _ => ?_) (fun _ => ?_)
      · refine Ep_bd (fv_X6_stow T P x2 hT) (fun T_12 hT_12 => ?_)
        refine Ep_lt (fun y15 ey15 => ?_)
        exact hk47 y15 T_12 hT_12
      · refine Ep_lt (fun y11 ey11 => ?_)
        exact hk47 y11 T hT
set_option maxHeartbeats 1000000 in
set_option maxRecDepth 100000 in
theorem fvL_X6_getIn_L47 {T0 : Tr} (k2 : Int32 → Tr → Option (Tr)) (P : Tr) (x1 : Int32)  (hk2 : ∀ (x1 : Int32) (T : Tr), fv T0 T → Ep (k2 x1 T) (fun q => fv T0 q))  (x2 : Int32) (T : Tr) (hT : fv T0 T) : Ep (fL_X6_getIn_L47 k2 P x1 x2 T) (fun q => fv T0 q) := by
  unfold fL_X6_getIn_L47
  exact fvB_X6_getIn_L47 k2 P x1 hk2 2000 x2 T hT
set_option maxHeartbeats 1000000 in
set_option maxRecDepth 100000 in
theorem fvB_X6_getIn_L2 {T0 : Tr} (P : Tr)    (N : Nat) : ∀ (x1 : Int32) (T : Tr), fv T0 T → Ep (lpF (fun _ _ => none) (fB_X6_getIn_L2 P) N x1 T) (fun q => fv T0 q) := by
  induction N with
  | zero => intro x1 T _; exact Ep_none
  | succ N ih =>
    intro x1 T hT
    show Ep (fB_X6_getIn_L2 P (lpF (fun _ _ => none) (fB_X6_getIn_L2 P) N) x1 T) _
    have hk2 := ih
    clear ih
    generalize lpF (fun _ _ => none) (fB_X6_getIn_L2 P) N = k2 at hk2 ⊢
    unfold fB_X6_getIn_L2
    refine Ep_ite (fun _ => ?_) (fun _ => ?_)
    · exact Ep_some hT
    · refine Ep_ck ?_
      refine Ep_ite (fun _ => ?_) (fun _ => ?_)
      · refine Ep_ite (fun _ => ?_) (fun _ => ?_)
        · refine Ep_lt (fun T_6 eT_6 => ?_)
          have hT_6 : fv T0 T_6 := by rw [eT_6]; exact fv_s hT (by omega)
          exact fvL_X6_getIn_L47 k2 P x1 hk2 0 T_6 hT_6
        · refine Ep_lt (fun y16 ey16 => ?_)
          exact hk2 y16 T hT
      · refine Ep_lt (fun y4 ey4 => ?_)
        exact hk2 y4 T hT
set_option maxHeartbeats 1000000 in
set_option maxRecDepth 100000 in
theorem fvL_X6_getIn_L2 {T0 : Tr} (P : Tr)    (x1 : Int32) (T : Tr) (hT : fv T0 T) : Ep (fL_X6_getIn_L2 P x1 T) (fun q => fv T0 q) := by
  unfold fL_X6_getIn_L2
  exact fvB_X6_getIn_L2 P 2000 x1 T hT
set_option maxHeartbeats 1000000 in
set_option maxRecDepth 100000 in
theorem fv_X6_getIn {T0 : Tr} (T : Tr) (P : Tr) (hT : fv T0 T)   : Ep (f_X6_getIn T P) (fun q => fv T0 q) := by
  unfold f_X6_getIn
  exact fvL_X6_getIn_L2 P 0 T hT
set_option maxHeartbeats 1000000 in
set_option maxRecDepth 100000 in
theorem fvJ_X6_fallPercent_J57 {T0 : Tr} (P : Tr) (s0 : Int64) (T : Tr) (L : Lo) (hT : fv T0 T)   : Ep (fJ_X6_fallPercent_J57 P s0 T L) (fun q => fv T0 q.2.1) := by
  unfold fJ_X6_fallPercent_J57
  refine Ep_any (fun r12 => ?_)
  exact Ep_some hT
set_option maxHeartbeats 1000000 in
set_option maxRecDepth 100000 in
theorem fv_X6_fallPercent {T0 : Tr} (T : Tr) (P : Tr) (L : Lo) (x1 : Int32) (hT : fv T0 T)   : Ep (f_X6_fallPercent T P L x1) (fun q => fv T0 q.2.1) := by
  unfold f_X6_fallPercent
  refine Ep_ck ?_
  refine Ep_ck ?_
  refine Ep_bd (fv_X6_worked T P L (1 : Int32) x1 (T 10 (P 14 x1.toNatClampNeg).toNatClampNeg) hT) (fun q hq => ?_)
  refine Ep_lt (fun r3 er3 => ?_)
  refine Ep_lt (fun T_4 eT_4 => ?_)
  have hT_4 : fv T0 T_4 := by rw [eT_4]; exact hq
  refine Ep_lt (fun L_5 eL_5 => ?_)
  refine Ep_ite (fun _ => ?_) (fun _ => ?_)
  · refine Ep_any (fun r9 => ?_)
    exact fvJ_X6_fallPercent_J57 P ((((T_4 0 4) + ((10 : Int32) * r9)) - (P 15 x1.toNatClampNeg)).toInt64) T_4 L_5 hT_4
  · exact fvJ_X6_fallPercent_J57 P r3 T_4 L_5 hT_4
set_option maxHeartbeats 1000000 in
set_option maxRecDepth 100000 in
theorem fv_X6_happens {T0 : Tr} (T : Tr) (x1 : Int32) (hT : fv T0 T)   : Ep (f_X6_happens T x1) (fun q => fv T0 q.2) := by
  unfold f_X6_happens
  refine Ep_ite (fun _ => ?_) (fun _ => ?_)
  · refine Ep_ite (fun _ => ?_) (fun _ => ?_)
    · exact Ep_some hT
    · exact Ep_some hT
  · refine Ep_lt (fun T_2 eT_2 => ?_)
    have hT_2 : fv T0 T_2 := by rw [eT_2]; exact fv_s hT (by omega)
    refine Ep_ite (fun _ => ?_) (fun _ => ?_)
    · exact Ep_some hT_2
    · exact Ep_some hT_2
set_option maxHeartbeats 1000000 in
set_option maxRecDepth 100000 in
theorem fvB_X6_fallOff_L4 {T0 : Tr} (P : Tr)    (N : Nat) : ∀ (x1 : Int32) (x2 : Int32) (T : Tr) (L : Lo), fv T0 T → Ep (lpF (fun _ _ _ _ => none) (fB_X6_fallOff_L4 P) N x1 x2 T L) (fun q => fv T0 q.2.1) := by
  induction N with
  | zero => intro x1 x2 T L _; exact Ep_none
  | succ N ih =>
    intro x1 x2 T L hT
    show Ep (fB_X6_fallOff_L4 P (lpF (fun _ _ _ _ => none) (fB_X6_fallOff_L4 P) N) x1 x2 T L) _
    have hk4 := ih
    clear ih
    generalize lpF (fun _ _ _ _ => none) (fB_X6_fallOff_L4 P) N = k4 at hk4 ⊢
    unfold fB_X6_fallOff_L4
    refine Ep_ite (fun _ => ?_) (fun _ => ?_)
    · exact Ep_some hT
    · refine Ep_ite (fun _ => ?_) (fun _ => ?_)
      · exact Ep_some hT
      · refine Ep_any (fun r3 => ?_)
        refine Ep_ite (fun _ => ?_) (fun _ => ?_)
        · refine Ep_lt (fun y7 ey7 => ?_)
          exact hk4 x1 y7 T L hT
        · refine Ep_any (fun r8 => ?_)
          refine Ep_ite (fun _ => ?_) (fun _ => ?_)
          · refine Ep_lt (fun y12 ey12 => ?_)
            exact hk4 x1 y12 T L hT
          · refine Ep_bd (fv_X6_fallPercent T P L r3 hT) (fun q hq => ?_)
            refine Ep_lt (fun r13 er13 => ?_)
            refine Ep_lt (fun T_14 eT_14 => ?_)
            have hT_14 : fv T0 T_14 := by rw [eT_14]; exact hq
            refine Ep_lt (fun L_15 eL_15 => ?_)
            refine Ep_bd (fv_X6_happens T_14 r13 hT_14) (fun q hq => ?_)
            refine Ep_lt (fun r18 er18 => ?_)
            refine Ep_lt (fun T_19 eT_19 => ?_)
            have hT_19 : fv T0 T_19 := by rw [eT_19]; exact hq
            refine Ep_ite (fun _ => ?_) (fun _ => ?_)
            · refine Ep_lt (fun y23 ey23 => ?_)
              exact hk4 x1 y23 T_19 L_15 hT_19
            · refine Ep_bd (fv_X6_takeAway T_19 P r3 (3 : Int32) hT_19) (fun T_24 hT_24 => ?_)
              refine Ep_lt (fun y27 ey27 => ?_)
              refine Ep_lt (fun y28 ey28 => ?_)
              exact hk4 y27 y28 T_24 L_15 hT_24
set_option maxHeartbeats 1000000 in
set_option maxRecDepth 100000 in
theorem fvL_X6_fallOff_L4 {T0 : Tr} (P : Tr)    (x1 : Int32) (x2 : Int32) (T : Tr) (L : Lo) (hT : fv T0 T) : Ep (fL_X6_fallOff_L4 P x1 x2 T L) (fun q => fv T0 q.2.1) := by
  unfold fL_X6_fallOff_L4
  exact fvB_X6_fallOff_L4 P 2000 x1 x2 T L hT
set_option maxHeartbeats 1000000 in
set_option maxRecDepth 100000 in
theorem fv_X6_fallOff {T0 : Tr} (T : Tr) (P : Tr) (L : Lo) (hT : fv T0 T)   : Ep (f_X6_fallOff T P L) (fun q => fv T0 q.2.1) := by
  unfold f_X6_fallOff
  exact fvL_X6_fallOff_L4 P 0 0 T L hT
set_option maxHeartbeats 1000000 in
set_option maxRecDepth 100000 in
theorem fv_X6_stealPercent {T0 : Tr} (T : Tr) (P : Tr) (L : Lo) (x1 : Int32) (hT : fv T0 T)   : Ep (f_X6_stealPercent T P L x1) (fun q => fv T0 q.2.1) := by
  unfold f_X6_stealPercent
  refine Ep_ck ?_
  refine Ep_ck ?_
  refine Ep_bd (fv_X6_worked T P L (2 : Int32) x1 (T 10 (P 14 x1.toNatClampNeg).toNatClampNeg) hT) (fun q hq => ?_)
  refine Ep_lt (fun r3 er3 => ?_)
  refine Ep_lt (fun T_4 eT_4 => ?_)
  have hT_4 : fv T0 T_4 := by rw [eT_4]; exact hq
  refine Ep_lt (fun L_5 eL_5 => ?_)
  refine Ep_ite (fun _ => ?_) (fun _ => ?_)
  · exact Ep_some hT_4
  · refine Ep_any (fun r9 => ?_)
    exact Ep_some hT_4
set_option maxHeartbeats 1000000 in
set_option maxRecDepth 100000 in
theorem fvB_X6_stealAway_L2 {T0 : Tr} (P : Tr)    (N : Nat) : ∀ (x1 : Int32) (T : Tr) (L : Lo), fv T0 T → Ep (lpF (fun _ _ _ => none) (fB_X6_stealAway_L2 P) N x1 T L) (fun q => fv T0 q.1) := by
  induction N with
  | zero => intro x1 T L _; exact Ep_none
  | succ N ih =>
    intro x1 T L hT
    show Ep (fB_X6_stealAway_L2 P (lpF (fun _ _ _ => none) (fB_X6_stealAway_L2 P) N) x1 T L) _
    have hk2 := ih
    clear ih
    generalize lpF (fun _ _ _ => none) (fB_X6_stealAway_L2 P) N = k2 at hk2 ⊢
    unfold fB_X6_stealAway_L2
    refine Ep_ite (fun _ => ?_) (fun _ => ?_)
    · exact Ep_some hT
    · refine Ep_ite (fun _ => ?_) (fun _ => ?_)
      · exact Ep_some hT
      · refine Ep_ck ?_
        refine Ep_lt (fun y4 ey4 => ?_)
        refine Ep_ite (fun _ => ?_) (fun _ => ?_)
        · refine Ep_lt (fun y6 ey6 => ?_)
          exact hk2 y6 T L hT
        · refine Ep_ck ?_
          refine Ep_ite (fun _ => ?_) (fun _ => ?_)
          · refine Ep_bd (fv_X6_stealPercent T P L x1 hT) (fun q hq => ?_)
            refine Ep_lt (fun r10 er10 => ?_)
            refine Ep_lt (fun T_11 eT_11 => ?_)
            have hT_11 : fv T0 T_11 := by rw [eT_11]; exact hq
            refine Ep_lt (fun L_12 eL_12 => ?_)
            refine Ep_bd (fv_X6_happens T_11 r10 hT_11) (fun q hq => ?_)
            refine Ep_lt (fun r15 er15 => ?_)
            refine Ep_lt (fun T_16 eT_16 => ?_)
            have hT_16 : fv T0 T_16 := by rw [eT_16]; exact hq
            refine Ep_ite (fun _ => ?_) (fun _ => ?_)
            · refine Ep_lt (fun y20 ey20 => ?_)
              exact hk2 y20 T_16 L_12 hT_16
            · refine Ep_bd (fv_X6_takeAway T_16 P x1 (4 : Int32) hT_16) (fun T_21 hT_21 => ?_)
              refine Ep_lt (fun y24 ey24 => ?_)
              exact hk2 y24 T_21 L_12 hT_21
          · refine Ep_lt (fun y9 ey9 => ?_)
            exact hk2 y9 T L hT
set_option maxHeartbeats 1000000 in
set_option maxRecDepth 100000 in
theorem fvL_X6_stealAway_L2 {T0 : Tr} (P : Tr)    (x1 : Int32) (T : Tr) (L : Lo) (hT : fv T0 T) : Ep (fL_X6_stealAway_L2 P x1 T L) (fun q => fv T0 q.1) := by
  unfold fL_X6_stealAway_L2
  exact fvB_X6_stealAway_L2 P 2000 x1 T L hT
set_option maxHeartbeats 1000000 in
set_option maxRecDepth 100000 in
theorem fv_X6_stealAway {T0 : Tr} (T : Tr) (P : Tr) (L : Lo) (hT : fv T0 T)   : Ep (f_X6_stealAway T P L) (fun q => fv T0 q.1) := by
  unfold f_X6_stealAway
  exact fvL_X6_stealAway_L2 P 0 T L hT
set_option maxHeartbeats 1000000 in
set_option maxRecDepth 100000 in
theorem fv_X6_wayOn {T0 : Tr} (T : Tr) (P : Tr) (L : Lo) (hT : fv T0 T)   : Ep (f_X6_wayOn T P L) (fun q => fv T0 q.1) := by
  unfold f_X6_wayOn
  refine Ep_bd (fv_X6_fallOff T P L hT) (fun q hq => ?_)
  refine Ep_lt (fun r1 er1 => ?_)
  refine Ep_lt (fun T_2 eT_2 => ?_)
  have hT_2 : fv T0 T_2 := by rw [eT_2]; exact hq
  refine Ep_lt (fun L_3 eL_3 => ?_)
  refine Ep_bd (fv_X6_stealAway T_2 P L_3 hT_2) (fun q hq => ?_)
  refine Ep_lt (fun T_6 eT_6 => ?_)
  have hT_6 : fv T0 T_6 := by rw [eT_6]; exact hq
  refine Ep_lt (fun L_7 eL_7 => ?_)
  refine Ep_lt (fun T_10 eT_10 => ?_)
  have hT_10 : fv T0 T_10 := by rw [eT_10]; exact fv_s hT_6 (by omega)
  exact Ep_some hT_10
set_option maxHeartbeats 1000000 in
set_option maxRecDepth 100000 in
theorem fv_X6_passStop {T0 : Tr} (T : Tr) (P : Tr) (L : Lo) (hT : fv T0 T)   : Ep (f_X6_passStop T P L) (fun q => fv T0 q.1) := by
  unfold f_X6_passStop
  refine Ep_ite (fun _ => ?_) (fun _ => ?_)
  · exact Ep_some hT
  · refine Ep_ck ?_
    refine Ep_bd (fv_X6_takeDown T P L (P 18 (T 0 0).toNatClampNeg) hT) (fun q hq => ?_)
    refine Ep_lt (fun r3 er3 => ?_)
    refine Ep_lt (fun T_4 eT_4 => ?_)
    have hT_4 : fv T0 T_4 := by rw [eT_4]; exact hq
    refine Ep_lt (fun L_5 eL_5 => ?_)
    refine Ep_bd (fv_X6_getIn T_4 P hT_4) (fun T_8 hT_8 => ?_)
    refine Ep_bd (fv_X6_wayOn T_8 P L_5 hT_8) (fun q hq => ?_)
    refine Ep_lt (fun T_11 eT_11 => ?_)
    have hT_11 : fv T0 T_11 := by rw [eT_11]; exact hq
    refine Ep_lt (fun L_12 eL_12 => ?_)
    exact Ep_some hT_11
set_option maxHeartbeats 1000000 in
set_option maxRecDepth 100000 in
theorem fw_X7_turn {T0 : Tr} (pa : Nat → Nat) (qa : Nat → Nat) (P : Tr) (Tn : Tr) (Tv : Tr) (C : Tr) (q0 : Nat) (q3 : Nat) (q4 : Nat) (x1 : Int32) (hTv : fv T0 Tv)   : Ep (f_X7_turn pa qa P Tn Tv C q0 q3 q4 x1) (fun q => fv T0 q.2.2.1) := by
  unfold f_X7_turn
  refine Ep_any (fun r1 => ?_)
  refine Ep_ite (fun _ => ?_) (fun _ => ?_)
  · exact Ep_some hTv
  · refine Ep_bd (Ep_mono (fv_cpy Tv Tn q3 q0) (fun r hr => fv_t hTv hr)) (fun q hq => ?_)
    refine Ep_lt (fun Tv_5 eTv_5 => ?_)
    have hTv_5 : fv T0 Tv_5 := by rw [eTv_5]; exact hq
    refine Ep_lt (fun q3_6 eq3_6 => ?_)
    refine Ep_ck ?_
    refine Ep_any (fun q => ?_)
    refine Ep_lt (fun r10 er10 => ?_)
    refine Ep_lt (fun Tn_11 eTn_11 => ?_)
    refine Ep_ite (fun _ => ?_) (fun _ => ?_)
    · exact Ep_some hTv_5
    · refine Ep_any (fun C_15 => ?_)
      exact Ep_some hTv_5
set_option maxHeartbeats 1000000 in
set_option maxRecDepth 100000 in
theorem fwJ_X7_findLeast_J138 {T0 : Tr} (k68 : Int32 → Int32 → Lo → Tr → Nat → Option (Int32 × Lo × Tr × Tr × Nat × Nat)) (pa : Nat → Nat) (qa : Nat → Nat) (X : Tr) (P : Tr) (Tn : Tr) (Tv : Tr) (q0 : Nat) (q3 : Nat) (q4 : Nat) (x1 : Int32) (x2 : Int32) (x3 : Int32) (x4 : Int32) (L : Lo) (Tu : Tr) (q2 : Nat) (hTv : fv T0 Tv) (hk68 : ∀ (x3 : Int32) (x4 : Int32) (L : Lo) (Tu : Tr) (q2 : Nat), Ep (k68 x3 x4 L Tu q2) (fun q => fv T0 q.2.2.2.1))  : Ep (fJ_X7_findLeast_J138 k68 pa qa X P Tn Tv q0 q3 q4 x1 x2 x3 x4 L Tu q2) (fun q => fv T0 q.2.2.2.1) := by
  unfold fJ_X7_findLeast_J138
  refine Ep_ck ?_
  refine Ep_any (fun Tu_26 => ?_)
  refine Ep_any (fun r29 => ?_)
  refine Ep_ite (fun _ => ?_) (fun _ => ?_)
  · refine Ep_any (fun q => ?_)
    refine Ep_lt (fun Tu_34 eTu_34 => ?_)
    refine Ep_lt (fun L_35 eL_35 => ?_)
    refine Ep_any (fun q => ?_)
    refine Ep_lt (fun Tu_38 eTu_38 => ?_)
    refine Ep_lt (fun L_39 eL_39 => ?_)
    refine Ep_lt (fun y42 ey42 => ?_)
    refine Ep_ite (fun _ => ?_) (fun _ => ?_)
    · refine Ep_lt (fun y44 ey44 => ?_)
      exact hk68 y42 y44 L_39 Tu_38 (pa 0)
    · refine Ep_ite (fun _ => ?_) (fun _ => ?_)
      · refine Ep_lt (fun y46 ey46 => ?_)
        exact hk68 x3 y46 L_39 Tu_38 (pa 0)
      · refine Ep_lt (fun y47 ey47 => ?_)
        exact hk68 y42 y47 L_39 Tu_38 (pa 0)
  · refine Ep_lt (fun y33 ey33 => ?_)
    exact hk68 x3 y33 L Tu_26 (pa 0)
set_option maxHeartbeats 1000000 in
set_option maxRecDepth 100000 in
theorem fwB_X7_findLeast_L99 {T0 : Tr} (k68 : Int32 → Int32 → Lo → Tr → Nat → Option (Int32 × Lo × Tr × Tr × Nat × Nat)) (pa : Nat → Nat) (qa : Nat → Nat) (X : Tr) (P : Tr) (L : Lo) (Tn : Tr) (Tv : Tr) (q0 : Nat) (q2 : Nat) (q3 : Nat) (q4 : Nat) (x1 : Int32) (x2 : Int32) (x3 : Int32) (x4 : Int32) (hTv : fv T0 Tv) (hk68 : ∀ (x3 : Int32) (x4 : Int32) (L : Lo) (Tu : Tr) (q2 : Nat), Ep (k68 x3 x4 L Tu q2) (fun q => fv T0 q.2.2.2.1))  (N : Nat) : ∀ (x5 : Int32) (Tu : Tr), Ep (lpF (fun _ _ => none) (fB_X7_findLeast_L99 k68 pa qa X P L Tn Tv q0 q2 q3 q4 x1 x2 x3 x4) N x5 Tu) (fun q => fv T0 q.2.2.2.1) := by
  induction N with
  | zero => intro x5 Tu; exact Ep_none
  | succ N ih =>
    intro x5 Tu
    show Ep (fB_X7_findLeast_L99 k68 pa qa X P L Tn Tv q0 q2 q3 q4 x1 x2 x3 x4 (lpF (fun _ _ => none) (fB_X7_findLeast_L99 k68 pa qa X P L Tn Tv q0 q2 q3 q4 x1 x2 x3 x4) N) x5 Tu) _
    have hk99 := ih
    clear ih
    generalize lpF (fun _ _ => none) (fB_X7_findLeast_L99 k68 pa qa X P L Tn Tv q0 q2 q3 q4 x1 x2 x3 x4) N = k99 at hk99 ⊢
    unfold fB_X7_findLeast_L99
    refine Ep_ite (fun _ => ?_) (fun _ => ?_)
    · exact fwJ_X7_findLeast_J138 k68 pa qa X P Tn Tv q0 q3 q4 x1 x2 x3 x4 L Tu q2 hTv hk68
    · refine Ep_ck ?_
      refine Ep_any (fun r49 => ?_)
      refine Ep_ck ?_
      refine Ep_lt (fun Tu_53 eTu_53 => ?_)
      refine Ep_lt (fun y54 ey54 => ?_)
      exact hk99 y54 Tu_53
set_option maxHeartbeats 1000000 in
set_option maxRecDepth 100000 in
theorem fwL_X7_findLeast_L99 {T0 : Tr} (k68 : Int32 → Int32 → Lo → Tr → Nat → Option (Int32 × Lo × Tr × Tr × Nat × Nat)) (pa : Nat → Nat) (qa : Nat → Nat) (X : Tr) (P : Tr) (L : Lo) (Tn : Tr) (Tv : Tr) (q0 : Nat) (q2 : Nat) (q3 : Nat) (q4 : Nat) (x1 : Int32) (x2 : Int32) (x3 : Int32) (x4 : Int32) (hTv : fv T0 Tv) (hk68 : ∀ (x3 : Int32) (x4 : Int32) (L : Lo) (Tu : Tr) (q2 : Nat), Ep (k68 x3 x4 L Tu q2) (fun q => fv T0 q.2.2.2.1))  (x5 : Int32) (Tu : Tr)  : Ep (fL_X7_findLeast_L99 k68 pa qa X P L Tn Tv q0 q2 q3 q4 x1 x2 x3 x4 x5 Tu) (fun q => fv T0 q.2.2.2.1) := by
  unfold fL_X7_findLeast_L99
  exact fwB_X7_findLeast_L99 k68 pa qa X P L Tn Tv q0 q2 q3 q4 x1 x2 x3 x4 hTv hk68 2000 x5 Tu
set_option maxHeartbeats 1000000 in
set_option maxRecDepth 100000 in
theorem fwJ_X7_findLeast_J85 {T0 : Tr} (k68 : Int32 → Int32 → Lo → Tr → Nat → Option (Int32 × Lo × Tr × Tr × Nat × Nat)) (pa : Nat → Nat) (qa : Nat → Nat) (X : Tr) (P : Tr) (Tn : Tr) (Tv : Tr) (q0 : Nat) (q3 : Nat) (q4 : Nat) (x1 : Int32) (x2 : Int32) (x3 : Int32) (x4 : Int32) (L : Lo) (Tu : Tr) (q2 : Nat) (hTv : fv T0 Tv) (hk68 : ∀ (x3 : Int32) (x4 : Int32) (L : Lo) (Tu : Tr) (q2 : Nat), Ep (k68 x3 x4 L Tu q2) (fun q => fv T0 q.2.2.2.1))  : Ep (fJ_X7_findLeast_J85 k68 pa qa X P Tn Tv q0 q3 q4 x1 x2 x3 x4 L Tu q2) (fun q => fv T0 q.2.2.2.1) := by
  unfold fJ_X7_findLeast_J85
  refine Ep_bd (fv_cpy Tu Tv q2 q3) (fun q hq => ?_)
  refine Ep_lt (fun Tu_20 eTu_20 => ?_)
  refine Ep_lt (fun q2_21 eq2_21 => ?_)
  exact fwL_X7_findLeast_L99 k68 pa qa X P L Tn Tv q0 q2_21 q3 q4 x1 x2 x3 x4 hTv hk68 0 Tu_20
set_option maxHeartbeats 1000000 in
set_option maxRecDepth 100000 in
theorem fwB_X7_findLeast_L68 {T0 : Tr} (pa : Nat → Nat) (qa : Nat → Nat) (X : Tr) (P : Tr) (Tn : Tr) (Tv : Tr) (q0 : Nat) (q3 : Nat) (q4 : Nat) (x1 : Int32) (x2 : Int32) (hTv : fv T0 Tv)   (N : Nat) : ∀ (x3 : Int32) (x4 : Int32) (L : Lo) (Tu : Tr) (q2 : Nat), Ep (lpF (fun _ _ _ _ _ => none) (fB_X7_findLeast_L68 pa qa X P Tn Tv q0 q3 q4 x1 x2) N x3 x4 L Tu q2) (fun q => fv T0 q.2.2.2.1) := by
  induction N with
  | zero => intro x3 x4 L Tu q2; exact Ep_none
  | succ N ih =>
    intro x3 x4 L Tu q2
    show Ep (fB_X7_findLeast_L68 pa qa X P Tn Tv q0 q3 q4 x1 x2 (lpF (fun _ _ _ _ _ => none) (fB_X7_findLeast_L68 pa qa X P Tn Tv q0 q3 q4 x1 x2) N) x3 x4 L Tu q2) _
    have hk68 := ih
    clear ih
    generalize lpF (fun _ _ _ _ _ => none) (fB_X7_findLeast_L68 pa qa X P Tn Tv q0 q3 q4 x1 x2) N = k68 at hk68 ⊢
    unfold fB_X7_findLeast_L68
    refine Ep_ite (fun _ => ?_) (fun _ => ?_)
    · exact Ep_some hTv
    · refine Ep_ite (fun _ => ?_) (fun _ => ?_)
      · exact fwJ_X7_findLeast_J85 k68 pa qa X P Tn Tv q0 q3 q4 x1 x2 x3 x4 L Tu q2 hTv hk68
      · refine Ep_ite (fun _ => ?_) (fun _ => ?_)
        · exact Ep_some hTv
        · exact fwJ_X7_findLeast_J85 k68 pa qa X P Tn Tv q0 q3 q4 x1 x2 x3 x4 L Tu q2 hTv hk68
set_option maxHeartbeats 1000000 in
set_option maxRecDepth 100000 in
theorem fwL_X7_findLeast_L68 {T0 : Tr} (pa : Nat → Nat) (qa : Nat → Nat) (X : Tr) (P : Tr) (Tn : Tr) (Tv : Tr) (q0 : Nat) (q3 : Nat) (q4 : Nat) (x1 : Int32) (x2 : Int32) (hTv : fv T0 Tv)   (x3 : Int32) (x4 : Int32) (L : Lo) (Tu : Tr) (q2 : Nat)  : Ep (fL_X7_findLeast_L68 pa qa X P Tn Tv q0 q3 q4 x1 x2 x3 x4 L Tu q2) (fun q => fv T0 q.2.2.2.1) := by
  unfold fL_X7_findLeast_L68
  exact fwB_X7_findLeast_L68 pa qa X P Tn Tv q0 q3 q4 x1 x2 hTv 2000 x3 x4 L Tu q2
set_option maxHeartbeats 1000000 in
set_option maxRecDepth 100000 in
theorem fwJ_X7_findLeast_J25 {T0 : Tr} (pa : Nat → Nat) (qa : Nat → Nat) (X : Tr) (P : Tr) (Tn : Tr) (q0 : Nat) (q4 : Nat) (x1 : Int32) (x2 : Int32) (L : Lo) (Tu : Tr) (Tv : Tr) (q2 : Nat) (q3 : Nat) (hTv : fv T0 Tv)   : Ep (fJ_X7_findLeast_J25 pa qa X P Tn q0 q4 x1 x2 L Tu Tv q2 q3) (fun q => fv T0 q.2.2.2.1) := by
  unfold fJ_X7_findLeast_J25
  refine Ep_any (fun q => ?_)
  refine Ep_lt (fun Tu_2 eTu_2 => ?_)
  refine Ep_lt (fun q2_3 eq2_3 => ?_)
  refine Ep_ck ?_
  refine Ep_ck ?_
  refine Ep_ck ?_
  refine Ep_bd (Ep_tr) (fun q hq => ?_)
  refine Ep_lt (fun r9 er9 => ?_)
  refine Ep_lt (fun Tu_10 eTu_10 => ?_)
  refine Ep_lt (fun L_11 eL_11 => ?_)
  refine Ep_bd (Ep_mono (fv_cpy Tv Tu_10 q3 (pa 0)) (fun r hr => fv_t hTv hr)) (fun q hq => ?_)
  refine Ep_lt (fun Tv_14 eTv_14 => ?_)
  have hTv_14 : fv T0 Tv_14 := by rw [eTv_14]; exact hq
  refine Ep_lt (fun q3_15 eq3_15 => ?_)
  exact fwL_X7_findLeast_L68 pa qa X P Tn Tv_14 q0 q3_15 (pa 0) x1 x2 hTv_14 (-1) 0 L_11 Tu_10 (pa 0)
set_option maxHeartbeats 1000000 in
set_option maxRecDepth 100000 in
theorem fwB_X7_findLeast_L4 {T0 : Tr} (pa : Nat → Nat) (qa : Nat → Nat) (X : Tr) (P : Tr) (L : Lo) (Tn : Tr) (Tu : Tr) (Tv : Tr) (q0 : Nat) (q2 : Nat) (q3 : Nat) (q4 : Nat) (x1 : Int32) (hTv : fv T0 Tv)   (N : Nat) : ∀ (x2 : Int32) (x3 : Int32), Ep (lpF (fun _ _ => none) (fB_X7_findLeast_L4 pa qa X P L Tn Tu Tv q0 q2 q3 q4 x1) N x2 x3) (fun q => fv T0 q.2.2.2.1) := by
  induction N with
  | zero => intro x2 x3; exact Ep_none
  | succ N ih =>
    intro x2 x3
    show Ep (fB_X7_findLeast_L4 pa qa X P L Tn Tu Tv q0 q2 q3 q4 x1 (lpF (fun _ _ => none) (fB_X7_findLeast_L4 pa qa X P L Tn Tu Tv q0 q2 q3 q4 x1) N) x2 x3) _
    have hk4 := ih
    clear ih
    generalize lpF (fun _ _ => none) (fB_X7_findLeast_L4 pa qa X P L Tn Tu Tv q0 q2 q3 q4 x1) N = k4 at hk4 ⊢
    unfold fB_X7_findLeast_L4
    refine Ep_ite (fun _ => ?_) (fun _ => ?_)
    · exact fwJ_X7_findLeast_J25 pa qa X P Tn q0 q4 x1 x2 L Tu Tv q2 q3 hTv
    · refine Ep_ck ?_
      refine Ep_lt (fun y57 ey57 => ?_)
      refine Ep_lt (fun y58 ey58 => ?_)
      exact hk4 y57 y58
set_option maxHeartbeats 1000000 in
set_option maxRecDepth 100000 in
theorem fwL_X7_findLeast_L4 {T0 : Tr} (pa : Nat → Nat) (qa : Nat → Nat) (X : Tr) (P : Tr) (L : Lo) (Tn : Tr) (Tu : Tr) (Tv : Tr) (q0 : Nat) (q2 : Nat) (q3 : Nat) (q4 : Nat) (x1 : Int32) (hTv : fv T0 Tv)   (x2 : Int32) (x3 : Int32)  : Ep (fL_X7_findLeast_L4 pa qa X P L Tn Tu Tv q0 q2 q3 q4 x1 x2 x3) (fun q => fv T0 q.2.2.2.1) := by
  unfold fL_X7_findLeast_L4
  exact fwB_X7_findLeast_L4 pa qa X P L Tn Tu Tv q0 q2 q3 q4 x1 hTv 2000 x2 x3
set_option maxHeartbeats 1000000 in
set_option maxRecDepth 100000 in
theorem fw_X7_findLeast {T0 : Tr} (pa : Nat → Nat) (qa : Nat → Nat) (X : Tr) (P : Tr) (L : Lo) (Tn : Tr) (Tu : Tr) (Tv : Tr) (q0 : Nat) (q2 : Nat) (q3 : Nat) (q4 : Nat) (x1 : Int32) (hTv : fv T0 Tv)   : Ep (f_X7_findLeast pa qa X P L Tn Tu Tv q0 q2 q3 q4 x1) (fun q => fv T0 q.2.2.2.1) := by
  unfold f_X7_findLeast
  exact fwL_X7_findLeast_L4 pa qa X P L Tn Tu Tv q0 q2 q3 q4 x1 hTv 1 0
set_option maxHeartbeats 1000000 in
set_option maxRecDepth 100000 in
theorem fw_X7_least {T0 : Tr} (pa : Nat → Nat) (qa : Nat → Nat) (X : Tr) (P : Tr) (L : Lo) (Tn : Tr) (Tu : Tr) (Tv : Tr) (q0 : Nat) (q2 : Nat) (q3 : Nat) (q4 : Nat) (x1 : Int32) (hTv : fv T0 Tv)   : Ep (f_X7_least pa qa X P L Tn Tu Tv q0 q2 q3 q4 x1) (fun q => fv T0 q.2.2.2.2.1) := by
  unfold f_X7_least
  refine Ep_ite (fun _ => ?_) (fun _ => ?_)
  · exact Ep_some hTv
  · refine Ep_ite (fun _ => ?_) (fun _ => ?_)
    · exact Ep_some hTv
    · refine Ep_ite (fun _ => ?_) (fun _ => ?_)
      · refine Ep_any (fun q => ?_)
        refine Ep_lt (fun r4 er4 => ?_)
        refine Ep_lt (fun X_5 eX_5 => ?_)
        refine Ep_ite (fun _ => ?_) (fun _ => ?_)
        · refine Ep_bd (fw_X7_findLeast pa qa X_5 P L Tn Tu Tv q0 q2 q3 q4 r4 hTv) (fun q hq => ?_)
          refine Ep_lt (fun r9 er9 => ?_)
          refine Ep_lt (fun L_10 eL_10 => ?_)
          refine Ep_lt (fun Tu_11 eTu_11 => ?_)
          refine Ep_lt (fun Tv_12 eTv_12 => ?_)
          have hTv_12 : fv T0 Tv_12 := by rw [eTv_12]; exact hq
          refine Ep_lt (fun q2_13 eq2_13 => ?_)
          refine Ep_lt (fun q3_14 eq3_14 => ?_)
          refine Ep_ite (fun _ => ?_) (fun _ => ?_)
          · refine Ep_ite (fun _ => ?_) (fun _ => ?_)
            · exact Ep_some hTv_12
            · refine Ep_ite (fun _ => ?_) (fun _ => ?_)
              · refine Ep_any (fun r20 => ?_)
                exact Ep_some hTv_12
              · exact Ep_some hTv_12
          · exact Ep_some hTv_12
        · exact Ep_some hTv
      · exact Ep_some hTv
set_option maxHeartbeats 1000000 in
set_option maxRecDepth 100000 in
theorem fwJ_X7_when_J132 {T0 : Tr} (k55 : Int32 → Int32 → Int32 → Lo → Tr → Tr → Nat → Option (Int32 × Lo × Tr × Tr × Nat × Nat)) (pa : Nat → Nat) (qa : Nat → Nat) (P : Tr) (Tn : Tr) (q0 : Nat) (q3 : Nat) (q4 : Nat) (x1 : Int32) (x2 : Int32) (x4 : Int32) (x5 : Int32) (x6 : Int32) (L : Lo) (Tu : Tr) (Tv : Tr) (q2 : Nat) (hTv : fv T0 Tv) (hk55 : ∀ (x4 : Int32) (x5 : Int32) (x6 : Int32) (L : Lo) (Tu : Tr) (Tv : Tr) (q2 : Nat), fv T0 Tv → Ep (k55 x4 x5 x6 L Tu Tv q2) (fun q => fv T0 q.2.2.2.1))  : Ep (fJ_X7_when_J132 k55 pa qa P Tn q0 q3 q4 x1 x2 x4 x5 x6 L Tu Tv q2) (fun q => fv T0 q.2.2.2.1) := by
  unfold fJ_X7_when_J132
  refine Ep_ck ?_
  refine Ep_bd (fv_X6_passStop Tv P L hTv) (fun q hq => ?_)
  refine Ep_lt (fun Tv_39 eTv_39 => ?_)
  have hTv_39 : fv T0 Tv_39 := by rw [eTv_39]; exact hq
  refine Ep_lt (fun L_40 eL_40 => ?_)
  refine Ep_lt (fun y43 ey43 => ?_)
  exact hk55 x4 x5 y43 L_40 Tu Tv_39 q2 hTv_39
set_option maxHeartbeats 1000000 in
set_option maxRecDepth 100000 in
theorem fwJ_X7_when_J130 {T0 : Tr} (k55 : Int32 → Int32 → Int32 → Lo → Tr → Tr → Nat → Option (Int32 × Lo × Tr × Tr × Nat × Nat)) (pa : Nat → Nat) (qa : Nat → Nat) (P : Tr) (Tn : Tr) (q0 : Nat) (q3 : Nat) (q4 : Nat) (x1 : Int32) (x2 : Int32) (x4 : Int32) (x6 : Int32) (s0 : Int32) (L : Lo) (Tu : Tr) (Tv : Tr) (q2 : Nat) (hTv : fv T0 Tv) (hk55 : ∀ (x4 : Int32) (x5 : Int32) (x6 : Int32) (L : Lo) (Tu : Tr) (Tv : Tr) (q2 : Nat), fv T0 Tv → Ep (k55 x4 x5 x6 L Tu Tv q2) (fun q => fv T0 q.2.2.2.1))  : Ep (fJ_X7_when_J130 k55 pa qa P Tn q0 q3 q4 x1 x2 x4 x6 s0 L Tu Tv q2) (fun q => fv T0 q.2.2.2.1) := by
  unfold fJ_X7_when_J130
  exact fwJ_X7_when_J132 k55 pa qa P Tn q0 q3 q4 x1 x2 x4 s0 x6 L Tu Tv q2 hTv hk55
set_option maxHeartbeats 1000000 in
set_option maxRecDepth 100000 in
theorem fwB_X7_when_L55 {T0 : Tr} (pa : Nat → Nat) (qa : Nat → Nat) (P : Tr) (Tn : Tr) (q0 : Nat) (q3 : Nat) (q4 : Nat) (x1 : Int32) (x2 : Int32)    (N : Nat) : ∀ (x4 : Int32) (x5 : Int32) (x6 : Int32) (L : Lo) (Tu : Tr) (Tv : Tr) (q2 : Nat), fv T0 Tv → Ep (lpF (fun _ _ _ _ _ _ _ => none) (fB_X7_when_L55 pa qa P Tn q0 q3 q4 x1 x2) N x4 x5 x6 L Tu Tv q2) (fun q => fv T0 q.2.2.2.1) := by
  induction N with
  | zero => intro x4 x5 x6 L Tu Tv q2 _; exact Ep_none
  | succ N ih =>
    intro x4 x5 x6 L Tu Tv q2 hTv
    show Ep (fB_X7_when_L55 pa qa P Tn q0 q3 q4 x1 x2 (lpF (fun _ _ _ _ _ _ _ => none) (fB_X7_when_L55 pa qa P Tn q0 q3 q4 x1 x2) N) x4 x5 x6 L Tu Tv q2) _
    have hk55 := ih
    clear ih
    generalize lpF (fun _ _ _ _ _ _ _ => none) (fB_X7_when_L55 pa qa P Tn q0 q3 q4 x1 x2) N = k55 at hk55 ⊢
    unfold fB_X7_when_L55
    refine Ep_ite (fun _ => ?_) (fun _ => ?_)
    · exact Ep_some hTv
    · refine Ep_bd (fv_cpy Tu Tv q2 q3) (fun q hq => ?_)
      refine Ep_lt (fun Tu_22 eTu_22 => ?_)
      refine Ep_lt (fun q2_23 eq2_23 => ?_)
      refine Ep_ck ?_
      refine Ep_any (fun q => ?_)
      refine Ep_lt (fun r27 er27 => ?_)
      refine Ep_lt (fun Tu_28 eTu_28 => ?_)
      refine Ep_any (fun q => ?_)
      refine Ep_lt (fun r31 er31 => ?_)
      refine Ep_lt (fun L_32 eL_32 => ?_)
      refine Ep_lt (fun Tu_33 eTu_33 => ?_)
      refine Ep_ck ?_
      refine Ep_ite (fun _ => ?_) (fun _ => ?_)
      · exact fwJ_X7_when_J132 k55 pa qa P Tn q0 q3 q4 x1 x2 x4 x5 x6 L_32 Tu_33 Tv (pa 0) hTv hk55
      · refine Ep_lt (fun y44 ey44 => ?_)
        refine Ep_ite (fun _ => ?_) (fun _ => ?_)
        · exact fwJ_X7_when_J130 k55 pa qa P Tn q0 q3 q4 x1 x2 y44 x6 x6 L_32 Tu_33 Tv (pa 0) hTv hk55
        · exact fwJ_X7_when_J130 k55 pa qa P Tn q0 q3 q4 x1 x2 y44 x6 r31 L_32 Tu_33 Tv (pa 0) hTv hk55
set_option maxHeartbeats 1000000 in
set_option maxRecDepth 100000 in
theorem fwL_X7_when_L55 {T0 : Tr} (pa : Nat → Nat) (qa : Nat → Nat) (P : Tr) (Tn : Tr) (q0 : Nat) (q3 : Nat) (q4 : Nat) (x1 : Int32) (x2 : Int32)    (x4 : Int32) (x5 : Int32) (x6 : Int32) (L : Lo) (Tu : Tr) (Tv : Tr) (q2 : Nat) (hTv : fv T0 Tv) : Ep (fL_X7_when_L55 pa qa P Tn q0 q3 q4 x1 x2 x4 x5 x6 L Tu Tv q2) (fun q => fv T0 q.2.2.2.1) := by
  unfold fL_X7_when_L55
  exact fwB_X7_when_L55 pa qa P Tn q0 q3 q4 x1 x2 2000 x4 x5 x6 L Tu Tv q2 hTv
set_option maxHeartbeats 1000000 in
set_option maxRecDepth 100000 in
theorem fw_X7_when {T0 : Tr} (pa : Nat → Nat) (qa : Nat → Nat) (P : Tr) (L : Lo) (Tn : Tr) (Tu : Tr) (Tv : Tr) (q0 : Nat) (q2 : Nat) (q3 : Nat) (q4 : Nat) (x1 : Int32) (x2 : Int32) (hTv : fv T0 Tv)   : Ep (f_X7_when pa qa P L Tn Tu Tv q0 q2 q3 q4 x1 x2) (fun q => fv T0 q.2.2.2.1) := by
  unfold f_X7_when
  refine Ep_any (fun r1 => ?_)
  refine Ep_ite (fun _ => ?_) (fun _ => ?_)
  · exact Ep_some hTv
  · refine Ep_ite (fun _ => ?_) (fun _ => ?_)
    · exact Ep_some hTv
    · refine Ep_ite (fun _ => ?_) (fun _ => ?_)
      · refine Ep_any (fun q => ?_)
        refine Ep_lt (fun Tu_7 eTu_7 => ?_)
        refine Ep_lt (fun q2_8 eq2_8 => ?_)
        refine Ep_bd (Ep_mono (fv_cpy Tv Tu_7 q3 q2_8) (fun r hr => fv_t hTv hr)) (fun q hq => ?_)
        refine Ep_lt (fun Tv_11 eTv_11 => ?_)
        have hTv_11 : fv T0 Tv_11 := by rw [eTv_11]; exact hq
        refine Ep_lt (fun q3_12 eq3_12 => ?_)
        refine Ep_any (fun q => ?_)
        refine Ep_lt (fun r15 er15 => ?_)
        refine Ep_lt (fun L_16 eL_16 => ?_)
        refine Ep_lt (fun Tu_17 eTu_17 => ?_)
        refine Ep_lt (fun y20 ey20 => ?_)
        exact fwL_X7_when_L55 pa qa P Tn q0 q3_12 q4 x1 x2 r15 (-2) y20 L_16 Tu_17 Tv_11 q2_8 hTv_11
      · exact Ep_some hTv
set_option maxHeartbeats 1000000 in
set_option maxRecDepth 100000 in
theorem fwJ_X7_missed_J69 {T0 : Tr} (pa : Nat → Nat) (qa : Nat → Nat) (P : Tr) (Tn : Tr) (q0 : Nat) (q4 : Nat) (x1 : Int32) (x2 : Int32) (x3 : Int32) (L : Lo) (Tu : Tr) (Tv : Tr) (q2 : Nat) (q3 : Nat) (hTv : fv T0 Tv)   : Ep (fJ_X7_missed_J69 pa qa P Tn q0 q4 x1 x2 x3 L Tu Tv q2 q3) (fun q => fv T0 q.2.2.2.1) := by
  unfold fJ_X7_missed_J69
  refine Ep_ite (fun _ => ?_) (fun _ => ?_)
  · exact Ep_some hTv
  · refine Ep_ck ?_
    refine Ep_bd (fv_X6_takeDown Tv P L (1000000 : Int32) hTv) (fun q hq => ?_)
    refine Ep_lt (fun r35 er35 => ?_)
    refine Ep_lt (fun Tv_36 eTv_36 => ?_)
    have hTv_36 : fv T0 Tv_36 := by rw [eTv_36]; exact hq
    refine Ep_lt (fun L_37 eL_37 => ?_)
    refine Ep_ck ?_
    refine Ep_ck ?_
    exact Ep_some hTv_36
set_option maxHeartbeats 1000000 in
set_option maxRecDepth 100000 in
theorem fwB_X7_missed_L23 {T0 : Tr} (pa : Nat → Nat) (qa : Nat → Nat) (P : Tr) (Tn : Tr) (q0 : Nat) (q2 : Nat) (q4 : Nat) (x1 : Int32)    (N : Nat) : ∀ (x2 : Int32) (L : Lo) (Tu : Tr) (Tv : Tr) (q3 : Nat), fv T0 Tv → Ep (lpF (fun _ _ _ _ _ => none) (fB_X7_missed_L23 pa qa P Tn q0 q2 q4 x1) N x2 L Tu Tv q3) (fun q => fv T0 q.2.2.2.1) := by
  induction N with
  | zero => intro x2 L Tu Tv q3 _; exact Ep_none
  | succ N ih =>
    intro x2 L Tu Tv q3 hTv
    show Ep (fB_X7_missed_L23 pa qa P Tn q0 q2 q4 x1 (lpF (fun _ _ _ _ _ => none) (fB_X7_missed_L23 pa qa P Tn q0 q2 q4 x1) N) x2 L Tu Tv q3) _
    have hk23 := ih
    clear ih
    generalize lpF (fun _ _ _ _ _ => none) (fB_X7_missed_L23 pa qa P Tn q0 q2 q4 x1) N = k23 at hk23 ⊢
    unfold fB_X7_missed_L23
    refine Ep_ite (fun _ => ?_) (fun _ => ?_)
    · exact Ep_some hTv
    · refine Ep_bd (Ep_mono (fv_cpy Tv Tu q3 q2) (fun r hr => fv_t hTv hr)) (fun q hq => ?_)
      refine Ep_lt (fun Tv_9 eTv_9 => ?_)
      have hTv_9 : fv T0 Tv_9 := by rw [eTv_9]; exact hq
      refine Ep_lt (fun q3_10 eq3_10 => ?_)
      refine Ep_ck ?_
      refine Ep_ck ?_
      refine Ep_ck ?_
      refine Ep_bd (Ep_tr) (fun q hq => ?_)
      refine Ep_lt (fun r16 er16 => ?_)
      refine Ep_lt (fun Tu_17 eTu_17 => ?_)
      refine Ep_lt (fun L_18 eL_18 => ?_)
      refine Ep_any (fun r21 => ?_)
      refine Ep_ite (fun _ => ?_) (fun _ => ?_)
      · refine Ep_any (fun Tu_25 => ?_)
        refine Ep_any (fun q => ?_)
        refine Ep_lt (fun Tu_28 eTu_28 => ?_)
        refine Ep_lt (fun L_29 eL_29 => ?_)
        refine Ep_lt (fun y32 ey32 => ?_)
        exact hk23 y32 L_29 Tu_28 Tv_9 q3_10 hTv_9
      · exact fwJ_X7_missed_J69 pa qa P Tn q0 (pa 0) x1 x2 r21 L_18 Tu_17 Tv_9 (pa 0) q3_10 hTv_9
set_option maxHeartbeats 1000000 in
set_option maxRecDepth 100000 in
theorem fwL_X7_missed_L23 {T0 : Tr} (pa : Nat → Nat) (qa : Nat → Nat) (P : Tr) (Tn : Tr) (q0 : Nat) (q2 : Nat) (q4 : Nat) (x1 : Int32)    (x2 : Int32) (L : Lo) (Tu : Tr) (Tv : Tr) (q3 : Nat) (hTv : fv T0 Tv) : Ep (fL_X7_missed_L23 pa qa P Tn q0 q2 q4 x1 x2 L Tu Tv q3) (fun q => fv T0 q.2.2.2.1) := by
  unfold fL_X7_missed_L23
  exact fwB_X7_missed_L23 pa qa P Tn q0 q2 q4 x1 2000 x2 L Tu Tv q3 hTv
set_option maxHeartbeats 1000000 in
set_option maxRecDepth 100000 in
theorem fw_X7_missed {T0 : Tr} (pa : Nat → Nat) (qa : Nat → Nat) (P : Tr) (L : Lo) (Tn : Tr) (Tu : Tr) (Tv : Tr) (q0 : Nat) (q2 : Nat) (q3 : Nat) (q4 : Nat) (x1 : Int32) (hTv : fv T0 Tv)   : Ep (f_X7_missed pa qa P L Tn Tu Tv q0 q2 q3 q4 x1) (fun q => fv T0 q.2.2.2.1) := by
  unfold f_X7_missed
  refine Ep_ite (fun _ => ?_) (fun _ => ?_)
  · exact Ep_some hTv
  · refine Ep_ite (fun _ => ?_) (fun _ => ?_)
    · refine Ep_any (fun q => ?_)
      refine Ep_lt (fun Tu_3 eTu_3 => ?_)
      refine Ep_lt (fun q2_4 eq2_4 => ?_)
      refine Ep_lt (fun y7 ey7 => ?_)
      exact fwL_X7_missed_L23 pa qa P Tn q0 q2_4 q4 x1 y7 L Tu_3 Tv q3 hTv
    · exact Ep_some hTv
-- 62.zaz.68.z60
/-! when one gets in is as told, who is awaited has spent nothing: between calls -/
def t59 (S0 S : Tr) : Prop := ∀ j, S 59 j = S0 59 j ∧ S 60 j = S0 60 j
theorem t59_r {S : Tr} : t59 S S := fun _ => ⟨rfl, rfl⟩
theorem t59_s {S0 S : Tr} {a i : Nat} {v : Int32} (h : t59 S0 S) (hn : ¬ (a = 59 ∨ a = 60)) : t59 S0 (st S a i v) := fun j => by
  rw [st_oth (fun e => hn (Or.inl e.symm)), st_oth (fun e => hn (Or.inr e.symm))]; exact h j
set_option maxHeartbeats 1000000 in
set_option maxRecDepth 100000 in
theorem t9B_X8_put_84_L54 {S0 : Tr} (x2 : Int32)    (N : Nat) : ∀ (x3 : Int32) (S : Tr), t59 S0 S → Ep (lpF (fun _ _ => none) (fB_X8_put_84_L54 x2) N x3 S) (fun q => t59 S0 q) := by
  induction N with
  | zero => intro x3 S _; exact Ep_none
  | succ N ih =>
    intro x3 S hS
    show Ep (fB_X8_put_84_L54 x2 (lpF (fun _ _ => none) (fB_X8_put_84_L54 x2) N) x3 S) _
    have hk54 := ih
    clear ih
    generalize lpF (fun _ _ => none) (fB_X8_put_84_L54 x2) N = k54 at hk54 ⊢
    unfold fB_X8_put_84_L54
    refine Ep_ite (fun _ => ?_) (fun _ => ?_)
    · exact Ep_some hS
    · refine Ep_ck ?_
      refine Ep_ck ?_
      refine Ep_lt (fun S_6 eS_6 => ?_)
      have hS_6 : t59 S0 S_6 := by rw [eS_6]; exact t59_s hS (by omega)
      refine Ep_lt (fun y7 ey7 => ?_)
      exact hk54 y7 S_6 hS_6
set_option maxHeartbeats 1000000 in
set_option maxRecDepth 100000 in
theorem t9L_X8_put_84_L54 {S0 : Tr} (x2 : Int32)    (x3 : Int32) (S : Tr) (hS : t59 S0 S) : Ep (fL_X8_put_84_L54 x2 x3 S) (fun q => t59 S0 q) := by
  unfold fL_X8_put_84_L54
  exact t9B_X8_put_84_L54 x2 2000 x3 S hS
set_option maxHeartbeats 1000000 in
set_option maxRecDepth 100000 in
theorem t9B_X8_put_84_L27 {S0 : Tr} (x2 : Int32)    (N : Nat) : ∀ (x3 : Int32) (S : Tr), t59 S0 S → Ep (lpF (fun _ _ => none) (fB_X8_put_84_L27 x2) N x3 S) (fun q => t59 S0 q) := by
  induction N with
  | zero => intro x3 S _; exact Ep_none
  | succ N ih =>
    intro x3 S hS
    show Ep (fB_X8_put_84_L27 x2 (lpF (fun _ _ => none) (fB_X8_put_84_L27 x2) N) x3 S) _
    have hk27 := ih
    clear ih
    generalize lpF (fun _ _ => none) (fB_X8_put_84_L27 x2) N = k27 at hk27 ⊢
    unfold fB_X8_put_84_L27
    refine Ep_ite (fun _ => ?_) (fun _ => ?_)
    · exact t9L_X8_put_84_L54 x2 0 S hS
    · refine Ep_ck ?_
      refine Ep_ck ?_
      refine Ep_lt (fun S_10 eS_10 => ?_)
      have hS_10 : t59 S0 S_10 := by rw [eS_10]; exact t59_s hS (by omega)
      refine Ep_lt (fun y11 ey11 => ?_)
      exact hk27 y11 S_10 hS_10
set_option maxHeartbeats 1000000 in
set_option maxRecDepth 100000 in
theorem t9L_X8_put_84_L27 {S0 : Tr} (x2 : Int32)    (x3 : Int32) (S : Tr) (hS : t59 S0 S) : Ep (fL_X8_put_84_L27 x2 x3 S) (fun q => t59 S0 q) := by
  unfold fL_X8_put_84_L27
  exact t9B_X8_put_84_L27 x2 2000 x3 S hS
set_option maxHeartbeats 1000000 in
set_option maxRecDepth 100000 in
theorem t9B_X8_put_84_L2 {S0 : Tr} (x2 : Int32)    (N : Nat) : ∀ (x3 : Int32) (S : Tr), t59 S0 S → Ep (lpF (fun _ _ => none) (fB_X8_put_84_L2 x2) N x3 S) (fun q => t59 S0 q) := by
  induction N with
  | zero => intro x3 S _; exact Ep_none
  | succ N ih =>
    intro x3 S hS
    show Ep (fB_X8_put_84_L2 x2 (lpF (fun _ _ => none) (fB_X8_put_84_L2 x2) N) x3 S) _
    have hk2 := ih
    clear ih
    generalize lpF (fun _ _ => none) (fB_X8_put_84_L2 x2) N = k2 at hk2 ⊢
    unfold fB_X8_put_84_L2
    refine Ep_ite (fun _ => ?_) (fun _ => ?_)
    · exact t9L_X8_put_84_L27 x2 0 S hS
    · refine Ep_ck ?_
      refine Ep_ck ?_
      refine Ep_lt (fun S_14 eS_14 => ?_)
      have hS_14 : t59 S0 S_14 := by rw [eS_14]; exact t59_s hS (by omega)
      refine Ep_lt (fun y15 ey15 => ?_)
      exact hk2 y15 S_14 hS_14
set_option maxHeartbeats 1000000 in
set_option maxRecDepth 100000 in
theorem t9L_X8_put_84_L2 {S0 : Tr} (x2 : Int32)    (x3 : Int32) (S : Tr) (hS : t59 S0 S) : Ep (fL_X8_put_84_L2 x2 x3 S) (fun q => t59 S0 q) := by
  unfold fL_X8_put_84_L2
  exact t9B_X8_put_84_L2 x2 2000 x3 S hS
set_option maxHeartbeats 1000000 in
set_option maxRecDepth 100000 in
theorem t9_X8_put_84 {S0 : Tr} (S : Tr) (x2 : Int32) (hS : t59 S0 S)   : Ep (f_X8_put_84 S x2) (fun q => t59 S0 q) := by
  unfold f_X8_put_84
  exact t9L_X8_put_84_L2 x2 0 S hS
set_option maxHeartbeats 1000000 in
set_option maxRecDepth 100000 in
theorem t9J_X8_remember_J49 {S0 : Tr} (S : Tr) (hS : t59 S0 S)   : Ep (fJ_X8_remember_J49 S) (fun q => t59 S0 q) := by
  unfold fJ_X8_remember_J49
  refine Ep_bd (t9_X8_put_84 S ((61 : Int32) * (S 0 82)) hS) (fun S_2 hS_2 => ?_)
  refine Ep_lt (fun S_5 eS_5 => ?_)
  have hS_5 : t59 S0 S_5 := by rw [eS_5]; exact t59_s hS_2 (by omega)
  exact Ep_some hS_5
set_option maxHeartbeats 1000000 in
set_option maxRecDepth 100000 in
theorem t9J_X8_remember_J39 {S0 : Tr} (S : Tr) (hS : t59 S0 S)   : Ep (fJ_X8_remember_J39 S) (fun q => t59 S0 q) := by
  unfold fJ_X8_remember_J39
  refine Ep_lt (fun S_7 eS_7 => ?_)
  have hS_7 : t59 S0 S_7 := by rw [eS_7]; exact t59_s hS (by omega)
  exact t9J_X8_remember_J49 S_7 hS_7
set_option maxHeartbeats 1000000 in
set_option maxRecDepth 100000 in
theorem t9B_X8_remember_L11 {S0 : Tr}     (N : Nat) : ∀ (x1 : Int32) (S : Tr), t59 S0 S → Ep (lpF (fun _ _ => none) (fB_X8_remember_L11) N x1 S) (fun q => t59 S0 q) := by
  induction N with
  | zero => intro x1 S _; exact Ep_none
  | succ N ih =>
    intro x1 S hS
    show Ep (fB_X8_remember_L11 (lpF (fun _ _ => none) (fB_X8_remember_L11) N) x1 S) _
    have hk11 := ih
    clear ih
    generalize lpF (fun _ _ => none) (fB_X8_remember_L11) N = k11 at hk11 ⊢
    unfold fB_X8_remember_L11
    refine Ep_ite (fun _ => ?_) (fun _ => ?_)
    · exact t9J_X8_remember_J39 S hS
    · refine Ep_ck ?_
      refine Ep_ck ?_
      refine Ep_lt (fun S_10 eS_10 => ?_)
      have hS_10 : t59 S0 S_10 := by rw [eS_10]; exact t59_s hS (by omega)
      refine Ep_lt (fun y11 ey11 => ?_)
      exact hk11 y11 S_10 hS_10
set_option maxHeartbeats 1000000 in
set_option maxRecDepth 100000 in
theorem t9L_X8_remember_L11 {S0 : Tr}     (x1 : Int32) (S : Tr) (hS : t59 S0 S) : Ep (fL_X8_remember_L11 x1 S) (fun q => t59 S0 q) := by
  unfold fL_X8_remember_L11
  exact t9B_X8_remember_L11 2000 x1 S hS
set_option maxHeartbeats 1000000 in
set_option maxRecDepth 100000 in
theorem t9_X8_remember {S0 : Tr} (S : Tr) (hS : t59 S0 S)   : Ep (f_X8_remember S) (fun q => t59 S0 q) := by
  unfold f_X8_remember
  refine Ep_ite (fun _ => ?_) (fun _ => ?_)
  · exact t9L_X8_remember_L11 0 S hS
  · exact t9J_X8_remember_J49 S hS
set_option maxHeartbeats 1000000 in
set_option maxRecDepth 100000 in
theorem t9J_X8_takes_J96 {S0 : Tr} (x1 : Int32) (x2 : Int32) (x3 : Int32) (S : Tr) (hS : t59 S0 S)   : Ep (fJ_X8_takes_J96 x1 x2 x3 S) (fun q => t59 S0 q) := by
  unfold fJ_X8_takes_J96
  refine Ep_ck ?_
  refine Ep_lt (fun S_11 eS_11 => ?_)
  have hS_11 : t59 S0 S_11 := by rw [eS_11]; exact t59_s hS (by omega)
  refine Ep_lt (fun S_12 eS_12 => ?_)
  have hS_12 : t59 S0 S_12 := by rw [eS_12]; exact t59_s hS_11 (by omega)
  exact Ep_some hS_12
set_option maxHeartbeats 1000000 in
set_option maxRecDepth 100000 in
theorem t9B_X8_takes_L36 {S0 : Tr} (x1 : Int32) (x2 : Int32) (x3 : Int32) (x4 : Int32)    (N : Nat) : ∀ (x5 : Int32) (S : Tr), t59 S0 S → Ep (lpF (fun _ _ => none) (fB_X8_takes_L36 x1 x2 x3 x4) N x5 S) (fun q => t59 S0 q) := by
  induction N with
  | zero => intro x5 S _; exact Ep_none
  | succ N ih =>
    intro x5 S hS
    show Ep (fB_X8_takes_L36 x1 x2 x3 x4 (lpF (fun _ _ => none) (fB_X8_takes_L36 x1 x2 x3 x4) N) x5 S) _
    have hk36 := ih
    clear ih
    generalize lpF (fun _ _ => none) (fB_X8_takes_L36 x1 x2 x3 x4) N = k36 at hk36 ⊢
    unfold fB_X8_takes_L36
    refine Ep_ck ?_
    refine Ep_ite (fun _ => ?_) (fun _ => ?_)
    · exact t9J_X8_takes_J96 x1 x2 x3 S hS
    · refine Ep_ck ?_
      refine Ep_ck ?_
      refine Ep_lt (fun S_15 eS_15 => ?_)
      have hS_15 : t59 S0 S_15 := by rw [eS_15]; exact t59_s hS (by omega)
      refine Ep_lt (fun y16 ey16 => ?_)
      exact hk36 y16 S_15 hS_15
set_option maxHeartbeats 1000000 in
set_option maxRecDepth 100000 in
theorem t9L_X8_takes_L36 {S0 : Tr} (x1 : Int32) (x2 : Int32) (x3 : Int32) (x4 : Int32)    (x5 : Int32) (S : Tr) (hS : t59 S0 S) : Ep (fL_X8_takes_L36 x1 x2 x3 x4 x5 S) (fun q => t59 S0 q) := by
  unfold fL_X8_takes_L36
  exact t9B_X8_takes_L36 x1 x2 x3 x4 2000 x5 S hS
set_option maxHeartbeats 1000000 in
set_option maxRecDepth 100000 in
theorem t9_X8_takes {S0 : Tr} (S : Tr) (x1 : Int32) (x2 : Int32) (x3 : Int32) (hS : t59 S0 S)   : Ep (f_X8_takes S x1 x2 x3) (fun q => t59 S0 q) := by
  unfold f_X8_takes
  refine Ep_ck ?_
  refine Ep_lt (fun y2 ey2 => ?_)
  refine Ep_any (fun r3 => ?_)
  refine Ep_ck ?_
  refine Ep_lt (fun S_7 eS_7 => ?_)
  have hS_7 : t59 S0 S_7 := by rw [eS_7]; exact t59_s hS (by omega)
  exact t9L_X8_takes_L36 x1 x2 x3 y2 r3 S_7 hS_7
set_option maxHeartbeats 1000000 in
set_option maxRecDepth 100000 in
theorem t9_X8_lays {S0 : Tr} (S : Tr) (x1 : Int32) (x2 : Int32) (x3 : Int32) (hS : t59 S0 S)   : Ep (f_X8_lays S x1 x2 x3) (fun q => t59 S0 q) := by
  unfold f_X8_lays
  refine Ep_ck ?_
  refine Ep_ck ?_
  refine Ep_lt (fun S_3 eS_3 => ?_)
  have hS_3 : t59 S0 S_3 := by rw [eS_3]; exact t59_s hS (by omega)
  refine Ep_lt (fun S_4 eS_4 => ?_)
  have hS_4 : t59 S0 S_4 := by rw [eS_4]; exact t59_s hS_3 (by omega)
  refine Ep_ck ?_
  refine Ep_lt (fun S_6 eS_6 => ?_)
  have hS_6 : t59 S0 S_6 := by rw [eS_6]; exact t59_s hS_4 (by omega)
  refine Ep_lt (fun S_7 eS_7 => ?_)
  have hS_7 : t59 S0 S_7 := by rw [eS_7]; exact t59_s hS_6 (by omega)
  exact Ep_some hS_7
set_option maxHeartbeats 1000000 in
set_option maxRecDepth 100000 in
theorem t9J_X8_move_J67 {S0 : Tr} (x1 : Int32) (x2 : Int32) (S : Tr) (hS : t59 S0 S)   : Ep (fJ_X8_move_J67 x1 x2 S) (fun q => t59 S0 q.2) := by
  unfold fJ_X8_move_J67
  refine Ep_bd (t9_X8_remember S hS) (fun S_17 hS_17 => ?_)
  refine Ep_bd (t9_X8_takes S_17 (0 : Int32) x1 (1 : Int32) hS_17) (fun S_20 hS_20 => ?_)
  refine Ep_bd (t9_X8_lays S_20 (0 : Int32) x2 x1 hS_20) (fun S_23 hS_23 => ?_)
  exact Ep_some hS_23
set_option maxHeartbeats 1000000 in
set_option maxRecDepth 100000 in
theorem t9_X8_move {S0 : Tr} (S : Tr) (x1 : Int32) (x2 : Int32) (hS : t59 S0 S)   : Ep (f_X8_move S x1 x2) (fun q => t59 S0 q.2) := by
  unfold f_X8_move
  refine Ep_lt (fun S_1 eS_1 => ?_)
  have hS_1 : t59 S0 S_1 := by rw [eS_1]; exact t59_s hS (by omega)
  refine Ep_any (fun r2 => ?_)
  refine Ep_ite (fun _ => ?_) (fun _ => ?_)
  · exact Ep_some hS_1
  · refine Ep_any (fun r6 => ?_)
    refine Ep_ite (fun _ => ?_) (fun _ => ?_)
    · exact Ep_some hS_1
    · refine Ep_ck ?_
      refine Ep_ite (fun _ => ?_) (fun _ => ?_)
      · refine Ep_ite (fun _ => ?_) (fun _ => ?_)
        · refine Ep_any (fun r26 => ?_)
          refine Ep_ite (fun _ => ?_) (fun _ => ?_)
          · exact Ep_some hS_1
          · exact t9J_X8_move_J67 x1 x2 S_1 hS_1
        · refine Ep_any (fun r13 => ?_)
          refine Ep_ite (fun _ => ?_) (fun _ => ?_)
          · exact Ep_some hS_1
          · exact t9J_X8_move_J67 x1 x2 S_1 hS_1
      · exact Ep_some hS_1
set_option maxHeartbeats 1000000 in
set_option maxRecDepth 100000 in
theorem t9_X8_help {S0 : Tr} (S : Tr) (x1 : Int32) (x2 : Int32) (hS : t59 S0 S)   : Ep (f_X8_help S x1 x2) (fun q => t59 S0 q.2) := by
  unfold f_X8_help
  refine Ep_lt (fun S_1 eS_1 => ?_)
  have hS_1 : t59 S0 S_1 := by rw [eS_1]; exact t59_s hS (by omega)
  refine Ep_any (fun r2 => ?_)
  refine Ep_ite (fun _ => ?_) (fun _ => ?_)
  · exact Ep_some hS_1
  · refine Ep_any (fun r6 => ?_)
    refine Ep_ite (fun _ => ?_) (fun _ => ?_)
    · exact Ep_some hS_1
    · refine Ep_ck ?_
      refine Ep_ite (fun _ => ?_) (fun _ => ?_)
      · exact Ep_some hS_1
      · refine Ep_bd (t9_X8_remember S_1 hS_1) (fun S_12 hS_12 => ?_)
        refine Ep_lt (fun S_15 eS_15 => ?_)
        have hS_15 : t59 S0 S_15 := by rw [eS_15]; exact t59_s hS_12 (by omega)
        exact Ep_some hS_15
set_option maxHeartbeats 1000000 in
set_option maxRecDepth 100000 in
theorem t9B_X8_take_84_L103 {S0 : Tr}     (N : Nat) : ∀ (x3 : Int32) (S : Tr), t59 S0 S → Ep (lpF (fun _ _ => none) (fB_X8_take_84_L103) N x3 S) (fun q => t59 S0 q) := by
  induction N with
  | zero => intro x3 S _; exact Ep_none
  | succ N ih =>
    intro x3 S hS
    show Ep (fB_X8_take_84_L103 (lpF (fun _ _ => none) (fB_X8_take_84_L103) N) x3 S) _
    have hk103 := ih
    clear ih
    generalize lpF (fun _ _ => none) (fB_X8_take_84_L103) N = k103 at hk103 ⊢
    unfold fB_X8_take_84_L103
    refine Ep_ite (fun _ => ?_) (fun _ => ?_)
    · exact Ep_some hS
    · refine Ep_ck ?_
      refine Ep_ite (fun _ => ?_) (fun _ => ?_)
      · refine Ep_lt (fun y8 ey8 => ?_)
        exact hk103 y8 S hS
      · refine Ep_ck ?_
        refine Ep_ck ?_
        refine Ep_lt (fun S_11 eS_11 => ?_)
        have hS_11 : t59 S0 S_11 := by rw [eS_11]; exact t59_s hS (by omega)
        refine Ep_lt (fun y12 ey12 => ?_)
        exact hk103 y12 S_11 hS_11
set_option maxHeartbeats 1000000 in
set_option maxRecDepth 100000 in
theorem t9L_X8_take_84_L103 {S0 : Tr}     (x3 : Int32) (S : Tr) (hS : t59 S0 S) : Ep (fL_X8_take_84_L103 x3 S) (fun q => t59 S0 q) := by
  unfold fL_X8_take_84_L103
  exact t9B_X8_take_84_L103 2000 x3 S hS
set_option maxHeartbeats 1000000 in
set_option maxRecDepth 100000 in
theorem t9B_X8_take_84_L82 {S0 : Tr}     (N : Nat) : ∀ (x3 : Int32) (S : Tr), t59 S0 S → Ep (lpF (fun _ _ => none) (fB_X8_take_84_L82) N x3 S) (fun q => t59 S0 q) := by
  induction N with
  | zero => intro x3 S _; exact Ep_none
  | succ N ih =>
    intro x3 S hS
    show Ep (fB_X8_take_84_L82 (lpF (fun _ _ => none) (fB_X8_take_84_L82) N) x3 S) _
    have hk82 := ih
    clear ih
    generalize lpF (fun _ _ => none) (fB_X8_take_84_L82) N = k82 at hk82 ⊢
    unfold fB_X8_take_84_L82
    refine Ep_ite (fun _ => ?_) (fun _ => ?_)
    · exact t9L_X8_take_84_L103 0 S hS
    · refine Ep_ck ?_
      refine Ep_lt (fun S_14 eS_14 => ?_)
      have hS_14 : t59 S0 S_14 := by rw [eS_14]; exact t59_s hS (by omega)
      refine Ep_lt (fun y15 ey15 => ?_)
      exact hk82 y15 S_14 hS_14
set_option maxHeartbeats 1000000 in
set_option maxRecDepth 100000 in
theorem t9L_X8_take_84_L82 {S0 : Tr}     (x3 : Int32) (S : Tr) (hS : t59 S0 S) : Ep (fL_X8_take_84_L82 x3 S) (fun q => t59 S0 q) := by
  unfold fL_X8_take_84_L82
  exact t9B_X8_take_84_L82 2000 x3 S hS
set_option maxHeartbeats 1000000 in
set_option maxRecDepth 100000 in
theorem t9B_X8_take_84_L54 {S0 : Tr} (x2 : Int32)    (N : Nat) : ∀ (x3 : Int32) (S : Tr), t59 S0 S → Ep (lpF (fun _ _ => none) (fB_X8_take_84_L54 x2) N x3 S) (fun q => t59 S0 q) := by
  induction N with
  | zero => intro x3 S _; exact Ep_none
  | succ N ih =>
    intro x3 S hS
    show Ep (fB_X8_take_84_L54 x2 (lpF (fun _ _ => none) (fB_X8_take_84_L54 x2) N) x3 S) _
    have hk54 := ih
    clear ih
    generalize lpF (fun _ _ => none) (fB_X8_take_84_L54 x2) N = k54 at hk54 ⊢
    unfold fB_X8_take_84_L54
    refine Ep_ite (fun _ => ?_) (fun _ => ?_)
    · exact t9L_X8_take_84_L82 0 S hS
    · refine Ep_ck ?_
      refine Ep_ck ?_
      refine Ep_lt (fun S_18 eS_18 => ?_)
      have hS_18 : t59 S0 S_18 := by rw [eS_18]; exact t59_s hS (by omega)
      refine Ep_lt (fun y19 ey19 => ?_)
      exact hk54 y19 S_18 hS_18
set_option maxHeartbeats 1000000 in
set_option maxRecDepth 100000 in
theorem t9L_X8_take_84_L54 {S0 : Tr} (x2 : Int32)    (x3 : Int32) (S : Tr) (hS : t59 S0 S) : Ep (fL_X8_take_84_L54 x2 x3 S) (fun q => t59 S0 q) := by
  unfold fL_X8_take_84_L54
  exact t9B_X8_take_84_L54 x2 2000 x3 S hS
set_option maxHeartbeats 1000000 in
set_option maxRecDepth 100000 in
theorem t9B_X8_take_84_L27 {S0 : Tr} (x2 : Int32)    (N : Nat) : ∀ (x3 : Int32) (S : Tr), t59 S0 S → Ep (lpF (fun _ _ => none) (fB_X8_take_84_L27 x2) N x3 S) (fun q => t59 S0 q) := by
  induction N with
  | zero => intro x3 S _; exact Ep_none
  | succ N ih =>
    intro x3 S hS
    show Ep (fB_X8_take_84_L27 x2 (lpF (fun _ _ => none) (fB_X8_take_84_L27 x2) N) x3 S) _
    have hk27 := ih
    clear ih
    generalize lpF (fun _ _ => none) (fB_X8_take_84_L27 x2) N = k27 at hk27 ⊢
    unfold fB_X8_take_84_L27
    refine Ep_ite (fun _ => ?_) (fun _ => ?_)
    · exact t9L_X8_take_84_L54 x2 0 S hS
    · refine Ep_ck ?_
      refine Ep_ck ?_
      refine Ep_lt (fun S_22 eS_22 => ?_)
      have hS_22 : t59 S0 S_22 := by rw [eS_22]; exact t59_s hS (by omega)
      refine Ep_lt (fun y23 ey23 => ?_)
      exact hk27 y23 S_22 hS_22
set_option maxHeartbeats 1000000 in
set_option maxRecDepth 100000 in
theorem t9L_X8_take_84_L27 {S0 : Tr} (x2 : Int32)    (x3 : Int32) (S : Tr) (hS : t59 S0 S) : Ep (fL_X8_take_84_L27 x2 x3 S) (fun q => t59 S0 q) := by
  unfold fL_X8_take_84_L27
  exact t9B_X8_take_84_L27 x2 2000 x3 S hS
set_option maxHeartbeats 1000000 in
set_option maxRecDepth 100000 in
theorem t9B_X8_take_84_L2 {S0 : Tr} (x2 : Int32)    (N : Nat) : ∀ (x3 : Int32) (S : Tr), t59 S0 S → Ep (lpF (fun _ _ => none) (fB_X8_take_84_L2 x2) N x3 S) (fun q => t59 S0 q) := by
  induction N with
  | zero => intro x3 S _; exact Ep_none
  | succ N ih =>
    intro x3 S hS
    show Ep (fB_X8_take_84_L2 x2 (lpF (fun _ _ => none) (fB_X8_take_84_L2 x2) N) x3 S) _
    have hk2 := ih
    clear ih
    generalize lpF (fun _ _ => none) (fB_X8_take_84_L2 x2) N = k2 at hk2 ⊢
    unfold fB_X8_take_84_L2
    refine Ep_ite (fun _ => ?_) (fun _ => ?_)
    · exact t9L_X8_take_84_L27 x2 0 S hS
    · refine Ep_ck ?_
      refine Ep_ck ?_
      refine Ep_lt (fun S_26 eS_26 => ?_)
      have hS_26 : t59 S0 S_26 := by rw [eS_26]; exact t59_s hS (by omega)
      refine Ep_lt (fun y27 ey27 => ?_)
      exact hk2 y27 S_26 hS_26
set_option maxHeartbeats 1000000 in
set_option maxRecDepth 100000 in
theorem t9L_X8_take_84_L2 {S0 : Tr} (x2 : Int32)    (x3 : Int32) (S : Tr) (hS : t59 S0 S) : Ep (fL_X8_take_84_L2 x2 x3 S) (fun q => t59 S0 q) := by
  unfold fL_X8_take_84_L2
  exact t9B_X8_take_84_L2 x2 2000 x3 S hS
set_option maxHeartbeats 1000000 in
set_option maxRecDepth 100000 in
theorem t9_X8_take_84 {S0 : Tr} (S : Tr) (x2 : Int32) (hS : t59 S0 S)   : Ep (f_X8_take_84 S x2) (fun q => t59 S0 q) := by
  unfold f_X8_take_84
  exact t9L_X8_take_84_L2 x2 0 S hS
set_option maxHeartbeats 1000000 in
set_option maxRecDepth 100000 in
theorem t9_X8_undo {S0 : Tr} (S : Tr) (hS : t59 S0 S)   : Ep (f_X8_undo S) (fun q => t59 S0 q.2) := by
  unfold f_X8_undo
  refine Ep_lt (fun S_1 eS_1 => ?_)
  have hS_1 : t59 S0 S_1 := by rw [eS_1]; exact t59_s hS (by omega)
  refine Ep_ite (fun _ => ?_) (fun _ => ?_)
  · exact Ep_some hS_1
  · refine Ep_lt (fun S_3 eS_3 => ?_)
    have hS_3 : t59 S0 S_3 := by rw [eS_3]; exact t59_s hS_1 (by omega)
    refine Ep_bd (t9_X8_take_84 S_3 ((61 : Int32) * (S_3 0 82)) hS_3) (fun S_4 hS_4 => ?_)
    exact Ep_some hS_4
set_option maxHeartbeats 1000000 in
set_option maxRecDepth 100000 in
theorem t9B_X8_turns_L113 {S0 : Tr} (x1 : Int32) (x2 : Int32) (x3 : Int32) (x4 : Int32)    (N : Nat) : ∀ (x5 : Int32) (S : Tr), t59 S0 S → Ep (lpF (fun _ _ => none) (fB_X8_turns_L113 x1 x2 x3 x4) N x5 S) (fun q => t59 S0 q.2) := by
  induction N with
  | zero => intro x5 S _; exact Ep_none
  | succ N ih =>
    intro x5 S hS
    show Ep (fB_X8_turns_L113 x1 x2 x3 x4 (lpF (fun _ _ => none) (fB_X8_turns_L113 x1 x2 x3 x4) N) x5 S) _
    have hk113 := ih
    clear ih
    generalize lpF (fun _ _ => none) (fB_X8_turns_L113 x1 x2 x3 x4) N = k113 at hk113 ⊢
    unfold fB_X8_turns_L113
    refine Ep_ite (fun _ => ?_) (fun _ => ?_)
    · exact Ep_some hS
    · refine Ep_ck ?_
      refine Ep_ck ?_
      refine Ep_lt (fun S_7 eS_7 => ?_)
      have hS_7 : t59 S0 S_7 := by rw [eS_7]; exact t59_s hS (by omega)
      refine Ep_lt (fun y8 ey8 => ?_)
      exact hk113 y8 S_7 hS_7
set_option maxHeartbeats 1000000 in
set_option maxRecDepth 100000 in
theorem t9L_X8_turns_L113 {S0 : Tr} (x1 : Int32) (x2 : Int32) (x3 : Int32) (x4 : Int32)    (x5 : Int32) (S : Tr) (hS : t59 S0 S) : Ep (fL_X8_turns_L113 x1 x2 x3 x4 x5 S) (fun q => t59 S0 q.2) := by
  unfold fL_X8_turns_L113
  exact t9B_X8_turns_L113 x1 x2 x3 x4 2000 x5 S hS
set_option maxHeartbeats 1000000 in
set_option maxRecDepth 100000 in
theorem t9J_X8_turns_J78 {S0 : Tr} (k17 : Int32 → Int32 → Tr → Option (Int32 × Tr)) (x1 : Int32) (x2 : Int32) (x3 : Int32) (x4 : Int32) (x5 : Int32) (x6 : Int32) (x7 : Int32) (S : Tr) (hS : t59 S0 S) (hk17 : ∀ (x4 : Int32) (x5 : Int32) (S : Tr), t59 S0 S → Ep (k17 x4 x5 S) (fun q => t59 S0 q.2))  : Ep (fJ_X8_turns_J78 k17 x1 x2 x3 x4 x5 x6 x7 S) (fun q => t59 S0 q.2) := by
  unfold fJ_X8_turns_J78
  refine Ep_ck ?_
  refine Ep_lt (fun S_14 eS_14 => ?_)
  have hS_14 : t59 S0 S_14 := by rw [eS_14]; exact t59_s hS (by omega)
  refine Ep_ite (fun _ => ?_) (fun _ => ?_)
  · refine Ep_lt (fun y18 ey18 => ?_)
    refine Ep_lt (fun y19 ey19 => ?_)
    exact hk17 y18 y19 S_14 hS_14
  · refine Ep_lt (fun y16 ey16 => ?_)
    refine Ep_lt (fun y17 ey17 => ?_)
    exact hk17 y16 y17 S_14 hS_14
set_option maxHeartbeats 1000000 in
set_option maxRecDepth 100000 in
theorem t9B_X8_turns_L39 {S0 : Tr} (k17 : Int32 → Int32 → Tr → Option (Int32 × Tr)) (S : Tr) (x1 : Int32) (x2 : Int32) (x3 : Int32) (x4 : Int32) (x5 : Int32) (x6 : Int32) (hS : t59 S0 S) (hk17 : ∀ (x4 : Int32) (x5 : Int32) (S : Tr), t59 S0 S → Ep (k17 x4 x5 S) (fun q => t59 S0 q.2))  (N : Nat) : ∀ (x7 : Int32) (x8 : Int32), Ep (lpF (fun _ _ => none) (fB_X8_turns_L39 k17 S x1 x2 x3 x4 x5 x6) N x7 x8) (fun q => t59 S0 q.2) := by
  induction N with
  | zero => intro x7 x8; exact Ep_none
  | succ N ih =>
    intro x7 x8
    show Ep (fB_X8_turns_L39 k17 S x1 x2 x3 x4 x5 x6 (lpF (fun _ _ => none) (fB_X8_turns_L39 k17 S x1 x2 x3 x4 x5 x6) N) x7 x8) _
    have hk39 := ih
    clear ih
    generalize lpF (fun _ _ => none) (fB_X8_turns_L39 k17 S x1 x2 x3 x4 x5 x6) N = k39 at hk39 ⊢
    unfold fB_X8_turns_L39
    refine Ep_ite (fun _ => ?_) (fun _ => ?_)
    · exact t9J_X8_turns_J78 k17 x1 x2 x3 x4 x5 x6 x7 S hS hk17
    · refine Ep_any (fun r20 => ?_)
      refine Ep_any (fun r23 => ?_)
      refine Ep_ite (fun _ => ?_) (fun _ => ?_)
      · refine Ep_lt (fun y27 ey27 => ?_)
        refine Ep_lt (fun y28 ey28 => ?_)
        exact hk39 y27 y28
      · refine Ep_lt (fun y29 ey29 => ?_)
        refine Ep_lt (fun y30 ey30 => ?_)
        exact hk39 y29 y30
set_option maxHeartbeats 1000000 in
set_option maxRecDepth 100000 in
theorem t9L_X8_turns_L39 {S0 : Tr} (k17 : Int32 → Int32 → Tr → Option (Int32 × Tr)) (S : Tr) (x1 : Int32) (x2 : Int32) (x3 : Int32) (x4 : Int32) (x5 : Int32) (x6 : Int32) (hS : t59 S0 S) (hk17 : ∀ (x4 : Int32) (x5 : Int32) (S : Tr), t59 S0 S → Ep (k17 x4 x5 S) (fun q => t59 S0 q.2))  (x7 : Int32) (x8 : Int32)  : Ep (fL_X8_turns_L39 k17 S x1 x2 x3 x4 x5 x6 x7 x8) (fun q => t59 S0 q.2) := by
  unfold fL_X8_turns_L39
  exact t9B_X8_turns_L39 k17 S x1 x2 x3 x4 x5 x6 hS hk17 2000 x7 x8
set_option maxHeartbeats 1000000 in
set_option maxRecDepth 100000 in
theorem t9B_X8_turns_L17 {S0 : Tr} (x1 : Int32) (x2 : Int32) (x3 : Int32)    (N : Nat) : ∀ (x4 : Int32) (x5 : Int32) (S : Tr), t59 S0 S → Ep (lpF (fun _ _ _ => none) (fB_X8_turns_L17 x1 x2 x3) N x4 x5 S) (fun q => t59 S0 q.2) := by
  induction N with
  | zero => intro x4 x5 S _; exact Ep_none
  | succ N ih =>
    intro x4 x5 S hS
    show Ep (fB_X8_turns_L17 x1 x2 x3 (lpF (fun _ _ _ => none) (fB_X8_turns_L17 x1 x2 x3) N) x4 x5 S) _
    have hk17 := ih
    clear ih
    generalize lpF (fun _ _ _ => none) (fB_X8_turns_L17 x1 x2 x3) N = k17 at hk17 ⊢
    unfold fB_X8_turns_L17
    refine Ep_ite (fun _ => ?_) (fun _ => ?_)
    · exact t9L_X8_turns_L113 x1 x2 x3 x4 0 S hS
    · refine Ep_any (fun r9 => ?_)
      exact t9L_X8_turns_L39 k17 S x1 x2 x3 x4 x5 r9 hS hk17 0 0
set_option maxHeartbeats 1000000 in
set_option maxRecDepth 100000 in
theorem t9L_X8_turns_L17 {S0 : Tr} (x1 : Int32) (x2 : Int32) (x3 : Int32)    (x4 : Int32) (x5 : Int32) (S : Tr) (hS : t59 S0 S) : Ep (fL_X8_turns_L17 x1 x2 x3 x4 x5 S) (fun q => t59 S0 q.2) := by
  unfold fL_X8_turns_L17
  exact t9B_X8_turns_L17 x1 x2 x3 2000 x4 x5 S hS
set_option maxHeartbeats 1000000 in
set_option maxRecDepth 100000 in
theorem t9_X8_turns {S0 : Tr} (S : Tr) (x1 : Int32) (x2 : Int32) (hS : t59 S0 S)   : Ep (f_X8_turns S x1 x2) (fun q => t59 S0 q.2) := by
  unfold f_X8_turns
  refine Ep_ck ?_
  refine Ep_lt (fun y2 ey2 => ?_)
  exact t9L_X8_turns_L17 x1 x2 y2 0 0 S hS
set_option maxHeartbeats 1000000 in
set_option maxRecDepth 100000 in
theorem sgB_X8_plainTried_L42 {j0 : Nat}     (N : Nat) : ∀ (x1 : Int32) (S : Tr), spJ j0 S → Ep (lpF (fun _ _ => none) (fB_X8_plainTried_L42) N x1 S) (fun q => spJ j0 q) := by
  induction N with
  | zero => intro x1 S _; exact Ep_none
  | succ N ih =>
    intro x1 S hS
    show Ep (fB_X8_plainTried_L42 (lpF (fun _ _ => none) (fB_X8_plainTried_L42) N) x1 S) _
    have hk42 := ih
    clear ih
    generalize lpF (fun _ _ => none) (fB_X8_plainTried_L42) N = k42 at hk42 ⊢
    unfold fB_X8_plainTried_L42
    refine Ep_ite (fun _ => ?_) (fun _ => ?_)
    · exact Ep_some hS
    · refine Ep_ck ?_
      refine Ep_lt (fun S_10 eS_10 => ?_)
      have hS_10 : spJ j0 S_10 := by rw [eS_10]; exact sp_s hS (by omega)
      refine Ep_lt (fun y11 ey11 => ?_)
      exact hk42 y11 S_10 hS_10
set_option maxHeartbeats 1000000 in
set_option maxRecDepth 100000 in
theorem sgL_X8_plainTried_L42 {j0 : Nat}     (x1 : Int32) (S : Tr) (hS : spJ j0 S) : Ep (fL_X8_plainTried_L42 x1 S) (fun q => spJ j0 q) := by
  unfold fL_X8_plainTried_L42
  exact sgB_X8_plainTried_L42 2000 x1 S hS
set_option maxHeartbeats 1000000 in
set_option maxRecDepth 100000 in
theorem sg_X8_plainTried {j0 : Nat} (S : Tr) (hS : spJ j0 S)   : Ep (f_X8_plainTried S) (fun q => spJ j0 q) := by
  unfold f_X8_plainTried
  refine Ep_lt (fun S_1 eS_1 => ?_)
  have hS_1 : spJ j0 S_1 := by rw [eS_1]; exact sp_s hS (by omega)
  refine Ep_lt (fun S_2 eS_2 => ?_)
  have hS_2 : spJ j0 S_2 := by rw [eS_2]; exact sp_s hS_1 (by omega)
  refine Ep_lt (fun S_3 eS_3 => ?_)
  have hS_3 : spJ j0 S_3 := by rw [eS_3]; exact sp_s hS_2 (by omega)
  refine Ep_lt (fun S_4 eS_4 => ?_)
  have hS_4 : spJ j0 S_4 := by rw [eS_4]; exact sp_s hS_3 (by omega)
  refine Ep_lt (fun S_5 eS_5 => ?_)
  have hS_5 : spJ j0 S_5 := by rw [eS_5]; exact sp_s hS_4 (by omega)
  refine Ep_lt (fun S_6 eS_6 => ?_)
  have hS_6 : spJ j0 S_6 := by rw [eS_6]; exact sp_s hS_5 (by omega)
  refine Ep_lt (fun S_7 eS_7 => ?_)
  have hS_7 : spJ j0 S_7 := by rw [eS_7]; exact sp_s hS_6 (by omega)
  exact sgL_X8_plainTried_L42 0 S_7 hS_7
set_option maxHeartbeats 1000000 in
set_option maxRecDepth 100000 in
theorem sgJ_X8_go_J75 {j0 : Nat} (s0 : Int32) (S : Tr) (L : Lo) (hS : spJ j0 S)   : Ep (fJ_X8_go_J75 s0 S L) (fun q => spJ j0 q.2.1) := by
  unfold fJ_X8_go_J75
  refine Ep_lt (fun S_14 eS_14 => ?_)
  have hS_14 : spJ j0 S_14 := by rw [eS_14]; exact sp_s hS (by omega)
  exact Ep_some hS_14
set_option maxHeartbeats 1000000 in
set_option maxRecDepth 100000 in
theorem sgJ_X8_go_J57 {j0 : Nat} (x1 : Int32) (S : Tr) (L : Lo) (hS : spJ j0 S)   : Ep (fJ_X8_go_J57 x1 S L) (fun q => spJ j0 q.2.1) := by
  unfold fJ_X8_go_J57
  refine Ep_lt (fun S_12 eS_12 => ?_)
  have hS_12 : spJ j0 S_12 := by rw [eS_12]; exact sp_s hS (by omega)
  refine Ep_ite (fun _ => ?_) (fun _ => ?_)
  · exact sgJ_X8_go_J75 (S_12 0 82) S_12 L hS_12
  · exact sgJ_X8_go_J75 0 S_12 L hS_12
set_option maxHeartbeats 1000000 in
set_option maxRecDepth 100000 in
theorem sgB_X8_go_L41 {j0 : Nat} (x1 : Int32)    (N : Nat) : ∀ (x2 : Int32) (S : Tr) (L : Lo), spJ j0 S → Ep (lpF (fun _ _ _ => none) (fB_X8_go_L41 x1) N x2 S L) (fun q => spJ j0 q.2.1) := by
  induction N with
  | zero => intro x2 S L _; exact Ep_none
  | succ N ih =>
    intro x2 S L hS
    show Ep (fB_X8_go_L41 x1 (lpF (fun _ _ _ => none) (fB_X8_go_L41 x1) N) x2 S L) _
    have hk41 := ih
    clear ih
    generalize lpF (fun _ _ _ => none) (fB_X8_go_L41 x1) N = k41 at hk41 ⊢
    unfold fB_X8_go_L41
    refine Ep_ite (fun _ => ?_) (fun _ => ?_)
    · exact sgJ_X8_go_J57 x1 S L hS
    · refine Ep_bd (sp_goOn hS) (fun q hq => ?_)
      refine Ep_lt (fun S_15 eS_15 => ?_)
      have hS_15 : spJ j0 S_15 := by rw [eS_15]; exact hq
      refine Ep_lt (fun L_16 eL_16 => ?_)
      refine Ep_lt (fun y19 ey19 => ?_)
      exact hk41 y19 S_15 L_16 hS_15
set_option maxHeartbeats 1000000 in
set_option maxRecDepth 100000 in
theorem sgL_X8_go_L41 {j0 : Nat} (x1 : Int32)    (x2 : Int32) (S : Tr) (L : Lo) (hS : spJ j0 S) : Ep (fL_X8_go_L41 x1 x2 S L) (fun q => spJ j0 q.2.1) := by
  unfold fL_X8_go_L41
  exact sgB_X8_go_L41 x1 2000 x2 S L hS
set_option maxHeartbeats 1000000 in
set_option maxRecDepth 100000 in
theorem sg_X8_go {j0 : Nat} (S : Tr) (L : Lo) (x1 : Int32) (hS : spJ j0 S)   : Ep (f_X8_go S L x1) (fun q => spJ j0 q.2.1) := by
  unfold f_X8_go
  refine Ep_lt (fun S_1 eS_1 => ?_)
  have hS_1 : spJ j0 S_1 := by rw [eS_1]; exact sp_s hS (by omega)
  refine Ep_any (fun r2 => ?_)
  refine Ep_ite (fun _ => ?_) (fun _ => ?_)
  · exact Ep_some hS_1
  · refine Ep_ite (fun _ => ?_) (fun _ => ?_)
    · refine Ep_bd (sg_X8_plainTried S_1 hS_1) (fun S_7 hS_7 => ?_)
      refine Ep_lt (fun S_10 eS_10 => ?_)
      have hS_10 : spJ j0 S_10 := by rw [eS_10]; exact sp_s hS_7 (by omega)
      exact sgL_X8_go_L41 x1 0 S_10 L hS_10
    · exact Ep_some hS_1
theorem t9_turn (S : Tr) (x1 : Int32) : Ep (f_X8_turn S x1) (fun q => ∀ j, j < 6 → q.2 59 j = S 59 j ∧ q.2 60 j = S 60 j) := by
  unfold f_X8_turn
  refine Ep_lt (fun S1 e1 => ?_)
  have z : ∀ j, S1 59 j = S 59 j ∧ S1 60 j = S 60 j := fun j => by rw [e1, st_oth (by decide), st_oth (by decide)]; exact ⟨rfl, rfl⟩
  refine Ep_any (fun r2 => Ep_ite (fun _ => Ep_some (fun j _ => z j)) (fun _ => Ep_bd (e_layT S1) (fun S6 h6 => Ep_bd (t9_X8_turns S6 1 x1 t59_r) (fun q hq => Ep_lt (fun r9 _ => Ep_lt (fun S10 e10 => ?_))))))
  have w : ∀ j, j < 6 → S10 59 j = S 59 j ∧ S10 60 j = S 60 j := fun j hj => by
    have a := hq j
    rw [e10]
    exact ⟨a.1.trans ((h6.2.2 59 j (by omega) (by omega) (by omega) (by omega) (by omega) (by omega) (by omega)).trans (z j).1), a.2.trans ((h6.2.2 60 j (by omega) (by omega) (by omega) (by omega) (by omega) (by omega) (by omega)).trans (z j).2)⟩
  refine Ep_ite (fun _ => Ep_some w) (fun _ => Ep_bd (t9_X8_remember S10 t59_r) (fun S14 h14 => Ep_bd (t9_X8_turns S14 0 x1 t59_r) (fun q2 hq2 => Ep_lt (fun r17 _ => Ep_lt (fun S18 e18 => Ep_some (fun j hj => ?_))))))
  have a := hq2 j
  have b := h14 j
  have c := w j hj
  show S18 59 j = _ ∧ S18 60 j = _
  rw [e18]
  exact ⟨a.1.trans (b.1.trans c.1), a.2.trans (b.2.trans c.2)⟩
def spR (S : Tr) : Prop := (∀ p, p < 6 → S 57 p = S 27 p ∧ spJ p S) ∧ (¬ S 0 84 = 0 → ∀ p, p < 6 → S 88 p = 0 → S 88 (6 + p) = 0)
theorem spR_o {S S1 : Tr} (h : spR S) (e27 : ∀ p, p < 6 → S1 27 p = S 27 p) (e57 : ∀ p, p < 6 → S1 57 p = S 57 p) (e59 : ∀ p, p < 6 → S1 59 p = S 59 p ∧ S1 60 p = S 60 p) (e84 : S1 0 84 = S 0 84) (e88 : ∀ j, S1 88 j = S 88 j) : spR S1 := by
  refine ⟨fun p hp => ⟨by rw [e57 p hp, e27 p hp]; exact (h.1 p hp).1, fun q => ?_⟩, fun n p hp q => ?_⟩
  · rw [(e59 p hp).1] at q
    rw [(e59 p hp).2]; exact (h.1 p hp).2 q
  · rw [e84] at n
    rw [e88] at q ⊢
    exact h.2 n p hp q
theorem spR_f {S S1 : Tr} (h : spR S) (f : nwF S S1) : spR S1 := by
  have g : ∀ a j, nwc a j → S1 a j = S a j := f
  exact spR_o h (fun p _ => g 27 p (by unfold nwc h0c; omega)) (fun p hp => g 57 p (by unfold nwc h0c; omega)) (fun p hp => ⟨g 59 p (by unfold nwc h0c; omega), g 60 p (by unfold nwc h0c; omega)⟩) (g 0 84 (by unfold nwc; omega)) (fun j => g 88 j (by unfold nwc; omega))
theorem spR_G {S S1 : Tr} (h : spR S) (a : aG 1 S S1) : spR S1 := by
  have g : ∀ c j, h0c c j → S1 c j = S c j := fun c j q => a c j (Wb_h q)
  exact spR_o h (fun p _ => g 27 p (by unfold h0c; omega)) (fun p hp => g 57 p (by unfold h0c; omega)) (fun p hp => ⟨g 59 p (by unfold h0c; omega), g 60 p (by unfold h0c; omega)⟩) (a 0 84 rfl) (fun j => a 88 j rfl)
theorem spR_mv {S S1 : Tr} (h : spR S) (f : imF S S1) (e57 : ∀ j, j < 6 → S1 57 j = S 57 j) (e59 : ∀ j, j < 6 → S1 59 j = S 59 j ∧ S1 60 j = S 60 j) : spR S1 := spR_o h (fun p _ => f 27 p (by omega)) e57 e59 (f 0 84 (by omega)) (fun j => f 88 j (by omega))
theorem spR_go {S S1 : Tr} (h : spR S) (f : ihF S S1) (e : ∀ p, p < 6 → spJ p S1) : spR S1 := by
  refine ⟨fun p hp => ⟨by rw [f 57 p (by omega), f 27 p (by omega)]; exact (h.1 p hp).1, e p hp⟩, fun n p hp q => ?_⟩
  rw [f 0 84 (by omega)] at n
  rw [f 88 p (by omega)] at q
  rw [f 88 (6 + p) (by omega)]
  exact h.2 n p hp q
theorem spR_keep {S : Tr} {L : Lo} {q : Int32 × Tr × Lo} (h : spR S) (k : kpF S L q) : spR q.2.1 := by
  obtain ⟨_, _, _, _, k5, _, _, _, kf⟩ := k
  have g : ∀ a j, ¬ (86 ≤ a ∧ a ≤ 88) → ¬ a = 0 → q.2.1 a j = S a j := fun a j n1 n2 => kf a j n1 (by omega)
  refine ⟨fun p hp => ⟨by rw [g 57 p (by omega) (by omega), g 27 p (by omega) (by omega)]; exact (h.1 p hp).1, fun e => ?_⟩, fun _ p hp e => ?_⟩
  · rw [g 59 p (by omega) (by omega)] at e
    rw [g 60 p (by omega) (by omega)]; exact (h.1 p hp).2 e
  · rw [(k5 p hp).1] at e
    rw [(k5 p hp).2]; exact (h.1 p hp).2 e
theorem spR_back {S : Tr} {L : Lo} (h : spR S) (hj : jR S) : Ep (f_X8_back S L) (fun q => spR q.2.1) := by
  by_cases c : S 0 84 = 0
  · unfold f_X8_back
    refine Ep_lt (fun S1 e1 => ?_)
    have h1 : spR S1 := by
      refine spR_o h ?_ ?_ ?_ ?_ ?_
      · intro p _; rw [e1, st_oth (by decide)]
      · intro p _; rw [e1, st_oth (by decide)]
      · intro p _; rw [e1, st_oth (by decide), st_oth (by decide)]; exact ⟨rfl, rfl⟩
      · rw [e1, st_ne (by decide)]
      · intro j; rw [e1, st_oth (by decide)]
    have c1 : S1 0 84 = 0 := by rw [e1, st_ne (by decide)]; exact c
    rw [if_pos c1]
    exact Ep_some h1
  · refine Ep_mono (k_bk hj c) (fun q hq => ?_)
    obtain ⟨⟨_, _, _, _, k5, _, _, _, kf⟩, k57⟩ := hq
    have g : ∀ a j, ¬ (53 ≤ a ∧ a ≤ 62) → ¬ (a = 0 ∧ (j = 2 ∨ j = 82)) → q.2.1 a j = S a j := kf
    refine ⟨fun p hp => ⟨by rw [k57 57 p rfl, g 27 p (by omega) (by omega)]; exact (h.1 p hp).1, fun e => ?_⟩, fun _ p hp e => ?_⟩
    · rw [(k5 p hp).1] at e
      rw [(k5 p hp).2]; exact h.2 c p hp e
    · rw [g 88 p (by omega) (by omega)] at e
      rw [g 88 (6 + p) (by omega) (by omega)]; exact h.2 c p hp e
theorem spR_K {S S1 : Tr} (h : spR S) (a : kFT S S1) : spR S1 := by
  obtain ⟨_, k2, k3, k4, k5⟩ := kFT_at a
  exact spR_o h (fun p hp => k2 27 p (by unfold kpc; omega)) (fun p _ => k3 57 p (by omega) (by omega)) (fun p _ => ⟨k3 59 p (by omega) (by omega), k3 60 p (by omega) (by omega)⟩) (k5 84 (by omega)) (fun j => k4 88 j (by omega) (by omega))
theorem spR_bg {S : Tr} {L : Lo} (b : bgR (S, L)) : spR S := by
  obtain ⟨_, _, b3, _, ⟨_, _, b84⟩, _⟩ := b
  exact ⟨fun p hp => ⟨(b3 p hp).1, fun _ => (b3 p hp).2.2.2⟩, fun n => absurd b84 n⟩
/-- comes now, in both -/
def cmg (S : Tr) (x : Int32) : Prop := 0 ≤ x.toInt ∧ x.toInt < (S 0 14).toInt ∧ (S 62 0).toInt ≤ 20 ∧ S 57 (S 30 x.toNatClampNeg).toNatClampNeg = S 62 0
theorem e_cmC {P T S : Tr} {L : Lo} {pa qa : Nat → Nat} {q4 : Nat} {x : Int32} (h : Nw P T S L) (hs : spR S) : Ep (f_X7_comesNow pa qa P T q4 x) (fun r => (r = 0 ∧ ¬ cmg S x) ∨ (r = 1 ∧ cmg S x)) := by
  have b14 : 0 ≤ (S 0 14).toInt ∧ (S 0 14).toInt ≤ 10 := h.1.1 0 14
  have b13 : 0 ≤ (S 0 13).toInt ∧ (S 0 13).toInt ≤ 6 := h.1.1 0 13
  have t00 : T 0 0 = S 62 0 := h.2.2.1.1
  have p14 : P 0 2 = S 0 14 := h.2.1.1.2.2.1
  have pc : Ep (f_X7_isPiece pa qa P q4 x) (fun r => (r = 0 ∧ ¬ (0 ≤ x.toInt ∧ x.toInt < (S 0 14).toInt)) ∨ (r = 1 ∧ 0 ≤ x.toInt ∧ x.toInt < (S 0 14).toInt)) := by
    unfold f_X7_isPiece
    refine Ep_ite (fun c => Ep_some (Or.inl ⟨rfl, fun g => ?_⟩)) (fun c => Ep_ck ?_)
    · have c := Int32.lt_iff_toInt_lt.mp c
      rw [show (0 : Int32).toInt = 0 by decide] at c
      omega
    · have c1 := tq_ltn (x := x) (y := 0) (b := 0) rfl (by decide) c
      rw [p14]
      refine Ep_ite (fun d => ?_) (fun d => ?_)
      · have d := Int32.le_iff_toInt_le.mp d
        exact Ep_some (Or.inl ⟨rfl, fun g => by omega⟩)
      · exact Ep_some (Or.inr ⟨rfl, c1, Int.not_le.mp (fun g => d (Int32.le_iff_toInt_le.mpr g))⟩)
  unfold f_X7_comesNow
  refine Ep_bd pc (fun r hr => ?_)
  rcases hr with ⟨rfl, n⟩ | ⟨rfl, x0, x14⟩
  · rw [if_pos rfl]
    exact Ep_some (Or.inl ⟨rfl, fun g => n ⟨g.1, g.2.1⟩⟩)
  · rw [if_neg (by decide), t00]
    obtain ⟨i, hi⟩ : ∃ i : Nat, x.toInt = i := ⟨x.toInt.toNat, by omega⟩
    obtain ⟨o1, _, _, _⟩ := h.2.1.2.2.2.1 i (by omega)
    have b30 : 0 ≤ (S 30 i).toInt ∧ (S 30 i).toInt ≤ 5 := h.1.1 30 i
    have ow : (S 30 i).toInt < (S 0 13).toInt := h.1.2.1.2.2.1 i (by omega) (by omega)
    have e11 : P 11 (S 30 i).toNatClampNeg = S 57 (S 30 i).toNatClampNeg := by
      rw [(h.2.1.2.2.1 _ (by rw [i_cl]; omega)).2.1, (hs.1 _ (by rw [i_cl]; omega)).1]
    refine Ep_ite (fun c => Ep_some (Or.inl ⟨rfl, fun g => ?_⟩)) (fun c => Ep_ck (Ep_ck (Ep_ck ?_)))
    · have c := Int32.lt_iff_toInt_lt.mp c
      rw [show (20 : Int32).toInt = 20 by decide] at c
      have := g.2.2.1
      omega
    · have c1 := tq_ltn (x := (20 : Int32)) (y := S 62 0) (a := 20) (by decide) rfl c
      rw [i_cn hi, o1, e11]
      refine Ep_ite (fun d => Ep_some (Or.inr ⟨rfl, x0, x14, c1, by rw [i_cn hi]; exact d⟩)) (fun d => Ep_some (Or.inl ⟨rfl, fun g => d (by have := g.2.2.2; rw [i_cn hi] at this; exact this)⟩))
theorem e_cmM {P T S : Tr} {L : Lo} {x : Int32} (h : Nw P T S L) (x0 : 0 ≤ x.toInt) (x14 : x.toInt < (S 0 14).toInt) (s20 : (S 62 0).toInt ≤ 20) : Ep (f_X8_isComing S x) (fun r => (r = 0 ∧ ¬ cmg S x) ∨ (r = 1 ∧ cmg S x)) := by
  have b14 : 0 ≤ (S 0 14).toInt ∧ (S 0 14).toInt ≤ 10 := h.1.1 0 14
  have b13 : 0 ≤ (S 0 13).toInt ∧ (S 0 13).toInt ≤ 6 := h.1.1 0 13
  obtain ⟨i, hi⟩ : ∃ i : Nat, x.toInt = i := ⟨x.toInt.toNat, by omega⟩
  have b30 : 0 ≤ (S 30 i).toInt ∧ (S 30 i).toInt ≤ 5 := h.1.1 30 i
  have ow : (S 30 i).toInt < (S 0 13).toInt := h.1.2.1.2.2.1 i (by omega) (by omega)
  obtain ⟨o, ho⟩ : ∃ o : Nat, (S 30 i).toInt = o := ⟨(S 30 i).toInt.toNat, by omega⟩
  have hno : ∀ {A : Prop}, (¬ S 57 o = S 62 0) → ((0 : Int32) = 0 ∧ ¬ cmg S x) ∨ A := fun {A} d => Or.inl ⟨rfl, fun g => d (by have := g.2.2.2; rw [i_cn hi, i_cn ho] at this; exact this)⟩
  unfold f_X8_isComing
  rw [i_cn hi, i_cn ho]
  by_cases d : S 57 o = S 62 0
  · have s59 : S 59 o = 0 := h.2.2.2.2.2.2.2.2 o (by omega) (by rw [d]; omega)
    have s53 : S 53 i = 0 := by
      have w := ((h.2.2.2.1.1 i (by omega)).2.1)
      rw [show 6 * 0 + (S 30 i).toNatClampNeg = o by rw [i_cn ho]; omega, show 10 * 0 + i = i by omega] at w
      exact w s59
    rw [if_pos s53, if_pos d, if_pos s59]
    exact Ep_ck (Ep_ck (Ep_some (Or.inr ⟨rfl, x0, x14, s20, by rw [i_cn hi, i_cn ho]; exact d⟩)))
  · refine Ep_ck (Ep_ite (fun _ => Ep_ck ?_) (fun _ => Ep_some (hno d)))
    rw [if_neg d]
    exact Ep_some (hno d)
