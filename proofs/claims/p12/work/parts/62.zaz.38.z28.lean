/-! trials by a rule -/
theorem rI_s0 {b j : Nat} {S : Tr} {v : Int32} (h : rI b S) (hB : iR BM (st S 0 j v)) (h13 : ¬ j = 13) (h14 : ¬ j = 14) : rI b (st S 0 j v) := by
  have z : ∀ a, ¬ a = 0 → ∀ i, st S 0 j v a i = S a i := fun a ha i => by rw [st_oth ha]
  have z0 : ∀ i, ¬ i = j → st S 0 j v 0 i = S 0 i := fun i hi => by rw [st_ne hi]
  exact ⟨hB, pI_fr h.2.1 (z 39 (by omega)) (z 40 (by omega)) (z 41 (by omega)) (z 36 (by omega)) (z 38 (by omega)) (z 30 (by omega)) (z 29 (by omega)) (z0 13 (by omega)) (z0 14 (by omega)), gI_fr h.2.2 (z 53 (by omega)) (z 54 (by omega)) (z 55 (by omega)) (z 56 (by omega)) (z 58 (by omega)) (z0 13 (by omega)) (z0 14 (by omega))⟩
/-- what is told for a trial has changed -/
theorem Rl_sta {b : Nat} {P T S T1 S1 : Tr} (hR : Rl b P T S) (hI : rI b S1) (cT : ∀ a j, ¬ (a = 0 ∧ 3 ≤ j) → ¬ (a = 10 ∨ a = 13) → T1 a j = T a j) (cS : ∀ a j, ¬ (a = 0 ∧ 64 ≤ j) → ¬ a = 72 → S1 a j = S a j) (hs : sta b T1 S1) : Rl b P T1 S1 := by
  obtain ⟨_, hK, _, hd, hv⟩ := id hR
  exact ⟨hI, pK_o hK (fun j h1 h2 => cS 0 j (by omega) (by omega)) (fun a j h1 h2 => cS a j (by omega) (by omega)), hs, dyn_e hd hR.1.1 (fun a j q => cT a j (by omega) (by omega)) (fun a j q => cS a j (by omega) (by omega)), inv_e hv (fun a j q => cS a j (by omega) (by omega))⟩
theorem Rl_rule {b : Nat} {P T S : Tr} {x : Int32} (hR : Rl b P T S) (h0 : 0 ≤ x.toInt) (h2 : x.toInt ≤ 2) : Rl b P (st T 0 3 x) (st S 0 64 x) := by
  obtain ⟨s1, s2, s3, s4, s5, s6, s7, s8⟩ := hR.2.2.1
  refine Rl_sta hR (rI_s0 hR.1 (iR_setU hR.1.1 rfl) (by omega) (by omega)) (fun a j n _ => st_no (by omega)) (fun a j n _ => st_no (by omega)) ⟨fun p hp => ?_, fun i hi => ?_, ?_, ?_, ?_, ?_, ?_, ?_⟩
  · rw [st_ne (by omega)] at hp
    rw [st_oth (by omega), st_oth (by omega), st_oth (by omega), st_ne (by omega), st_oth (by omega)]; exact s1 p hp
  · rw [st_ne (by omega)] at hi
    rw [st_oth (by omega), st_oth (by omega), st_oth (by omega), st_ne (by omega)]; exact s2 i hi
  · rw [st_same, st_same]
  · rw [st_ne (by omega), st_ne (by omega), st_oth (by omega)]; exact s4
  · rw [st_ne (by omega), st_ne (by omega)]; exact s5
  · rw [st_ne (by omega), st_ne (by omega)]; exact s6
  · rw [st_ne (by omega), st_ne (by omega)]; exact s7
  · rw [st_same]; exact ⟨h0, h2⟩
theorem e_lot {P T S Tn : Tr} {L Lc : Lo} {pa qa : Nat → Nat} {n : Nat} (hR : Rl 1 P T S) (hd : drw T L) (h70 : S 0 70 = 0) : E2 (f_X7_liftsOfTrial pa qa P Lc Tn T n) (f_X8_toEnd S L) (fun u v => u.1 = v.1 61 1 - Tn 0 1 ∧ rnQ P T S L (u.2.2, u.2.1) v) := by
  unfold f_X7_liftsOfTrial
  refine E2_ckl (fun _ => fun u v eu ev => ?_)
  cases hx : f_X6_runToEnd T P Lc with
  | none => rw [hx] at eu; cases eu
  | some a =>
    rw [hx] at eu
    have r := e_run (Lc := Lc) hR hd h70 a v hx ev
    have eu : (a.1 0 1 - Tn 0 1, a.2, a.1) = u := Option.some.inj eu
    rw [← eu]
    refine ⟨?_, r⟩
    show a.1 0 1 - Tn 0 1 = v.1 61 1 - Tn 0 1
    rw [r.2.2.2.2.2.1]
def clB (pa qa : Nat → Nat) (P : Tr) (Lc : Lo) (Tn Tu : Tr) (q0 q2 : Nat) (x : Int32) : Option (Int32 × Lo × Tr × Nat) := bd (f_X7_startTrial pa qa Tn Tu q0 q2) fun q => lt q.1 fun Tu_3 => lt q.2 fun q2_4 => lt (st Tu_3 0 3 x) fun Tu_7 => bd (f_X7_liftsOfTrial pa qa P Lc Tn Tu_7 q2_4) fun q => lt q.1 fun r8 => lt q.2.1 fun L_9 => lt q.2.2 fun Tu_10 => some (r8, L_9, Tu_10, q2_4)
theorem nw_lby {P T S : Tr} {L : Lo} {x : Int32} (h : Nw P T S L) : Ep (f_X8_liftsBy S L x) (fun q => Nw P T q.2.1 q.2.2) := Ep_mono (Ep_and (D_to (t_X8_liftsBy S L x h.1.1 h.1.2.1 h.1.2.2)) (u_X8_liftsBy S L x h.2.2.2.2.2.2.2.1.2.2 rfl)) (fun q hq => Nw_q h hq.1.1 hq.1.2.2.1 hq.1.2.2.2 hq.1.2.1 hq.2.1 hq.2.2)
theorem e_clB {P Tn Tu S : Tr} {L Lc : Lo} {pa qa : Nat → Nat} {q0 q2 : Nat} {x : Int32} (h : Nw P Tn S L) (h0 : 0 ≤ x.toInt) (h2 : x.toInt ≤ 2) : E2 (clB pa qa P Lc Tn Tu q0 q2 x) (f_X8_liftsBy S L x) (fun q q' => q.1 = q'.1) := by
  unfold clB f_X8_liftsBy
  refine E2_bd (e_start h) (fun q S2 hq => E2_ltl (fun T3 e3 => E2_ltl (fun n4 _ => E2_ltl (fun T7 e7 => E2_ltr (fun S4 e4 => ?_)))))
  obtain ⟨hR, g70, g65, g5, hf, _⟩ := hq
  have hR7 : Rl 1 P T7 S4 := by rw [e7, e4, e3]; exact Rl_rule hR h0 h2
  have hd : drw T7 L := fun n => absurd (show T7 0 5 = 0 by rw [e7, st_ne (by omega), e3]; exact g5) n
  have h70 : S4 0 70 = 0 := by rw [e4, st_ne (by omega)]; exact g70
  refine E2_bd (e_lot (Tn := Tn) hR7 hd h70) (fun u v huv => E2_ltl (fun r8 e8 => E2_ltl (fun L9 _ => E2_ltl (fun T10 _ => E2_ltr (fun S5 e5 => E2_ltr (fun L6 _ => ?_))))))
  unfold f_X8_more
  refine E2_sr (E2_some ?_)
  show r8 = S5 61 1 - S5 61 0
  obtain ⟨u1, u2⟩ := huv
  have a61 : v.1 61 0 = S4 61 0 := u2.2.2.2.2.1.1 61 0 rfl
  have b61 : S4 61 0 = S 61 0 := by rw [e4, st_oth (by omega)]; exact hf 61 0 (by omega) (by omega) (by omega) (by omega) (by omega) (by omega) (by omega)
  rw [e8, u1, e5, a61, b61, h.2.2.1.2.1]
theorem Nw_2 {P T S : Tr} {L : Lo} {v : Int32} (h : Nw P T S L) : Nw P T (st S 0 2 v) L := by
  refine Nw_of h (rI_s0 h.1 (iR_setU h.1.1 rfl) (by omega) (by omega)) (fun a j q => st_no (fun e => ?_)) (by rw [st_ne (by omega)]; exact h.2.2.2.2.2.2.2.1.2.2) rfl
  obtain ⟨rfl, rfl⟩ := e
  unfold h0c at q
  omega
theorem isIn_1 {x a b : Int32} (h1 : ¬ x < a) (h2 : ¬ b < x) : f_X8_isIn x a b = some 1 := by
  unfold f_X8_isIn; rw [if_neg h1, if_neg h2]
theorem isIn_0 {x a b : Int32} (h : x < a ∨ b < x) : f_X8_isIn x a b = some 0 := by
  unfold f_X8_isIn
  by_cases c : x < a
  · rw [if_pos c]
  · rw [if_neg c, if_pos (h.resolve_left c)]
theorem e_X7byRule {P Tn Tu S : Tr} {L Lc : Lo} {pa qa : Nat → Nat} {q0 q2 : Nat} {x : Int32} (h : Nw P Tn S L) : E2 (f_X7_byRule pa qa P Lc Tn Tu q0 q2 x) (f_X8_byRule S L x) (fun q q' => q.1 = q'.1 ∧ Nw P Tn q'.2.1 q'.2.2) := by
  unfold f_X7_byRule f_X8_byRule
  refine E2_ltr (fun S1 e1 => ?_)
  have hN : Nw P Tn S1 L := by rw [e1]; exact Nw_2 h
  by_cases c0 : x < 0
  · rw [if_pos c0, isIn_0 (Or.inl c0)]
    exact E2_sr (E2_pr rfl (E2_some ⟨rfl, hN⟩))
  · rw [if_neg c0]
    by_cases c3 : x < 3
    · have x0 := tq_ltn (x := x) (y := 0) (b := 0) rfl (by decide) c0
      have x3 := Int32.lt_iff_toInt_lt.mp c3
      rw [show (3 : Int32).toInt = 3 by decide] at x3
      rw [if_pos c3, isIn_1 c0 (fun g => by
        have g := Int32.lt_iff_toInt_lt.mp g
        rw [show (2 : Int32).toInt = 2 by decide] at g
        omega)]
      refine E2_sr (E2_qr (by decide) ?_)
      show E2 (clB pa qa P Lc Tn Tu q0 q2 x) _ _
      intro u v eu ev
      cases hy : f_X8_liftsBy S1 L x with
      | none => rw [hy] at ev; cases ev
      | some w =>
        rw [hy] at ev
        have ev : (w.1, w.2.1, w.2.2) = v := Option.some.inj ev
        rw [← ev]
        exact ⟨e_clB hN x0 (by omega) u w eu hy, nw_lby hN w hy⟩
    · have x3 := tq_ltn (x := x) (y := 3) (b := 3) rfl (by decide) c3
      rw [if_neg c3, isIn_0 (Or.inr (Int32.lt_iff_toInt_lt.mpr (by rw [show (2 : Int32).toInt = 2 by decide]; omega)))]
      exact E2_sr (E2_pr rfl (E2_some ⟨rfl, hN⟩))
