-- 62.zaz.38.z28
/-! trials by a rule -/
theorem rI_s0 {b j : Nat} {S : Tr} {v : Int32} (h : rI b S) (hB : iR BM (st S 0 j v)) (h13 : ¬ j = 13) (h14 : ¬ j = 14) : rI b (st S 0 j v) := by
  have z : ∀ a, ¬ a = 0 → ∀ i, st S 0 j v a i = S a i := fun a ha i => by rw [st_oth ha]
  have z0 : ∀ i, ¬ i = j → st S 0 j v 0 i = S 0 i := fun i hi => by rw [st_ne hi]
  exact ⟨hB, pI_fr h.2.1 (z 39 (by omega)) (z 40 (by omega)) (z 41 (by omega)) (z 36 (by omega)) (z 38 (by omega)) (z 30 (by omega)) (z 29 (by omega)) (z0 13 (by omega)) (z0 14 (by omega)), gI_fr h.2.2 (z 53 (by omega)) (z 54 (by omega)) (z 55 (by omega)) (z 56 (by omega)) (z 58 (by omega)) (z0 13 (by omega)) (z0 14 (by omega))⟩
/-- what is told for a trial has changed -/
theorem Rl_sta {b : Nat} {P T S T1 S1 : Tr} (hR : Rl b P T S) (hI : rI b S1) (cT : ∀ a j, ¬ (a = 0 ∧ 3 ≤ j) → ¬ (a = 10 ∨ a = 13) → T1 a j = T a j) (cS : ∀ a j, ¬ (a = 0 ∧ 64 ≤ j) → ¬ a = 72 → S1 a j = S a j) (hs : sta b T1 S1) : Rl b P T1 S1 := by
  obtain ⟨_, hK, _, hd, hv⟩ := id hR
  exact ⟨hI, pK_o hK (fun j h1 h2 => cS 0 j (by omega) (by omega)) (fun a j h1 h2 => cS a j (by omega) (by omega)), hs, dyn_e hd hR.1.1 (fun a j q => cT a j (by omega) (by omega)) (fun a j q => cS a j (by omega) (by omega)), inv_e hv (fun a j q => cS a j (by omega) (by omega))⟩
theorem Rl_rule {b : Nat} {P T S : Tr} {x : Int32} (hR : Rl b P T S) (h0 : 0 ≤ x.toInt) (h2 : x.toInt ≤ 2) : Rl b P (st T 0 3 x) (st S 0 64 x) := by
  obtain ⟨s1, s2, s3, s4, s5, s6, s7, s8⟩ := hR.2.2.1
  refine Rl_sta hR (rI_s0 hR.1 (iR_setU hR.1.1 rfl) (by omega) (by omega)) (fun a j n _ => st_no (by omega)) (fun a j n _ => st_no (by omega)) ⟨fun p hp => ?_, fun i hi => ?_, ?_, ?_, ?_, ?_, ?_, ?_⟩
  · rw [st_ne (by omega)] at hp
    rw [st_oth (by omega), st_oth (by omega), st_oth (by omega), st_ne (by omega), st_oth (by omega)]; exact s1 p hp
  · rw [st_ne (by omega)] at hi
    rw [st_oth (by omega), st_oth (by omega), st_oth (by omega), st_ne (by omega)]; exact s2 i hi
  · rw [st_same, st_same]
  · rw [st_ne (by omega), st_ne (by omega), st_oth (by omega)]; exact s4
  · rw [st_ne (by omega), st_ne (by omega)]; exact s5
  · rw [st_ne (by omega), st_ne (by omega)]; exact s6
  · rw [st_ne (by omega), st_ne (by omega)]; exact s7
  · rw [st_same]; exact ⟨h0, h2⟩
theorem e_lot {P T S Tn : Tr} {L Lc : Lo} {pa qa : Nat → Nat} {n : Nat} (hR : Rl 1 P T S) (hd : drw T L) (h70 : S 0 70 = 0) : E2 (f_X7_liftsOfTrial pa qa P Lc Tn T n) (f_X8_toEnd S L) (fun u v => u.1 = v.1 61 1 - Tn 0 1 ∧ rnQ P T S L (u.2.2, u.2.1) v) := by
  unfold f_X7_liftsOfTrial
  refine E2_ckl (fun _ => fun u v eu ev => ?_)
  cases hx : f_X6_runToEnd T P Lc with
  | none => rw [hx] at eu; cases eu
  | some a =>
    rw [hx] at eu
    have r := e_run (Lc := Lc) hR hd h70 a v hx ev
    have eu : (a.1 0 1 - Tn 0 1, a.2, a.1) = u := Option.some.inj eu
    rw [← eu]
    refine ⟨?_, r⟩
    show a.1 0 1 - Tn 0 1 = v.1 61 1 - Tn 0 1
    rw [r.2.2.2.2.2.1]
def clB (pa qa : Nat → Nat) (P : Tr) (Lc : Lo) (Tn Tu : Tr) (q0 q2 : Nat) (x : Int32) : Option (Int32 × Lo × Tr × Nat) := bd (f_X7_startTrial pa qa Tn Tu q0 q2) fun q => lt q.1 fun Tu_3 => lt q.2 fun q2_4 => lt (st Tu_3 0 3 x) fun Tu_7 => bd (f_X7_liftsOfTrial pa qa P Lc Tn Tu_7 q2_4) fun q => lt q.1 fun r8 => lt q.2.1 fun L_9 => lt q.2.2 fun Tu_10 => some (r8, L_9, Tu_10, q2_4)
theorem nw_lby {P T S : Tr} {L : Lo} {x : Int32} (h : Nw P T S L) : Ep (f_X8_liftsBy S L x) (fun q => Nw P T q.2.1 q.2.2) := Ep_mono (Ep_and (D_to (t_X8_liftsBy S L x h.1.1 h.1.2.1 h.1.2.2)) (u_X8_liftsBy S L x h.2.2.2.2.2.2.2.1.2.2 rfl)) (fun q hq => Nw_q h hq.1.1 hq.1.2.2.1 hq.1.2.2.2 hq.1.2.1 hq.2.1 hq.2.2)
theorem e_clB {P Tn Tu S : Tr} {L Lc : Lo} {pa qa : Nat → Nat} {q0 q2 : Nat} {x : Int32} (h : Nw P Tn S L) (h0 : 0 ≤ x.toInt) (h2 : x.toInt ≤ 2) : E2 (clB pa qa P Lc Tn Tu q0 q2 x) (f_X8_liftsBy S L x) (fun q q' => q.1 = q'.1) := by
  unfold clB f_X8_liftsBy
  refine E2_bd (e_start h) (fun q S2 hq => E2_ltl (fun T3 e3 => E2_ltl (fun n4 _ => E2_ltl (fun T7 e7 => E2_ltr (fun S4 e4 => ?_)))))
  obtain ⟨hR, g70, g65, g5, hf, _⟩ := hq
  have hR7 : Rl 1 P T7 S4 := by rw [e7, e4, e3]; exact Rl_rule hR h0 h2
  have hd : drw T7 L := fun n => absurd (show T7 0 5 = 0 by rw [e7, st_ne (by omega), e3]; exact g5) n
  have h70 : S4 0 70 = 0 := by rw [e4, st_ne (by omega)]; exact g70
  refine E2_bd (e_lot (Tn := Tn) hR7 hd h70) (fun u v huv => E2_ltl (fun r8 e8 => E2_ltl (fun L9 _ => E2_ltl (fun T10 _ => E2_ltr (fun S5 e5 => E2_ltr (fun L6 _ => ?_))))))
  unfold f_X8_more
  refine E2_sr (E2_some ?_)
  show r8 = S5 61 1 - S5 61 0
  obtain ⟨u1, u2⟩ := huv
  have a61 : v.1 61 0 = S4 61 0 := u2.2.2.2.2.1.1 61 0 rfl
  have b61 : S4 61 0 = S 61 0 := by rw [e4, st_oth (by omega)]; exact hf 61 0 (by omega) (by omega) (by omega) (by omega) (by omega) (by omega) (by omega)
  rw [e8, u1, e5, a61, b61, h.2.2.1.2.1]
theorem Nw_2 {P T S : Tr} {L : Lo} {v : Int32} (h : Nw P T S L) : Nw P T (st S 0 2 v) L := by
  refine Nw_of h (rI_s0 h.1 (iR_setU h.1.1 rfl) (by omega) (by omega)) (fun a j q => st_no (fun e => ?_)) (by rw [st_ne (by omega)]; exact h.2.2.2.2.2.2.2.1.2.2) rfl
  obtain ⟨rfl, rfl⟩ := e
  unfold h0c at q
  omega
theorem isIn_1 {x a b : Int32} (h1 : ¬ x < a) (h2 : ¬ b < x) : f_X8_isIn x a b = some 1 := by
  unfold f_X8_isIn; rw [if_neg h1, if_neg h2]
theorem isIn_0 {x a b : Int32} (h : x < a ∨ b < x) : f_X8_isIn x a b = some 0 := by
  unfold f_X8_isIn
  by_cases c : x < a
  · rw [if_pos c]
  · rw [if_neg c, if_pos (h.resolve_left c)]
theorem e_X7byRule {P Tn Tu S : Tr} {L Lc : Lo} {pa qa : Nat → Nat} {q0 q2 : Nat} {x : Int32} (h : Nw P Tn S L) : E2 (f_X7_byRule pa qa P Lc Tn Tu q0 q2 x) (f_X8_byRule S L x) (fun q q' => q.1 = q'.1 ∧ Nw P Tn q'.2.1 q'.2.2) := by
  unfold f_X7_byRule f_X8_byRule
  refine E2_ltr (fun S1 e1 => ?_)
  have hN : Nw P Tn S1 L := by rw [e1]; exact Nw_2 h
  by_cases c0 : x < 0
  · rw [if_pos c0, isIn_0 (Or.inl c0)]
    exact E2_sr (E2_pr rfl (E2_some ⟨rfl, hN⟩))
  · rw [if_neg c0]
    by_cases c3 : x < 3
    · have x0 := tq_ltn (x := x) (y := 0) (b := 0) rfl (by decide) c0
      have x3 := Int32.lt_iff_toInt_lt.mp c3
      rw [show (3 : Int32).toInt = 3 by decide] at x3
      rw [if_pos c3, isIn_1 c0 (fun g => by
        have g := Int32.lt_iff_toInt_lt.mp g
        rw [show (2 : Int32).toInt = 2 by decide] at g
        omega)]
      refine E2_sr (E2_qr (by decide) ?_)
      show E2 (clB pa qa P Lc Tn Tu q0 q2 x) _ _
      intro u v eu ev
      cases hy : f_X8_liftsBy S1 L x with
      | none => rw [hy] at ev; cases ev
      | some w =>
        rw [hy] at ev
        have ev : (w.1, w.2.1, w.2.2) = v := Option.some.inj ev
        rw [← ev]
        exact ⟨e_clB hN x0 (by omega) u w eu hy, nw_lby hN w hy⟩
    · have x3 := tq_ltn (x := x) (y := 3) (b := 3) rfl (by decide) c3
      rw [if_neg c3, isIn_0 (Or.inr (Int32.lt_iff_toInt_lt.mpr (by rw [show (2 : Int32).toInt = 2 by decide]; omega)))]
      exact E2_sr (E2_pr rfl (E2_some ⟨rfl, hN⟩))
-- 62.zaz.39.z29
/-! who is awaited stays so till the stop is theirs -/
theorem aw_s {j0 b0 : Nat} {S : Tr} {a i : Nat} {v : Int32} (h : S 59 j0 = 0 ∧ ¬ S 57 j0 = S 62 b0) (hn : ¬ (a = 57 ∨ a = 62)) (h9 : ¬ (a = 59 ∧ i = j0)) : st S a i v 59 j0 = 0 ∧ ¬ st S a i v 57 j0 = st S a i v 62 b0 := by
  rw [st_no (fun e => h9 ⟨e.1.symm, e.2.symm⟩), st_no (fun e => hn (Or.inl e.1.symm)), st_no (fun e => hn (Or.inr e.1.symm))]; exact h
set_option maxHeartbeats 1000000 in
set_option maxRecDepth 100000 in
theorem awJ_X8_takes_J96 {j0 b0 : Nat} (x1 : Int32) (x2 : Int32) (x3 : Int32) (S : Tr) (hS : S 59 j0 = 0 ∧ ¬ S 57 j0 = S 62 b0)   : Ep (fJ_X8_takes_J96 x1 x2 x3 S) (fun q => q 59 j0 = 0 ∧ ¬ q 57 j0 = q 62 b0) := by
  unfold fJ_X8_takes_J96
  refine Ep_ck ?_
  refine Ep_lt (fun S_11 eS_11 => ?_)
  have hS_11 : S_11 59 j0 = 0 ∧ ¬ S_11 57 j0 = S_11 62 b0 := by rw [eS_11]; exact aw_s hS (by omega) (by omega)
  refine Ep_lt (fun S_12 eS_12 => ?_)
  have hS_12 : S_12 59 j0 = 0 ∧ ¬ S_12 57 j0 = S_12 62 b0 := by rw [eS_12]; exact aw_s hS_11 (by omega) (by omega)
  exact Ep_some hS_12
set_option maxHeartbeats 1000000 in
set_option maxRecDepth 100000 in
theorem awB_X8_takes_L36 {j0 b0 : Nat} (x1 : Int32) (x2 : Int32) (x3 : Int32) (x4 : Int32)    (N : Nat) : ∀ (x5 : Int32) (S : Tr), S 59 j0 = 0 ∧ ¬ S 57 j0 = S 62 b0 → Ep (lpF (fun _ _ => none) (fB_X8_takes_L36 x1 x2 x3 x4) N x5 S) (fun q => q 59 j0 = 0 ∧ ¬ q 57 j0 = q 62 b0) := by
  induction N with
  | zero => intro x5 S _; exact Ep_none
  | succ N ih =>
    intro x5 S hS
    show Ep (fB_X8_takes_L36 x1 x2 x3 x4 (lpF (fun _ _ => none) (fB_X8_takes_L36 x1 x2 x3 x4) N) x5 S) _
    have hk36 := ih
    clear ih
    generalize lpF (fun _ _ => none) (fB_X8_takes_L36 x1 x2 x3 x4) N = k36 at hk36 ⊢
    unfold fB_X8_takes_L36
    refine Ep_ck ?_
    refine Ep_ite (fun _ => ?_) (fun _ => ?_)
    · exact awJ_X8_takes_J96 x1 x2 x3 S hS
    · refine Ep_ck ?_
      refine Ep_ck ?_
      refine Ep_lt (fun S_15 eS_15 => ?_)
      have hS_15 : S_15 59 j0 = 0 ∧ ¬ S_15 57 j0 = S_15 62 b0 := by rw [eS_15]; exact aw_s hS (by omega) (by omega)
      refine Ep_lt (fun y16 ey16 => ?_)
      exact hk36 y16 S_15 hS_15
set_option maxHeartbeats 1000000 in
set_option maxRecDepth 100000 in
theorem awL_X8_takes_L36 {j0 b0 : Nat} (x1 : Int32) (x2 : Int32) (x3 : Int32) (x4 : Int32)    (x5 : Int32) (S : Tr) (hS : S 59 j0 = 0 ∧ ¬ S 57 j0 = S 62 b0) : Ep (fL_X8_takes_L36 x1 x2 x3 x4 x5 S) (fun q => q 59 j0 = 0 ∧ ¬ q 57 j0 = q 62 b0) := by
  unfold fL_X8_takes_L36
  exact awB_X8_takes_L36 x1 x2 x3 x4 2000 x5 S hS
set_option maxHeartbeats 1000000 in
set_option maxRecDepth 100000 in
theorem aw_X8_takes {j0 b0 : Nat} (S : Tr) (x1 : Int32) (x2 : Int32) (x3 : Int32) (hS : S 59 j0 = 0 ∧ ¬ S 57 j0 = S 62 b0)   : Ep (f_X8_takes S x1 x2 x3) (fun q => q 59 j0 = 0 ∧ ¬ q 57 j0 = q 62 b0) := by
  unfold f_X8_takes
  refine Ep_ck ?_
  refine Ep_lt (fun y2 ey2 => ?_)
  refine Ep_any (fun r3 => ?_)
  refine Ep_ck ?_
  refine Ep_lt (fun S_7 eS_7 => ?_)
  have hS_7 : S_7 59 j0 = 0 ∧ ¬ S_7 57 j0 = S_7 62 b0 := by rw [eS_7]; exact aw_s hS (by omega) (by omega)
  exact awL_X8_takes_L36 x1 x2 x3 y2 r3 S_7 hS_7
set_option maxHeartbeats 1000000 in
set_option maxRecDepth 100000 in
theorem aw_X8_lays {j0 b0 : Nat} (S : Tr) (x1 : Int32) (x2 : Int32) (x3 : Int32) (hS : S 59 j0 = 0 ∧ ¬ S 57 j0 = S 62 b0)   : Ep (f_X8_lays S x1 x2 x3) (fun q => q 59 j0 = 0 ∧ ¬ q 57 j0 = q 62 b0) := by
  unfold f_X8_lays
  refine Ep_ck ?_
  refine Ep_ck ?_
  refine Ep_lt (fun S_3 eS_3 => ?_)
  have hS_3 : S_3 59 j0 = 0 ∧ ¬ S_3 57 j0 = S_3 62 b0 := by rw [eS_3]; exact aw_s hS (by omega) (by omega)
  refine Ep_lt (fun S_4 eS_4 => ?_)
  have hS_4 : S_4 59 j0 = 0 ∧ ¬ S_4 57 j0 = S_4 62 b0 := by rw [eS_4]; exact aw_s hS_3 (by omega) (by omega)
  refine Ep_ck ?_
  refine Ep_lt (fun S_6 eS_6 => ?_)
  have hS_6 : S_6 59 j0 = 0 ∧ ¬ S_6 57 j0 = S_6 62 b0 := by rw [eS_6]; exact aw_s hS_4 (by omega) (by omega)
  refine Ep_lt (fun S_7 eS_7 => ?_)
  have hS_7 : S_7 59 j0 = 0 ∧ ¬ S_7 57 j0 = S_7 62 b0 := by rw [eS_7]; exact aw_s hS_6 (by omega) (by omega)
  exact Ep_some hS_7
set_option maxHeartbeats 1000000 in
set_option maxRecDepth 100000 in
theorem awJ_X8_lawOf_J39 {j0 b0 : Nat} (x1 : Int32) (S : Tr) (L : Lo) (hS : S 59 j0 = 0 ∧ ¬ S 57 j0 = S 62 b0)   : Ep (fJ_X8_lawOf_J39 x1 S L) (fun q => q.2.1 59 j0 = 0 ∧ ¬ q.2.1 57 j0 = q.2.1 62 b0) := by
  unfold fJ_X8_lawOf_J39
  refine Ep_ite (fun _ => ?_) (fun _ => ?_)
  · refine Ep_ck ?_
    refine Ep_ck ?_
    exact Ep_some hS
  · exact Ep_some hS
set_option maxHeartbeats 1000000 in
set_option maxRecDepth 100000 in
theorem awJ_X8_bounded_J29 {j0 b0 : Nat} (x1 : Int64) (s0 : Int32) (S : Tr) (hS : S 59 j0 = 0 ∧ ¬ S 57 j0 = S 62 b0)   : Ep (fJ_X8_bounded_J29 x1 s0 S) (fun q => q.2 59 j0 = 0 ∧ ¬ q.2 57 j0 = q.2 62 b0) := by
  unfold fJ_X8_bounded_J29
  refine Ep_ck ?_
  refine Ep_lt (fun S_3 eS_3 => ?_)
  have hS_3 : S_3 59 j0 = 0 ∧ ¬ S_3 57 j0 = S_3 62 b0 := by rw [eS_3]; exact aw_s hS (by omega) (by omega)
  refine Ep_ite (fun _ => ?_) (fun _ => ?_)
  · exact Ep_some hS_3
  · exact Ep_some hS_3
set_option maxHeartbeats 1000000 in
set_option maxRecDepth 100000 in
theorem awJ_X8_bounded_J24 {j0 b0 : Nat} (x1 : Int64) (S : Tr) (hS : S 59 j0 = 0 ∧ ¬ S 57 j0 = S 62 b0)   : Ep (fJ_X8_bounded_J24 x1 S) (fun q => q.2 59 j0 = 0 ∧ ¬ q.2 57 j0 = q.2 62 b0) := by
  unfold fJ_X8_bounded_J24
  exact awJ_X8_bounded_J29 x1 1 S hS
set_option maxHeartbeats 1000000 in
set_option maxRecDepth 100000 in
theorem aw_X8_bounded {j0 b0 : Nat} (S : Tr) (x1 : Int64) (hS : S 59 j0 = 0 ∧ ¬ S 57 j0 = S 62 b0)   : Ep (f_X8_bounded S x1) (fun q => q.2 59 j0 = 0 ∧ ¬ q.2 57 j0 = q.2 62 b0) := by
  unfold f_X8_bounded
  refine Ep_ite (fun _ => ?_) (fun _ => ?_)
  · refine Ep_ite (fun _ => ?_) (fun _ => ?_)
    · exact awJ_X8_bounded_J24 x1 S hS
    · refine Ep_ite (fun _ => ?_) (fun _ => ?_)
      · exact awJ_X8_bounded_J29 x1 0 S hS
      · exact awJ_X8_bounded_J24 x1 S hS
  · exact awJ_X8_bounded_J24 x1 S hS
set_option maxHeartbeats 1000000 in
set_option maxRecDepth 100000 in
theorem awJ_X8_times_J69 {j0 b0 : Nat} (x1 : Int64) (x3 : Int64) (s0 : Int32) (S : Tr) (hS : S 59 j0 = 0 ∧ ¬ S 57 j0 = S 62 b0)   : Ep (fJ_X8_times_J69 x1 x3 s0 S) (fun q => q.2 59 j0 = 0 ∧ ¬ q.2 57 j0 = q.2 62 b0) := by
  unfold fJ_X8_times_J69
  refine Ep_ck ?_
  refine Ep_lt (fun S_4 eS_4 => ?_)
  have hS_4 : S_4 59 j0 = 0 ∧ ¬ S_4 57 j0 = S_4 62 b0 := by rw [eS_4]; exact aw_s hS (by omega) (by omega)
  refine Ep_ite (fun _ => ?_) (fun _ => ?_)
  · exact Ep_some hS_4
  · exact Ep_some hS_4
set_option maxHeartbeats 1000000 in
set_option maxRecDepth 100000 in
theorem awJ_X8_times_J64 {j0 b0 : Nat} (x1 : Int64) (x3 : Int64) (S : Tr) (hS : S 59 j0 = 0 ∧ ¬ S 57 j0 = S 62 b0)   : Ep (fJ_X8_times_J64 x1 x3 S) (fun q => q.2 59 j0 = 0 ∧ ¬ q.2 57 j0 = q.2 62 b0) := by
  unfold fJ_X8_times_J64
  exact awJ_X8_times_J69 x1 x3 1 S hS
set_option maxHeartbeats 1000000 in
set_option maxRecDepth 100000 in
theorem awJ_X8_times_J49 {j0 b0 : Nat} (x1 : Int64) (x3 : Int64) (s0 : Int32) (S : Tr) (hS : S 59 j0 = 0 ∧ ¬ S 57 j0 = S 62 b0)   : Ep (fJ_X8_times_J49 x1 x3 s0 S) (fun q => q.2 59 j0 = 0 ∧ ¬ q.2 57 j0 = q.2 62 b0) := by
  unfold fJ_X8_times_J49
  refine Ep_ite (fun _ => ?_) (fun _ => ?_)
  · refine Ep_ite (fun _ => ?_) (fun _ => ?_)
    · exact awJ_X8_times_J69 x1 x3 0 S hS
    · exact awJ_X8_times_J64 x1 x3 S hS
  · exact awJ_X8_times_J64 x1 x3 S hS
set_option maxHeartbeats 1000000 in
set_option maxRecDepth 100000 in
theorem awJ_X8_times_J48 {j0 b0 : Nat} (x1 : Int64) (x3 : Int64) (S : Tr) (hS : S 59 j0 = 0 ∧ ¬ S 57 j0 = S 62 b0)   : Ep (fJ_X8_times_J48 x1 x3 S) (fun q => q.2 59 j0 = 0 ∧ ¬ q.2 57 j0 = q.2 62 b0) := by
  unfold fJ_X8_times_J48
  exact awJ_X8_times_J49 x1 x3 0 S hS
set_option maxHeartbeats 1000000 in
set_option maxRecDepth 100000 in
theorem awJ_X8_times_J39 {j0 b0 : Nat} (x1 : Int64) (x3 : Int64) (s0 : Int64) (s1 : Int64) (s2 : Int64) (S : Tr) (hS : S 59 j0 = 0 ∧ ¬ S 57 j0 = S 62 b0)   : Ep (fJ_X8_times_J39 x1 x3 s0 s1 s2 S) (fun q => q.2 59 j0 = 0 ∧ ¬ q.2 57 j0 = q.2 62 b0) := by
  unfold fJ_X8_times_J39
  refine Ep_ck ?_
  refine Ep_ite (fun _ => ?_) (fun _ => ?_)
  · exact awJ_X8_times_J48 x1 x3 S hS
  · exact awJ_X8_times_J49 x1 x3 1 S hS
set_option maxHeartbeats 1000000 in
set_option maxRecDepth 100000 in
theorem awJ_X8_times_J24 {j0 b0 : Nat} (x1 : Int64) (x3 : Int64) (s0 : Int64) (S : Tr) (hS : S 59 j0 = 0 ∧ ¬ S 57 j0 = S 62 b0)   : Ep (fJ_X8_times_J24 x1 x3 s0 S) (fun q => q.2 59 j0 = 0 ∧ ¬ q.2 57 j0 = q.2 62 b0) := by
  unfold fJ_X8_times_J24
  refine Ep_ite (fun _ => ?_) (fun _ => ?_)
  · exact awJ_X8_times_J39 x1 x3 x1 1000000000000 s0 S hS
  · exact awJ_X8_times_J39 x1 x3 (-x1) 1000000000000 s0 S hS
set_option maxHeartbeats 1000000 in
set_option maxRecDepth 100000 in
theorem aw_X8_times {j0 b0 : Nat} (S : Tr) (x1 : Int64) (x3 : Int64) (hS : S 59 j0 = 0 ∧ ¬ S 57 j0 = S 62 b0)   : Ep (f_X8_times S x1 x3) (fun q => q.2 59 j0 = 0 ∧ ¬ q.2 57 j0 = q.2 62 b0) := by
  unfold f_X8_times
  refine Ep_ite (fun _ => ?_) (fun _ => ?_)
  · exact awJ_X8_times_J48 x1 x3 S hS
  · refine Ep_ite (fun _ => ?_) (fun _ => ?_)
    · exact awJ_X8_times_J48 x1 x3 S hS
    · refine Ep_ite (fun _ => ?_) (fun _ => ?_)
      · exact awJ_X8_times_J24 x1 x3 x3 S hS
      · exact awJ_X8_times_J24 x1 x3 (-x3) S hS
set_option maxHeartbeats 1000000 in
set_option maxRecDepth 100000 in
theorem awJ_X8_valueOf_J240 {j0 b0 : Nat} (L : Lo) (x2 : Int64) (x4 : Int64) (s0 : Int32) (S : Tr) (hS : S 59 j0 = 0 ∧ ¬ S 57 j0 = S 62 b0)   : Ep (fJ_X8_valueOf_J240 L x2 x4 s0 S) (fun q => q.2 59 j0 = 0 ∧ ¬ q.2 57 j0 = q.2 62 b0) := by
  unfold fJ_X8_valueOf_J240
  refine Ep_ck ?_
  refine Ep_lt (fun S_34 eS_34 => ?_)
  have hS_34 : S_34 59 j0 = 0 ∧ ¬ S_34 57 j0 = S_34 62 b0 := by rw [eS_34]; exact aw_s hS (by omega) (by omega)
  refine Ep_ite (fun _ => ?_) (fun _ => ?_)
  · refine Ep_ck ?_
    exact Ep_some hS_34
  · exact Ep_some hS_34
set_option maxHeartbeats 1000000 in
set_option maxRecDepth 100000 in
theorem awJ_X8_valueOf_J235 {j0 b0 : Nat} (L : Lo) (x2 : Int64) (x4 : Int64) (S : Tr) (hS : S 59 j0 = 0 ∧ ¬ S 57 j0 = S 62 b0)   : Ep (fJ_X8_valueOf_J235 L x2 x4 S) (fun q => q.2 59 j0 = 0 ∧ ¬ q.2 57 j0 = q.2 62 b0) := by
  unfold fJ_X8_valueOf_J235
  exact awJ_X8_valueOf_J240 L x2 x4 1 S hS
set_option maxHeartbeats 1000000 in
set_option maxRecDepth 100000 in
theorem aw_X8_valueOf {j0 b0 : Nat} (S : Tr) (L : Lo) (x1 : Int32) (hS : S 59 j0 = 0 ∧ ¬ S 57 j0 = S 62 b0)   : Ep (f_X8_valueOf S L x1) (fun q => q.2 59 j0 = 0 ∧ ¬ q.2 57 j0 = q.2 62 b0) := by
  unfold f_X8_valueOf
  refine Ep_ck ?_
  refine Ep_ite (fun _ => ?_) (fun _ => ?_)
  · exact Ep_some hS
  · refine Ep_ite (fun _ => ?_) (fun _ => ?_)
    · refine Ep_ck ?_
      exact Ep_some hS
    · refine Ep_ck ?_
      refine Ep_lt (fun y5 ey5 => ?_)
      refine Ep_ite (fun _ => ?_) (fun _ => ?_)
      · refine Ep_ite (fun _ => ?_) (fun _ => ?_)
        · exact Ep_some hS
        · exact Ep_some hS
      · refine Ep_ck ?_
        refine Ep_lt (fun y8 ey8 => ?_)
        refine Ep_lt (fun y9 ey9 => ?_)
        refine Ep_ite (fun _ => ?_) (fun _ => ?_)
        · refine Ep_ite (fun _ => ?_) (fun _ => ?_)
          · exact Ep_some hS
          · refine Ep_ite (fun _ => ?_) (fun _ => ?_)
            · exact Ep_some hS
            · exact Ep_some hS
        · refine Ep_ite (fun _ => ?_) (fun _ => ?_)
          · refine Ep_ite (fun _ => ?_) (fun _ => ?_)
            · refine Ep_ite (fun _ => ?_) (fun _ => ?_)
              · exact Ep_some hS
              · exact Ep_some hS
            · exact Ep_some hS
          · refine Ep_ite (fun _ => ?_) (fun _ => ?_)
            · refine Ep_bd (aw_X8_bounded S (y5 + y8) hS) (fun q hq => ?_)
              refine Ep_lt (fun r17 er17 => ?_)
              refine Ep_lt (fun S_18 eS_18 => ?_)
              have hS_18 : S_18 59 j0 = 0 ∧ ¬ S_18 57 j0 = S_18 62 b0 := by rw [eS_18]; exact hq
              exact Ep_some hS_18
            · refine Ep_ite (fun _ => ?_) (fun _ => ?_)
              · refine Ep_bd (aw_X8_bounded S (y5 - y8) hS) (fun q hq => ?_)
                refine Ep_lt (fun r22 er22 => ?_)
                refine Ep_lt (fun S_23 eS_23 => ?_)
                have hS_23 : S_23 59 j0 = 0 ∧ ¬ S_23 57 j0 = S_23 62 b0 := by rw [eS_23]; exact hq
                exact Ep_some hS_23
              · refine Ep_ite (fun _ => ?_) (fun _ => ?_)
                · refine Ep_bd (aw_X8_times S y5 y8 hS) (fun q hq => ?_)
                  refine Ep_lt (fun r27 er27 => ?_)
                  refine Ep_lt (fun S_28 eS_28 => ?_)
                  have hS_28 : S_28 59 j0 = 0 ∧ ¬ S_28 57 j0 = S_28 62 b0 := by rw [eS_28]; exact hq
                  exact Ep_some hS_28
                · refine Ep_ite (fun _ => ?_) (fun _ => ?_)
                  · refine Ep_ite (fun _ => ?_) (fun _ => ?_)
                    · refine Ep_ite (fun _ => ?_) (fun _ => ?_)
                      · exact awJ_X8_valueOf_J235 L y5 y8 S hS
                      · exact awJ_X8_valueOf_J240 L y5 y8 0 S hS
                    · exact awJ_X8_valueOf_J235 L y5 y8 S hS
                  · refine Ep_any (fun r38 => ?_)
                    refine Ep_ite (fun _ => ?_) (fun _ => ?_)
                    · exact Ep_some hS
                    · exact Ep_some hS
set_option maxHeartbeats 1000000 in
set_option maxRecDepth 100000 in
theorem awB_X8_lawOf_L12 {j0 b0 : Nat} (x1 : Int32)    (N : Nat) : ∀ (x2 : Int32) (S : Tr) (L : Lo), S 59 j0 = 0 ∧ ¬ S 57 j0 = S 62 b0 → Ep (lpF (fun _ _ _ => none) (fB_X8_lawOf_L12 x1) N x2 S L) (fun q => q.2.1 59 j0 = 0 ∧ ¬ q.2.1 57 j0 = q.2.1 62 b0) := by
  induction N with
  | zero => intro x2 S L _; exact Ep_none
  | succ N ih =>
    intro x2 S L hS
    show Ep (fB_X8_lawOf_L12 x1 (lpF (fun _ _ _ => none) (fB_X8_lawOf_L12 x1) N) x2 S L) _
    have hk12 := ih
    clear ih
    generalize lpF (fun _ _ _ => none) (fB_X8_lawOf_L12 x1) N = k12 at hk12 ⊢
    unfold fB_X8_lawOf_L12
    refine Ep_ck ?_
    refine Ep_ite (fun _ => ?_) (fun _ => ?_)
    · exact awJ_X8_lawOf_J39 x1 S L hS
    · refine Ep_bd (aw_X8_valueOf S L x2 hS) (fun q hq => ?_)
      refine Ep_lt (fun r9 er9 => ?_)
      refine Ep_lt (fun S_10 eS_10 => ?_)
      have hS_10 : S_10 59 j0 = 0 ∧ ¬ S_10 57 j0 = S_10 62 b0 := by rw [eS_10]; exact hq
      refine Ep_ck ?_
      refine Ep_lt (fun L_14 eL_14 => ?_)
      refine Ep_lt (fun y15 ey15 => ?_)
      exact hk12 y15 S_10 L_14 hS_10
set_option maxHeartbeats 1000000 in
set_option maxRecDepth 100000 in
theorem awL_X8_lawOf_L12 {j0 b0 : Nat} (x1 : Int32)    (x2 : Int32) (S : Tr) (L : Lo) (hS : S 59 j0 = 0 ∧ ¬ S 57 j0 = S 62 b0) : Ep (fL_X8_lawOf_L12 x1 x2 S L) (fun q => q.2.1 59 j0 = 0 ∧ ¬ q.2.1 57 j0 = q.2.1 62 b0) := by
  unfold fL_X8_lawOf_L12
  exact awB_X8_lawOf_L12 x1 2000 x2 S L hS
set_option maxHeartbeats 1000000 in
set_option maxRecDepth 100000 in
theorem aw_X8_lawOf {j0 b0 : Nat} (S : Tr) (L : Lo) (x1 : Int32) (hS : S 59 j0 = 0 ∧ ¬ S 57 j0 = S 62 b0)   : Ep (f_X8_lawOf S L x1) (fun q => q.2.1 59 j0 = 0 ∧ ¬ q.2.1 57 j0 = q.2.1 62 b0) := by
  unfold f_X8_lawOf
  refine Ep_lt (fun S_1 eS_1 => ?_)
  have hS_1 : S_1 59 j0 = 0 ∧ ¬ S_1 57 j0 = S_1 62 b0 := by rw [eS_1]; exact aw_s hS (by omega) (by omega)
  refine Ep_ck ?_
  refine Ep_lt (fun y3 ey3 => ?_)
  exact awL_X8_lawOf_L12 x1 y3 S_1 L hS_1
set_option maxHeartbeats 1000000 in
set_option maxRecDepth 100000 in
theorem aw_X8_boundLaw {j0 b0 : Nat} (S : Tr) (L : Lo) (x1 : Int32) (x2 : Int32) (x3 : Int32) (hS : S 59 j0 = 0 ∧ ¬ S 57 j0 = S 62 b0)   : Ep (f_X8_boundLaw S L x1 x2 x3) (fun q => q.2.1 59 j0 = 0 ∧ ¬ q.2.1 57 j0 = q.2.1 62 b0) := by
  unfold f_X8_boundLaw
  refine Ep_ck ?_
  refine Ep_ite (fun _ => ?_) (fun _ => ?_)
  · exact Ep_some hS
  · refine Ep_bd (aw_X8_lawOf S L x1 hS) (fun q hq => ?_)
    refine Ep_lt (fun r3 er3 => ?_)
    refine Ep_lt (fun S_4 eS_4 => ?_)
    have hS_4 : S_4 59 j0 = 0 ∧ ¬ S_4 57 j0 = S_4 62 b0 := by rw [eS_4]; exact hq
    refine Ep_lt (fun L_5 eL_5 => ?_)
    refine Ep_ite (fun _ => ?_) (fun _ => ?_)
    · refine Ep_ite (fun _ => ?_) (fun _ => ?_)
      · refine Ep_ite (fun _ => ?_) (fun _ => ?_)
        · exact Ep_some hS_4
        · exact Ep_some hS_4
      · exact Ep_some hS_4
    · exact Ep_some hS_4
set_option maxHeartbeats 1000000 in
set_option maxRecDepth 100000 in
theorem aw_X8_liftOf {j0 b0 : Nat} (S : Tr) (L : Lo) (x1 : Int32) (x2 : Int32) (x3 : Int32) (hS : S 59 j0 = 0 ∧ ¬ S 57 j0 = S 62 b0)   : Ep (f_X8_liftOf S L x1 x2 x3) (fun q => q.2.1 59 j0 = 0 ∧ ¬ q.2.1 57 j0 = q.2.1 62 b0) := by
  unfold f_X8_liftOf
  refine Ep_any (fun L_1 => ?_)
  refine Ep_ck ?_
  refine Ep_any (fun r5 => ?_)
  refine Ep_ck ?_
  refine Ep_bd (aw_X8_boundLaw S L_1 (0 : Int32) (((S 31 x2.toNatClampNeg) / r5) + 1) (99 : Int32) hS) (fun q hq => ?_)
  refine Ep_lt (fun r9 er9 => ?_)
  refine Ep_lt (fun S_10 eS_10 => ?_)
  have hS_10 : S_10 59 j0 = 0 ∧ ¬ S_10 57 j0 = S_10 62 b0 := by rw [eS_10]; exact hq
  refine Ep_lt (fun L_11 eL_11 => ?_)
  exact Ep_some hS_10
set_option maxHeartbeats 1000000 in
set_option maxRecDepth 100000 in
theorem awB_X8_secondsOf_L23 {j0 b0 : Nat} (x1 : Int32) (x2 : Int32) (x3 : Int32)    (N : Nat) : ∀ (x4 : Int32) (x5 : Int32) (S : Tr) (L : Lo), S 59 j0 = 0 ∧ ¬ S 57 j0 = S 62 b0 → Ep (lpF (fun _ _ _ _ => none) (fB_X8_secondsOf_L23 x1 x2 x3) N x4 x5 S L) (fun q => q.2.1 59 j0 = 0 ∧ ¬ q.2.1 57 j0 = q.2.1 62 b0) := by
  induction N with
  | zero => intro x4 x5 S L _; exact Ep_none
  | succ N ih =>
    intro x4 x5 S L hS
    show Ep (fB_X8_secondsOf_L23 x1 x2 x3 (lpF (fun _ _ _ _ => none) (fB_X8_secondsOf_L23 x1 x2 x3) N) x4 x5 S L) _
    have hk23 := ih
    clear ih
    generalize lpF (fun _ _ _ _ => none) (fB_X8_secondsOf_L23 x1 x2 x3) N = k23 at hk23 ⊢
    unfold fB_X8_secondsOf_L23
    refine Ep_ck ?_
    refine Ep_ite (fun _ => ?_) (fun _ => ?_)
    · exact Ep_some hS
    · refine Ep_any (fun r8 => ?_)
      refine Ep_ck ?_
      refine Ep_bd (aw_X8_liftOf S L x1 r8 (S 30 x2.toNatClampNeg) hS) (fun q hq => ?_)
      refine Ep_lt (fun r12 er12 => ?_)
      refine Ep_lt (fun S_13 eS_13 => ?_)
      have hS_13 : S_13 59 j0 = 0 ∧ ¬ S_13 57 j0 = S_13 62 b0 := by rw [eS_13]; exact hq
      refine Ep_lt (fun L_14 eL_14 => ?_)
      refine Ep_lt (fun y17 ey17 => ?_)
      refine Ep_lt (fun y18 ey18 => ?_)
      exact hk23 y17 y18 S_13 L_14 hS_13
set_option maxHeartbeats 1000000 in
set_option maxRecDepth 100000 in
theorem awL_X8_secondsOf_L23 {j0 b0 : Nat} (x1 : Int32) (x2 : Int32) (x3 : Int32)    (x4 : Int32) (x5 : Int32) (S : Tr) (L : Lo) (hS : S 59 j0 = 0 ∧ ¬ S 57 j0 = S 62 b0) : Ep (fL_X8_secondsOf_L23 x1 x2 x3 x4 x5 S L) (fun q => q.2.1 59 j0 = 0 ∧ ¬ q.2.1 57 j0 = q.2.1 62 b0) := by
  unfold fL_X8_secondsOf_L23
  exact awB_X8_secondsOf_L23 x1 x2 x3 2000 x4 x5 S L hS
set_option maxHeartbeats 1000000 in
set_option maxRecDepth 100000 in
theorem aw_X8_secondsOf {j0 b0 : Nat} (S : Tr) (L : Lo) (x1 : Int32) (x2 : Int32) (hS : S 59 j0 = 0 ∧ ¬ S 57 j0 = S 62 b0)   : Ep (f_X8_secondsOf S L x1 x2) (fun q => q.2.1 59 j0 = 0 ∧ ¬ q.2.1 57 j0 = q.2.1 62 b0) := by
  unfold f_X8_secondsOf
  refine Ep_ck ?_
  refine Ep_lt (fun y2 ey2 => ?_)
  refine Ep_any (fun r3 => ?_)
  exact awL_X8_secondsOf_L23 x1 x2 y2 0 r3 S L hS
set_option maxHeartbeats 1000000 in
set_option maxRecDepth 100000 in
theorem awJ_X8_outs_J182 {j0 b0 : Nat} (k9 : Int32 → Int32 → Tr → Lo → Option (Tr × Lo)) (x1 : Int32) (x2 : Int32) (x3 : Int32) (S : Tr) (L : Lo) (hS : S 59 j0 = 0 ∧ ¬ S 57 j0 = S 62 b0) (hk9 : ∀ (x2 : Int32) (x3 : Int32) (S : Tr) (L : Lo), S 59 j0 = 0 ∧ ¬ S 57 j0 = S 62 b0 → Ep (k9 x2 x3 S L) (fun q => q.1 59 j0 = 0 ∧ ¬ q.1 57 j0 = q.1 62 b0)) (hne : ¬ (((6 : Int32) * x1) + x3).toNatClampNeg = j0) : Ep (fJ_X8_outs_J182 k9 x1 x2 x3 S L) (fun q => q.1 59 j0 = 0 ∧ ¬ q.1 57 j0 = q.1 62 b0) := by
  unfold fJ_X8_outs_J182
  refine Ep_any (fun r24 => ?_)
  refine Ep_ite (fun _ => ?_) (fun _ => ?_)
  · refine Ep_ck ?_
    refine Ep_lt (fun S_30 eS_30 => ?_)
    have hS_30 : S_30 59 j0 = 0 ∧ ¬ S_30 57 j0 = S_30 62 b0 := by rw [eS_30]; exact aw_s hS (by omega) (fun e => hne e.2)
    refine Ep_lt (fun y31 ey31 => ?_)
    exact hk9 x2 y31 S_30 L hS_30
  · refine Ep_lt (fun y28 ey28 => ?_)
    exact hk9 x2 y28 S L hS
set_option maxHeartbeats 1000000 in
set_option maxRecDepth 100000 in
theorem awJ_X8_outs_J117 {j0 b0 : Nat} (k9 : Int32 → Int32 → Tr → Lo → Option (Tr × Lo)) (k32 : Int32 → Int32 → Tr → Lo → Option (Tr × Lo)) (x1 : Int32) (x3 : Int32) (x4 : Int32) (x5 : Int32) (s0 : Int32) (S : Tr) (L : Lo) (hS : S 59 j0 = 0 ∧ ¬ S 57 j0 = S 62 b0) (hk9 : ∀ (x2 : Int32) (x3 : Int32) (S : Tr) (L : Lo), S 59 j0 = 0 ∧ ¬ S 57 j0 = S 62 b0 → Ep (k9 x2 x3 S L) (fun q => q.1 59 j0 = 0 ∧ ¬ q.1 57 j0 = q.1 62 b0)) (hk32 : ∀ (x2 : Int32) (x4 : Int32) (S : Tr) (L : Lo), S 59 j0 = 0 ∧ ¬ S 57 j0 = S 62 b0 → Ep (k32 x2 x4 S L) (fun q => q.1 59 j0 = 0 ∧ ¬ q.1 57 j0 = q.1 62 b0)) (hne : ¬ (((6 : Int32) * x1) + x3).toNatClampNeg = j0) : Ep (fJ_X8_outs_J117 k9 k32 x1 x3 x4 x5 s0 S L) (fun q => q.1 59 j0 = 0 ∧ ¬ q.1 57 j0 = q.1 62 b0) := by
  unfold fJ_X8_outs_J117
  refine Ep_ite (fun _ => ?_) (fun _ => ?_)
  · refine Ep_lt (fun y56 ey56 => ?_)
    exact hk32 s0 y56 S L hS
  · refine Ep_lt (fun S_44 eS_44 => ?_)
    have hS_44 : S_44 59 j0 = 0 ∧ ¬ S_44 57 j0 = S_44 62 b0 := by rw [eS_44]; exact aw_s hS (by omega) (by omega)
    refine Ep_ck ?_
    refine Ep_lt (fun S_46 eS_46 => ?_)
    have hS_46 : S_46 59 j0 = 0 ∧ ¬ S_46 57 j0 = S_46 62 b0 := by rw [eS_46]; exact aw_s hS_44 (by omega) (by omega)
    refine Ep_ck ?_
    refine Ep_any (fun r48 => ?_)
    refine Ep_lt (fun S_51 eS_51 => ?_)
    have hS_51 : S_51 59 j0 = 0 ∧ ¬ S_51 57 j0 = S_51 62 b0 := by rw [eS_51]; exact aw_s hS_46 (by omega) (by omega)
    refine Ep_bd (aw_X8_takes S_51 x1 x4 (2 : Int32) hS_51) (fun S_52 hS_52 => ?_)
    refine Ep_lt (fun y55 ey55 => ?_)
    exact hk32 s0 y55 S_52 L hS_52
set_option maxHeartbeats 1000000 in
set_option maxRecDepth 100000 in
theorem awJ_X8_outs_J116 {j0 b0 : Nat} (k9 : Int32 → Int32 → Tr → Lo → Option (Tr × Lo)) (k32 : Int32 → Int32 → Tr → Lo → Option (Tr × Lo)) (x1 : Int32) (x3 : Int32) (x4 : Int32) (x5 : Int32) (S : Tr) (L : Lo) (hS : S 59 j0 = 0 ∧ ¬ S 57 j0 = S 62 b0) (hk9 : ∀ (x2 : Int32) (x3 : Int32) (S : Tr) (L : Lo), S 59 j0 = 0 ∧ ¬ S 57 j0 = S 62 b0 → Ep (k9 x2 x3 S L) (fun q => q.1 59 j0 = 0 ∧ ¬ q.1 57 j0 = q.1 62 b0)) (hk32 : ∀ (x2 : Int32) (x4 : Int32) (S : Tr) (L : Lo), S 59 j0 = 0 ∧ ¬ S 57 j0 = S 62 b0 → Ep (k32 x2 x4 S L) (fun q => q.1 59 j0 = 0 ∧ ¬ q.1 57 j0 = q.1 62 b0)) (hne : ¬ (((6 : Int32) * x1) + x3).toNatClampNeg = j0) : Ep (fJ_X8_outs_J116 k9 k32 x1 x3 x4 x5 S L) (fun q => q.1 59 j0 = 0 ∧ ¬ q.1 57 j0 = q.1 62 b0) := by
  unfold fJ_X8_outs_J116
  exact awJ_X8_outs_J117 k9 k32 x1 x3 x4 x5 0 S L hS hk9 hk32 hne
set_option maxHeartbeats 1000000 in
set_option maxRecDepth 100000 in
theorem awJ_X8_outs_J112 {j0 b0 : Nat} (k9 : Int32 → Int32 → Tr → Lo → Option (Tr × Lo)) (k32 : Int32 → Int32 → Tr → Lo → Option (Tr × Lo)) (x1 : Int32) (x3 : Int32) (x4 : Int32) (x5 : Int32) (S : Tr) (L : Lo) (hS : S 59 j0 = 0 ∧ ¬ S 57 j0 = S 62 b0) (hk9 : ∀ (x2 : Int32) (x3 : Int32) (S : Tr) (L : Lo), S 59 j0 = 0 ∧ ¬ S 57 j0 = S 62 b0 → Ep (k9 x2 x3 S L) (fun q => q.1 59 j0 = 0 ∧ ¬ q.1 57 j0 = q.1 62 b0)) (hk32 : ∀ (x2 : Int32) (x4 : Int32) (S : Tr) (L : Lo), S 59 j0 = 0 ∧ ¬ S 57 j0 = S 62 b0 → Ep (k32 x2 x4 S L) (fun q => q.1 59 j0 = 0 ∧ ¬ q.1 57 j0 = q.1 62 b0)) (hne : ¬ (((6 : Int32) * x1) + x3).toNatClampNeg = j0) : Ep (fJ_X8_outs_J112 k9 k32 x1 x3 x4 x5 S L) (fun q => q.1 59 j0 = 0 ∧ ¬ q.1 57 j0 = q.1 62 b0) := by
  unfold fJ_X8_outs_J112
  exact awJ_X8_outs_J117 k9 k32 x1 x3 x4 x5 1 S L hS hk9 hk32 hne
set_option maxHeartbeats 1000000 in
set_option maxRecDepth 100000 in
theorem awB_X8_outs_L32 {j0 b0 : Nat} (k9 : Int32 → Int32 → Tr → Lo → Option (Tr × Lo)) (x1 : Int32) (x3 : Int32)  (hk9 : ∀ (x2 : Int32) (x3 : Int32) (S : Tr) (L : Lo), S 59 j0 = 0 ∧ ¬ S 57 j0 = S 62 b0 → Ep (k9 x2 x3 S L) (fun q => q.1 59 j0 = 0 ∧ ¬ q.1 57 j0 = q.1 62 b0)) (hne : ¬ (((6 : Int32) * x1) + x3).toNatClampNeg = j0) (N : Nat) : ∀ (x2 : Int32) (x4 : Int32) (S : Tr) (L : Lo), S 59 j0 = 0 ∧ ¬ S 57 j0 = S 62 b0 → Ep (lpF (fun _ _ _ _ => none) (fB_X8_outs_L32 k9 x1 x3) N x2 x4 S L) (fun q => q.1 59 j0 = 0 ∧ ¬ q.1 57 j0 = q.1 62 b0) := by
  induction N with
  | zero => intro x2 x4 S L _; exact Ep_none
  | succ N ih =>
    intro x2 x4 S L hS
    show Ep (fB_X8_outs_L32 k9 x1 x3 (lpF (fun _ _ _ _ => none) (fB_X8_outs_L32 k9 x1 x3) N) x2 x4 S L) _
    have hk32 := ih
    clear ih
    generalize lpF (fun _ _ _ _ => none) (fB_X8_outs_L32 k9 x1 x3) N = k32 at hk32 ⊢
    unfold fB_X8_outs_L32
    refine Ep_ite (fun _ => ?_) (fun _ => ?_)
    · exact awJ_X8_outs_J182 k9 x1 x2 x3 S L hS hk9 hne
    · refine Ep_ck ?_
      refine Ep_ite (fun _ => ?_) (fun _ => ?_)
      · refine Ep_ck ?_
        refine Ep_ite (fun _ => ?_) (fun _ => ?_)
        · refine Ep_bd (aw_X8_secondsOf S L x1 x4 hS) (fun q hq => ?_)
          refine Ep_lt (fun r37 er37 => ?_)
          refine Ep_lt (fun S_38 eS_38 => ?_)
          have hS_38 : S_38 59 j0 = 0 ∧ ¬ S_38 57 j0 = S_38 62 b0 := by rw [eS_38]; exact hq
          refine Ep_lt (fun L_39 eL_39 => ?_)
          refine Ep_ite (fun _ => ?_) (fun _ => ?_)
          · exact awJ_X8_outs_J116 k9 k32 x1 x3 x4 r37 S_38 L_39 hS_38 hk9 hk32 hne
          · refine Ep_ite (fun _ => ?_) (fun _ => ?_)
            · refine Ep_ck ?_
              refine Ep_ck ?_
              refine Ep_ite (fun _ => ?_) (fun _ => ?_)
              · exact awJ_X8_outs_J116 k9 k32 x1 x3 x4 r37 S_38 L_39 hS_38 hk9 hk32 hne
              · exact awJ_X8_outs_J112 k9 k32 x1 x3 x4 r37 S_38 L_39 hS_38 hk9 hk32 hne
            · exact awJ_X8_outs_J112 k9 k32 x1 x3 x4 r37 S_38 L_39 hS_38 hk9 hk32 hne
        · refine Ep_lt (fun y61 ey61 => ?_)
          exact hk32 x2 y61 S L hS
      · refine Ep_lt (fun y34 ey34 => ?_)
        exact hk32 x2 y34 S L hS
set_option maxHeartbeats 1000000 in
set_option maxRecDepth 100000 in
theorem awL_X8_outs_L32 {j0 b0 : Nat} (k9 : Int32 → Int32 → Tr → Lo → Option (Tr × Lo)) (x1 : Int32) (x3 : Int32)  (hk9 : ∀ (x2 : Int32) (x3 : Int32) (S : Tr) (L : Lo), S 59 j0 = 0 ∧ ¬ S 57 j0 = S 62 b0 → Ep (k9 x2 x3 S L) (fun q => q.1 59 j0 = 0 ∧ ¬ q.1 57 j0 = q.1 62 b0)) (hne : ¬ (((6 : Int32) * x1) + x3).toNatClampNeg = j0) (x2 : Int32) (x4 : Int32) (S : Tr) (L : Lo) (hS : S 59 j0 = 0 ∧ ¬ S 57 j0 = S 62 b0) : Ep (fL_X8_outs_L32 k9 x1 x3 x2 x4 S L) (fun q => q.1 59 j0 = 0 ∧ ¬ q.1 57 j0 = q.1 62 b0) := by
  unfold fL_X8_outs_L32
  exact awB_X8_outs_L32 k9 x1 x3 hk9 hne 2000 x2 x4 S L hS
set_option maxHeartbeats 1000000 in
set_option maxRecDepth 100000 in
theorem awB_X8_ins_L61 {j0 b0 : Nat} (k2 : Int32 → Tr → Option (Tr)) (x1 : Int32) (x2 : Int32)  (hk2 : ∀ (x2 : Int32) (S : Tr), S 59 j0 = 0 ∧ ¬ S 57 j0 = S 62 b0 → Ep (k2 x2 S) (fun q => q 59 j0 = 0 ∧ ¬ q 57 j0 = q 62 b0))  (N : Nat) : ∀ (x3 : Int32) (S : Tr), S 59 j0 = 0 ∧ ¬ S 57 j0 = S 62 b0 → Ep (lpF (fun _ _ => none) (fB_X8_ins_L61 k2 x1 x2) N x3 S) (fun q => q 59 j0 = 0 ∧ ¬ q 57 j0 = q 62 b0) := by
  induction N with
  | zero => intro x3 S _; exact Ep_none
  | succ N ih =>
    intro x3 S hS
    show Ep (fB_X8_ins_L61 k2 x1 x2 (lpF (fun _ _ => none) (fB_X8_ins_L61 k2 x1 x2) N) x3 S) _
    have hk61 := ih
    clear ih
    generalize lpF (fun _ _ => none) (fB_X8_ins_L61 k2 x1 x2) N = k61 at hk61 ⊢
    unfold fB_X8_ins_L61
    refine Ep_ite (fun _ => ?_) (fun _ => ?_)
    · refine Ep_lt (fun y17 ey17 => ?_)
      exact hk2 y17 S hS
    · refine Ep_ck ?_
      refine Ep_ite (fun _ => ?_) (fun _ => ?_)
      · refine Ep_ck ?_
        refine Ep_ite (fun _ => ?_) (fun _ => ?_)
        · refine Ep_any (fun r23 => ?_)
          refine Ep_ite (fun _ => ?_) (fun _ => ?_)
          · refine Ep_bd (aw_X8_lays S x1 r23 x3 hS) (fun S_27 hS_27 => ?_)
            refine Ep_lt (fun y30 ey30 => ?_)
            exact hk61 y30 S_27 hS_27
          · refine Ep_lt (fun S_31 eS_31 => ?_)
            have hS_31 : S_31 59 j0 = 0 ∧ ¬ S_31 57 j0 = S_31 62 b0 := by rw [eS_31]; exact aw_s hS (by omega) (by omega)
            refine Ep_lt (fun y32 ey32 => ?_)
            exact hk61 y32 S_31 hS_31
        · refine Ep_lt (fun y33 ey33 => ?_)
          exact hk61 y33 S hS
      · refine Ep_lt (fun y20 ey20 => ?_)
        exact hk61 y20 S hS
set_option maxHeartbeats 1000000 in
set_option maxRecDepth 100000 in
theorem awL_X8_ins_L61 {j0 b0 : Nat} (k2 : Int32 → Tr → Option (Tr)) (x1 : Int32) (x2 : Int32)  (hk2 : ∀ (x2 : Int32) (S : Tr), S 59 j0 = 0 ∧ ¬ S 57 j0 = S 62 b0 → Ep (k2 x2 S) (fun q => q 59 j0 = 0 ∧ ¬ q 57 j0 = q 62 b0))  (x3 : Int32) (S : Tr) (hS : S 59 j0 = 0 ∧ ¬ S 57 j0 = S 62 b0) : Ep (fL_X8_ins_L61 k2 x1 x2 x3 S) (fun q => q 59 j0 = 0 ∧ ¬ q 57 j0 = q 62 b0) := by
  unfold fL_X8_ins_L61
  exact awB_X8_ins_L61 k2 x1 x2 hk2 2000 x3 S hS
set_option maxHeartbeats 1000000 in
set_option maxRecDepth 100000 in
theorem awJ_X8_ins_J185 {j0 b0 : Nat} (k146 : Int32 → Tr → Option (Tr)) (x1 : Int32) (x2 : Int32) (s0 : Int32) (s1 : Int32) (s2 : Int32) (S : Tr) (hS : S 59 j0 = 0 ∧ ¬ S 57 j0 = S 62 b0) (hk146 : ∀ (x2 : Int32) (S : Tr), S 59 j0 = 0 ∧ ¬ S 57 j0 = S 62 b0 → Ep (k146 x2 S) (fun q => q 59 j0 = 0 ∧ ¬ q 57 j0 = q 62 b0))  : Ep (fJ_X8_ins_J185 k146 x1 x2 s0 s1 s2 S) (fun q => q 59 j0 = 0 ∧ ¬ q 57 j0 = q 62 b0) := by
  unfold fJ_X8_ins_J185
  refine Ep_ck ?_
  refine Ep_lt (fun S_7 eS_7 => ?_)
  have hS_7 : S_7 59 j0 = 0 ∧ ¬ S_7 57 j0 = S_7 62 b0 := by rw [eS_7]; exact aw_s hS (by omega) (by omega)
  refine Ep_lt (fun y8 ey8 => ?_)
  exact hk146 y8 S_7 hS_7
set_option maxHeartbeats 1000000 in
set_option maxRecDepth 100000 in
theorem awB_X8_ins_L146 {j0 b0 : Nat} (x1 : Int32)    (N : Nat) : ∀ (x2 : Int32) (S : Tr), S 59 j0 = 0 ∧ ¬ S 57 j0 = S 62 b0 → Ep (lpF (fun _ _ => none) (fB_X8_ins_L146 x1) N x2 S) (fun q => q 59 j0 = 0 ∧ ¬ q 57 j0 = q 62 b0) := by
  induction N with
  | zero => intro x2 S _; exact Ep_none
  | succ N ih =>
    intro x2 S hS
    show Ep (fB_X8_ins_L146 x1 (lpF (fun _ _ => none) (fB_X8_ins_L146 x1) N) x2 S) _
    have hk146 := ih
    clear ih
    generalize lpF (fun _ _ => none) (fB_X8_ins_L146 x1) N = k146 at hk146 ⊢
    unfold fB_X8_ins_L146
    refine Ep_ite (fun _ => ?_) (fun _ => ?_)
    · exact Ep_some hS
    · refine Ep_ck ?_
      refine Ep_ck ?_
      refine Ep_ite (fun _ => ?_) (fun _ => ?_)
      · refine Ep_ck ?_
        exact awJ_X8_ins_J185 k146 x1 x2 (S 56 (((5 : Int32) * x1) + x2).toNatClampNeg) (S 63 x1.toNatClampNeg) x1 S hS hk146
      · exact awJ_X8_ins_J185 k146 x1 x2 0 (S 63 x1.toNatClampNeg) x1 S hS hk146
set_option maxHeartbeats 1000000 in
set_option maxRecDepth 100000 in
theorem awL_X8_ins_L146 {j0 b0 : Nat} (x1 : Int32)    (x2 : Int32) (S : Tr) (hS : S 59 j0 = 0 ∧ ¬ S 57 j0 = S 62 b0) : Ep (fL_X8_ins_L146 x1 x2 S) (fun q => q 59 j0 = 0 ∧ ¬ q 57 j0 = q 62 b0) := by
  unfold fL_X8_ins_L146
  exact awB_X8_ins_L146 x1 2000 x2 S hS
set_option maxHeartbeats 1000000 in
set_option maxRecDepth 100000 in
theorem awB_X8_onTheWay_L90 {j0 b0 : Nat} (x1 : Int32)    (N : Nat) : ∀ (x2 : Int32) (S : Tr) (L : Lo), S 59 j0 = 0 ∧ ¬ S 57 j0 = S 62 b0 → Ep (lpF (fun _ _ _ => none) (fB_X8_onTheWay_L90 x1) N x2 S L) (fun q => q.1 59 j0 = 0 ∧ ¬ q.1 57 j0 = q.1 62 b0) := by
  induction N with
  | zero => intro x2 S L _; exact Ep_none
  | succ N ih =>
    intro x2 S L hS
    show Ep (fB_X8_onTheWay_L90 x1 (lpF (fun _ _ _ => none) (fB_X8_onTheWay_L90 x1) N) x2 S L) _
    have hk90 := ih
    clear ih
    generalize lpF (fun _ _ _ => none) (fB_X8_onTheWay_L90 x1) N = k90 at hk90 ⊢
    unfold fB_X8_onTheWay_L90
    refine Ep_ite (fun _ => ?_) (fun _ => ?_)
    · exact Ep_some hS
    · refine Ep_ite (fun _ => ?_) (fun _ => ?_)
      · refine Ep_ck ?_
        refine Ep_ite (fun _ => ?_) (fun _ => ?_)
        · refine Ep_ck ?_
          refine Ep_ite (fun _ => ?_) (fun _ => ?_)
          · refine Ep_ck ?_
            refine Ep_any (fun L_10 => ?_)
            refine Ep_bd (aw_X8_boundLaw S L_10 (2 : Int32) (10 : Int32) (100 : Int32) hS) (fun q hq => ?_)
            refine Ep_lt (fun r13 er13 => ?_)
            refine Ep_lt (fun S_14 eS_14 => ?_)
            have hS_14 : S_14 59 j0 = 0 ∧ ¬ S_14 57 j0 = S_14 62 b0 := by rw [eS_14]; exact hq
            refine Ep_lt (fun L_15 eL_15 => ?_)
            refine Ep_any (fun q => ?_)
            refine Ep_lt (fun r18 er18 => ?_)
            refine Ep_lt (fun L_19 eL_19 => ?_)
            refine Ep_ite (fun _ => ?_) (fun _ => ?_)
            · refine Ep_lt (fun y23 ey23 => ?_)
              exact hk90 y23 S_14 L_19 hS_14
            · refine Ep_bd (aw_X8_takes S_14 x1 x2 (4 : Int32) hS_14) (fun S_24 hS_24 => ?_)
              refine Ep_lt (fun y27 ey27 => ?_)
              exact hk90 y27 S_24 L_19 hS_24
          · refine Ep_lt (fun y28 ey28 => ?_)
            exact hk90 y28 S L hS
        · refine Ep_lt (fun y6 ey6 => ?_)
          exact hk90 y6 S L hS
      · exact Ep_some hS
set_option maxHeartbeats 1000000 in
set_option maxRecDepth 100000 in
theorem awL_X8_onTheWay_L90 {j0 b0 : Nat} (x1 : Int32)    (x2 : Int32) (S : Tr) (L : Lo) (hS : S 59 j0 = 0 ∧ ¬ S 57 j0 = S 62 b0) : Ep (fL_X8_onTheWay_L90 x1 x2 S L) (fun q => q.1 59 j0 = 0 ∧ ¬ q.1 57 j0 = q.1 62 b0) := by
  unfold fL_X8_onTheWay_L90
  exact awB_X8_onTheWay_L90 x1 2000 x2 S L hS
set_option maxHeartbeats 1000000 in
set_option maxRecDepth 100000 in
theorem awJ_X8_fallOf_J58 {j0 b0 : Nat} (s0 : Int32) (s1 : Int32) (S : Tr) (L : Lo) (hS : S 59 j0 = 0 ∧ ¬ S 57 j0 = S 62 b0)   : Ep (fJ_X8_fallOf_J58 s0 s1 S L) (fun q => q.2.1 59 j0 = 0 ∧ ¬ q.2.1 57 j0 = q.2.1 62 b0) := by
  unfold fJ_X8_fallOf_J58
  refine Ep_bd (aw_X8_boundLaw S L s1 s0 (100 : Int32) hS) (fun q hq => ?_)
  refine Ep_lt (fun r11 er11 => ?_)
  refine Ep_lt (fun S_12 eS_12 => ?_)
  have hS_12 : S_12 59 j0 = 0 ∧ ¬ S_12 57 j0 = S_12 62 b0 := by rw [eS_12]; exact hq
  refine Ep_lt (fun L_13 eL_13 => ?_)
  exact Ep_some hS_12
set_option maxHeartbeats 1000000 in
set_option maxRecDepth 100000 in
theorem awJ_X8_fallOf_J17 {j0 b0 : Nat} (x1 : Int32) (x2 : Int32) (s0 : Int32) (S : Tr) (L : Lo) (hS : S 59 j0 = 0 ∧ ¬ S 57 j0 = S 62 b0)   : Ep (fJ_X8_fallOf_J17 x1 x2 s0 S L) (fun q => q.2.1 59 j0 = 0 ∧ ¬ q.2.1 57 j0 = q.2.1 62 b0) := by
  unfold fJ_X8_fallOf_J17
  refine Ep_any (fun r2 => ?_)
  refine Ep_ck ?_
  refine Ep_lt (fun y6 ey6 => ?_)
  refine Ep_any (fun L_7 => ?_)
  refine Ep_ite (fun _ => ?_) (fun _ => ?_)
  · exact awJ_X8_fallOf_J58 y6 1 S L_7 hS
  · exact awJ_X8_fallOf_J58 0 1 S L_7 hS
set_option maxHeartbeats 1000000 in
set_option maxRecDepth 100000 in
theorem aw_X8_fallOf {j0 b0 : Nat} (S : Tr) (L : Lo) (x1 : Int32) (x2 : Int32) (hS : S 59 j0 = 0 ∧ ¬ S 57 j0 = S 62 b0)   : Ep (f_X8_fallOf S L x1 x2) (fun q => q.2.1 59 j0 = 0 ∧ ¬ q.2.1 57 j0 = q.2.1 62 b0) := by
  unfold f_X8_fallOf
  refine Ep_ite (fun _ => ?_) (fun _ => ?_)
  · exact awJ_X8_fallOf_J17 x1 x2 (S 23 1) S L hS
  · exact awJ_X8_fallOf_J17 x1 x2 0 S L hS
set_option maxHeartbeats 1000000 in
set_option maxRecDepth 100000 in
theorem awB_X8_onTheWay_L2 {j0 b0 : Nat} (x1 : Int32)    (N : Nat) : ∀ (x2 : Int32) (S : Tr) (L : Lo), S 59 j0 = 0 ∧ ¬ S 57 j0 = S 62 b0 → Ep (lpF (fun _ _ _ => none) (fB_X8_onTheWay_L2 x1) N x2 S L) (fun q => q.1 59 j0 = 0 ∧ ¬ q.1 57 j0 = q.1 62 b0) := by
  induction N with
  | zero => intro x2 S L _; exact Ep_none
  | succ N ih =>
    intro x2 S L hS
    show Ep (fB_X8_onTheWay_L2 x1 (lpF (fun _ _ _ => none) (fB_X8_onTheWay_L2 x1) N) x2 S L) _
    have hk2 := ih
    clear ih
    generalize lpF (fun _ _ _ => none) (fB_X8_onTheWay_L2 x1) N = k2 at hk2 ⊢
    unfold fB_X8_onTheWay_L2
    refine Ep_ite (fun _ => ?_) (fun _ => ?_)
    · exact awL_X8_onTheWay_L90 x1 0 S L hS
    · refine Ep_ite (fun _ => ?_) (fun _ => ?_)
      · refine Ep_ck ?_
        refine Ep_ite (fun _ => ?_) (fun _ => ?_)
        · refine Ep_lt (fun y32 ey32 => ?_)
          exact hk2 y32 S L hS
        · refine Ep_ck ?_
          refine Ep_ite (fun _ => ?_) (fun _ => ?_)
          · refine Ep_lt (fun y53 ey53 => ?_)
            exact hk2 y53 S L hS
          · refine Ep_any (fun r35 => ?_)
            refine Ep_bd (aw_X8_fallOf S L x1 r35 hS) (fun q hq => ?_)
            refine Ep_lt (fun r38 er38 => ?_)
            refine Ep_lt (fun S_39 eS_39 => ?_)
            have hS_39 : S_39 59 j0 = 0 ∧ ¬ S_39 57 j0 = S_39 62 b0 := by rw [eS_39]; exact hq
            refine Ep_lt (fun L_40 eL_40 => ?_)
            refine Ep_any (fun q => ?_)
            refine Ep_lt (fun r43 er43 => ?_)
            refine Ep_lt (fun L_44 eL_44 => ?_)
            refine Ep_ite (fun _ => ?_) (fun _ => ?_)
            · refine Ep_lt (fun y48 ey48 => ?_)
              exact hk2 y48 S_39 L_44 hS_39
            · refine Ep_bd (aw_X8_takes S_39 x1 r35 (3 : Int32) hS_39) (fun S_49 hS_49 => ?_)
              refine Ep_lt (fun y52 ey52 => ?_)
              exact hk2 y52 S_49 L_44 hS_49
      · exact awL_X8_onTheWay_L90 x1 0 S L hS
set_option maxHeartbeats 1000000 in
set_option maxRecDepth 100000 in
theorem awL_X8_onTheWay_L2 {j0 b0 : Nat} (x1 : Int32)    (x2 : Int32) (S : Tr) (L : Lo) (hS : S 59 j0 = 0 ∧ ¬ S 57 j0 = S 62 b0) : Ep (fL_X8_onTheWay_L2 x1 x2 S L) (fun q => q.1 59 j0 = 0 ∧ ¬ q.1 57 j0 = q.1 62 b0) := by
  unfold fL_X8_onTheWay_L2
  exact awB_X8_onTheWay_L2 x1 2000 x2 S L hS
set_option maxHeartbeats 1000000 in
set_option maxRecDepth 100000 in
theorem aw_X8_onTheWay {j0 b0 : Nat} (S : Tr) (L : Lo) (x1 : Int32) (hS : S 59 j0 = 0 ∧ ¬ S 57 j0 = S 62 b0)   : Ep (f_X8_onTheWay S L x1) (fun q => q.1 59 j0 = 0 ∧ ¬ q.1 57 j0 = q.1 62 b0) := by
  unfold f_X8_onTheWay
  exact awL_X8_onTheWay_L2 x1 0 S L hS
theorem aw_261 {j0 b0 : Nat} {L : Lo} {xb : Int32} (N : Nat) : ∀ (x : Int32) (S : Tr), (S 59 j0 = 0 ∧ ¬ S 57 j0 = S 62 b0) → Ep (lpF (fun _ _ => none) (fB_X8_outs_L261 L xb) N x S) (fun q => q.1 59 j0 = 0 ∧ ¬ q.1 57 j0 = q.1 62 b0) := by
  induction N with
  | zero => intro x S _; exact Ep_none
  | succ N ih =>
    intro x S h
    show Ep (fB_X8_outs_L261 L xb (lpF (fun _ _ => none) (fB_X8_outs_L261 L xb) N) x S) _
    generalize lpF (fun _ _ => none) (fB_X8_outs_L261 L xb) N = k at ih ⊢
    unfold fB_X8_outs_L261
    refine Ep_ite (fun _ => Ep_some h) (fun _ => Ep_ck (Ep_ite (fun c => Ep_lt (fun S1 e1 => Ep_lt (fun y _ => ih y S1 ?_))) (fun _ => Ep_lt (fun y _ => ih y S h))))
    rw [e1]
    exact aw_s h (by omega) (fun e => by rw [e.2, h.1] at c; exact absurd c (by decide))
theorem aw_223 {j0 b0 : Nat} {L : Lo} {xb : Int32} (N : Nat) : ∀ (x : Int32) (S : Tr), (S 59 j0 = 0 ∧ ¬ S 57 j0 = S 62 b0) → Ep (lpF (fun _ _ => none) (fB_X8_outs_L223 L xb) N x S) (fun q => q.1 59 j0 = 0 ∧ ¬ q.1 57 j0 = q.1 62 b0) := by
  induction N with
  | zero => intro x S _; exact Ep_none
  | succ N ih =>
    intro x S h
    show Ep (fB_X8_outs_L223 L xb (lpF (fun _ _ => none) (fB_X8_outs_L223 L xb) N) x S) _
    generalize lpF (fun _ _ => none) (fB_X8_outs_L223 L xb) N = k at ih ⊢
    unfold fB_X8_outs_L223
    refine Ep_ite (fun _ => ?_) (fun _ => Ep_ck (Ep_ite (fun _ => Ep_bd (aw_X8_takes S xb x 5 h) (fun S1 h1 => Ep_lt (fun y _ => ih y S1 h1))) (fun _ => Ep_lt (fun y _ => ih y S h))))
    unfold fL_X8_outs_L261
    exact aw_261 2000 0 S h
theorem aw_outs {j0 b0 : Nat} {S : Tr} {L : Lo} {xb : Int32} (h : S 59 j0 = 0 ∧ ¬ S 57 j0 = S 62 b0) : Ep (f_X8_outs S L xb) (fun q => q.1 59 j0 = 0 ∧ ¬ q.1 57 j0 = q.1 62 b0) := by
  have lp : ∀ (N : Nat) (x2 x : Int32) (S : Tr) (L : Lo), (S 59 j0 = 0 ∧ ¬ S 57 j0 = S 62 b0) → Ep (lpF (fun _ _ _ _ => none) (fB_X8_outs_L9 xb) N x2 x S L) (fun q => q.1 59 j0 = 0 ∧ ¬ q.1 57 j0 = q.1 62 b0) := by
    intro N
    induction N with
    | zero => intro x2 x S L _; exact Ep_none
    | succ N ih =>
      intro x2 x S L h
      show Ep (fB_X8_outs_L9 xb (lpF (fun _ _ _ _ => none) (fB_X8_outs_L9 xb) N) x2 x S L) _
      generalize lpF (fun _ _ _ _ => none) (fB_X8_outs_L9 xb) N = k at ih ⊢
      unfold fB_X8_outs_L9
      refine Ep_ite (fun _ => ?_) (fun _ => ?_)
      · unfold fJ_X8_outs_J209
        refine Ep_ck (Ep_ite (fun _ => ?_) (fun _ => Ep_some h))
        unfold fL_X8_outs_L223
        exact aw_223 2000 0 S h
      · have gq : Ep (f_X8_getsOut S xb x) (fun r => r = 0 ∨ S 59 (((6 : Int32) * xb) + x).toNatClampNeg = 1) := by
          unfold f_X8_getsOut
          exact Ep_ck (Ep_ite (fun c => fun r _ => Or.inr c) (fun _ => Ep_some (Or.inl rfl)))
        refine Ep_bd gq (fun r hr => Ep_ite (fun _ => Ep_lt (fun y _ => ih x2 y S L h)) (fun n => ?_))
        have c := hr.resolve_left n
        exact awL_X8_outs_L32 k xb x (fun x2 x3 S L h => ih x2 x3 S L h) (fun e => by rw [e, h.1] at c; exact absurd c (by decide)) x2 0 S L h
  unfold f_X8_outs
  refine Ep_lt (fun S1 e1 => ?_)
  unfold fL_X8_outs_L9
  exact lp 2000 1 0 S1 L (by rw [e1]; exact aw_s h (by omega) (by omega))
theorem aw_ins {j0 b0 : Nat} {S : Tr} {xb : Int32} (hb : xb.toNatClampNeg = b0) (h : S 59 j0 = 0 ∧ ¬ S 57 j0 = S 62 b0) : Ep (f_X8_ins S xb) (fun q => q 59 j0 = 0 ∧ ¬ q 57 j0 = q 62 b0) := by
  have lp : ∀ (N : Nat) (x : Int32) (S : Tr), (S 59 j0 = 0 ∧ ¬ S 57 j0 = S 62 b0) → Ep (lpF (fun _ _ => none) (fB_X8_ins_L2 xb) N x S) (fun q => q 59 j0 = 0 ∧ ¬ q 57 j0 = q 62 b0) := by
    intro N
    induction N with
    | zero => intro x S _; exact Ep_none
    | succ N ih =>
      intro x S h
      show Ep (fB_X8_ins_L2 xb (lpF (fun _ _ => none) (fB_X8_ins_L2 xb) N) x S) _
      generalize lpF (fun _ _ => none) (fB_X8_ins_L2 xb) N = k at ih ⊢
      unfold fB_X8_ins_L2
      rw [hb]
      refine Ep_ite (fun _ => awL_X8_ins_L146 xb 0 S h) (fun _ => Ep_ck (Ep_ck (Ep_ite (fun c => Ep_ite (fun _ => Ep_lt (fun S1 e1 => ?_)) (fun _ => Ep_lt (fun y _ => ih y S h))) (fun _ => Ep_lt (fun y _ => ih y S h)))))
      exact awL_X8_ins_L61 k xb x (fun x2 S h => ih x2 S h) 0 S1 (by rw [e1]; exact aw_s h (by omega) (fun e => by rw [e.2] at c; exact h.2 c))
  unfold f_X8_ins fL_X8_ins_L2
  exact lp 2000 0 S h
theorem aw_goOn {j0 b0 : Nat} {S : Tr} {L : Lo} {xb : Int32} (hb : xb.toNatClampNeg = b0) (h : S 59 j0 = 0 ∧ ¬ S 57 j0 = S 62 b0) : Ep (f_X8_goOn S L xb) (fun q => q.1 59 j0 = 0) := by
  have fin : ∀ (S : Tr) (L : Lo), (S 59 j0 = 0 ∧ ¬ S 57 j0 = S 62 b0) → Ep (fJ_X8_goOn_J26 xb S L) (fun q => q.1 59 j0 = 0) := fun S L h => by
    unfold fJ_X8_goOn_J26
    refine Ep_ck (Ep_lt (fun S1 e1 => Ep_some ?_))
    show S1 59 j0 = 0
    rw [e1, st_oth (by omega)]; exact h.1
  unfold f_X8_goOn
  refine Ep_bd (aw_outs h) (fun q hq => Ep_lt (fun S1 e1 => Ep_lt (fun L2 _ => Ep_bd (aw_ins (S := S1) hb (by rw [e1]; exact hq)) (fun S5 h5 => Ep_ck (Ep_ite (fun _ => fin S5 L2 h5) (fun _ => Ep_bd (aw_X8_onTheWay S5 L2 xb h5) (fun r hr => Ep_lt (fun S12 e12 => Ep_lt (fun L13 _ => fin S12 L13 (by rw [e12]; exact hr))))))))))
-- 62.zaz.40.z30
/-! go -/
def awt (b : Nat) (S : Tr) : Prop := ∀ p : Nat, (p : Int) < (S 0 13).toInt → (S 62 b).toInt ≤ (S 57 (6 * b + p)).toInt → S 59 (6 * b + p) = 0
theorem e_goA {b : Nat} {S : Tr} {L : Lo} {xb : Int32} (hb : xb.toNatClampNeg = b) (h : awt b S) : Ep (f_X8_goOn S L xb) (fun q => ∀ p : Nat, (p : Int) < (S 0 13).toInt → (S 62 b).toInt + 1 ≤ (S 57 (6 * b + p)).toInt → q.1 59 (6 * b + p) = 0) := fun q e p hp hq => aw_goOn (j0 := 6 * b + p) hb ⟨h p hp (by omega), fun g => by rw [g] at hq; omega⟩ q e
theorem e_rl0 {P T S : Tr} {L : Lo} (h : Nw P T S L) {S1 : Tr} (hp : plT S S1) (hf : ∀ a j, ¬ (a = 0 ∧ 64 ≤ j ∧ j ≤ 70) → ¬ a = 72 → S1 a j = S a j) (hI : rI 0 S1) : Rl 0 P (st T 0 5 1) (st S1 0 65 1) := by
  obtain ⟨hS, hK, hd, hv, n9, n13, nr, nl, na⟩ := h
  have h13 : 0 ≤ (S 0 13).toInt ∧ (S 0 13).toInt ≤ 6 := hS.1 0 13
  have h14 : 0 ≤ (S 0 14).toInt ∧ (S 0 14).toInt ≤ 10 := hS.1 0 14
  have f : ∀ a j, ¬ (a = 0 ∧ 64 ≤ j ∧ j ≤ 70) → ¬ a = 72 → st S1 0 65 1 a j = S a j := fun a j n1 n2 => by rw [st_no (by omega)]; exact hf a j n1 n2
  have t : ∀ a j, ¬ (a = 0 ∧ j = 5) → st T 0 5 1 a j = T a j := fun a j n => st_no n
  have g : ∀ j, 64 ≤ j → ¬ j = 65 → st S1 0 65 1 0 j = S1 0 j := fun j _ n => st_ne n
  refine ⟨rI_s0 hI (iR_set hI.1 (by decide) (by decide)) (by omega) (by omega), pK_o hK (fun j h1 h2 => f 0 j (by omega) (by omega)) (fun a j h1 h2 => f a j (by omega) (by omega)), ⟨fun p hpp => ?_, fun i hi => ?_, ?_, ?_, ?_, ?_, ?_, ?_, ?_⟩, dyn_e hd hS.1 (fun a j q => t a j (by omega)) (fun a j q => f a j (by omega) (by omega)), inv_e hv (fun a j q => f a j (by omega) (by omega))⟩
  · rw [f 0 13 (by omega) (by omega)] at hpp
    rw [g 69 (by omega) (by omega), hp.2.1 69 (by omega) (by omega), if_pos rfl, t 9 p (by omega), t 10 p (by omega), f 57 _ (by omega) (by omega), f 58 _ (by omega) (by omega), show 6 * 0 + p = p by omega]
    exact n9 p hpp
  · rw [f 0 14 (by omega) (by omega)] at hi
    have k := (hK.2.2.2.1 i hi).2.2.2.2.2.2
    rw [t 13 i (by omega), st_oth (by omega), hp.2.2 i (by omega), if_pos (by decide), st_oth (by omega), st_ne (by omega), hf 33 i (by omega) (by omega), hf 0 12 (by omega) (by omega), n13 i hi]
    exact ⟨rfl, k⟩
  · rw [t 0 3 (by omega), g 64 (by omega) (by omega), hp.1]; exact nr.1
  · rw [t 0 4 (by omega), g 68 (by omega) (by omega), hp.2.1 68 (by omega) (by omega), if_pos rfl, f 23 1 (by omega) (by omega)]; exact nr.2.1
  · rw [st_same, st_same]
  · rw [t 0 6 (by omega), g 66 (by omega) (by omega), hp.2.1 66 (by omega) (by omega)]
    exact ⟨fun e => absurd e nr.2.2.2.2.1, fun e => absurd rfl e⟩
  · rw [t 0 7 (by omega), g 67 (by omega) (by omega), hp.2.1 67 (by omega) (by omega)]
    exact ⟨fun e => absurd e nr.2.2.2.2.2, fun e => absurd rfl e⟩
  · rw [g 64 (by omega) (by omega), hp.1]; exact nr.2.2.1
  · rw [g 64 (by omega) (by omega), hp.1]; exact nr.2.2.2.1
/-- where it goes on -/
def gG (P T0 S0 T S : Tr) (L : Lo) : Prop := Rl 0 P T S ∧ drw T L ∧ awt 0 S ∧ aM 0 S0 S ∧ ∀ a j, ¬ (a = 0 ∧ j ≤ 2) → ¬ (a = 11 ∨ a = 12) → ¬ (14 ≤ a ∧ a ≤ 19) → T a j = T0 a j
theorem gG_end {P T S T0 S0 : Tr} {L : Lo} (h : gG P T0 S0 T S L) (h5 : T0 0 5 = 1) (q : S0 0 64 = S0 23 0 ∧ S0 0 66 = 0 ∧ S0 0 67 = 0 ∧ S0 0 68 = 0 ∧ S0 0 69 = 0 ∧ ∀ i, i < 10 → S0 72 i = -1) : Nw P T (st S 0 65 0) L := by
  obtain ⟨hR, hd, ha, am, hf⟩ := h
  obtain ⟨hS, hK, ⟨s1, s2, s3, s4, s5, s6, s7, s8⟩, hdy, hv⟩ := id hR
  have h13 : 0 ≤ (S 0 13).toInt ∧ (S 0 13).toInt ≤ 6 := hS.1 0 13
  have h14 : 0 ≤ (S 0 14).toInt ∧ (S 0 14).toInt ≤ 10 := hS.1 0 14
  obtain ⟨q1, q2, q3, q4, q5, q6⟩ := q
  have z : ∀ j, ¬ j = 51 → ¬ j = 72 → S 0 j = S0 0 j := fun j n1 n2 => am 0 j (aM_0 n1 n2)
  have f : ∀ a j, ¬ (a = 0 ∧ j = 65) → st S 0 65 0 a j = S a j := fun a j n => st_no n
  have e23 : S 23 0 = S0 23 0 := am 23 0 (aM_p (by omega) (by omega))
  have t5 : ¬ T 0 5 = 0 := by rw [hf 0 5 (by omega) (by omega) (by omega), h5]; decide
  refine ⟨rI_s0 hS (iR_set hS.1 (by decide) (by decide)) (by omega) (by omega), pK_o hK (fun j h1 h2 => f 0 j (by omega)) (fun a j h1 h2 => f a j (by omega)), dyn_e hdy hS.1 (fun a j q => rfl) (fun a j q => f a j (by omega)), inv_e hv (fun a j q => f a j (by omega)), fun p hp => ?_, fun i hi => ?_, ⟨?_, ?_, ?_, ?_, ?_, ?_⟩, ⟨(hd t5).1, (hd t5).2, st_same⟩, fun p hp hq => ?_⟩
  · rw [f 0 13 (by omega)] at hp
    have x := s1 p hp
    rw [z 69 (by omega) (by omega), q5, if_pos rfl, show 6 * 0 + p = p by omega] at x
    rw [f 57 p (by omega), f 58 p (by omega)]; exact x
  · rw [f 0 14 (by omega)] at hi
    have x := (s2 i hi).1
    rw [am 72 i (Mb_rows (by omega)), q6 i (by omega), if_pos (by decide)] at x
    rw [f 33 i (by omega)]; exact x
  · rw [f 23 0 (by omega), s3, z 64 (by omega) (by omega), e23]; exact q1
  · rw [z 68 (by omega) (by omega), q4, if_pos rfl] at s4
    rw [f 23 1 (by omega)]; exact s4
  · rw [f 23 0 (by omega), e23, ← q1, ← z 64 (by omega) (by omega)]; exact s8.1
  · rw [f 23 0 (by omega), e23, ← q1, ← z 64 (by omega) (by omega)]; exact s8.2
  · intro e
    exact (s6.mp e) ((z 66 (by omega) (by omega)).trans q2)
  · intro e
    exact (s7.mp e) ((z 67 (by omega) (by omega)).trans q3)
  · rw [f 0 13 (by omega)] at hp
    rw [f 62 0 (by omega), f 57 p (by omega)] at hq
    rw [f 59 p (by omega)]
    have x := ha p hp
    rw [show 6 * 0 + p = p by omega] at x
    exact x hq
theorem gG_step {P T0 S0 T S : Tr} {L Lc : Lo} (h : gG P T0 S0 T S L) (h70 : S0 0 70 = 0) (hst : (S 62 0).toInt ≤ 20) : E2 (f_X6_passStop T P Lc) (f_X8_goOn S L 0) (fun q q' => gG P T0 S0 q.1 q'.1 q'.2 ∧ (q'.1 62 0).toInt = (S 62 0).toInt + 1) := by
  obtain ⟨hR, hd, ha, am, hf⟩ := h
  have b62 : 0 ≤ (S 62 0).toInt ∧ (S 62 0).toInt ≤ 21 := hR.1.1 62 0
  have e70 : S 0 70 = 0 := (am 0 70 (aM_0 (by omega) (by omega))).trans h70
  intro u v eu ev
  have g := e_pass (b := 0) (xb := 0) (Lc := Lc) (by decide) (by decide) hR hd e70 hst u v eu ev
  have w := e_goA (b := 0) (xb := 0) (by decide) ha v ev
  obtain ⟨p1, p2, p3, p4, _, p6⟩ := ps_of g hst b62.1
  refine ⟨⟨p1, p2, fun p hp hq => ?_, aM_t am p4, fun a j n1 n2 n3 => (p6 a j n1 n2 n3).trans (hf a j n1 n2 n3)⟩, p3⟩
  have e13 : v.1 0 13 = S 0 13 := p4 0 13 (aM_0 (by omega) (by omega))
  have e57 : v.1 57 (6 * 0 + p) = S 57 (6 * 0 + p) := p4 57 _ (Mb_rows (by omega))
  rw [e13] at hp
  rw [e57, p3] at hq
  exact w p hp hq
def gq7 (P C : Tr) (S : Tr) (x : Int32) (q : Int32 × Lo × Tr × Tr) (q' : Int32 × Tr × Lo) : Prop := q.1 = q'.1 ∧ Nw P q.2.2.1 q'.2.1 q'.2.2 ∧ ((q.2.2.2 = C ∧ q'.2.1 0 82 = S 0 82) ∨ (q.2.2.2 = st C 0 0 0 ∧ q'.2.1 0 82 = 0))
theorem e_X7go {P Tn C S : Tr} {L Lc : Lo} {pa qa : Nat → Nat} {q0 : Nat} {x : Int32} (h : Nw P Tn S L) : E2 (f_X7_go pa qa P Lc Tn C q0 x) (f_X8_go S L x) (gq7 P C S x) := by
  unfold f_X7_go f_X8_go
  refine E2_ltr (fun S1 e1 => ?_)
  have hN : Nw P Tn S1 L := by rw [e1]; exact Nw_2 h
  have e82 : S1 0 82 = S 0 82 := by rw [e1, st_ne (by omega)]
  have bad : gq7 P C S x ((-1), Lc, Tn, C) ((-1), S1, L) := ⟨rfl, hN, Or.inl ⟨rfl, e82⟩⟩
  by_cases c0 : x < 0
  · rw [if_pos c0, isIn_0 (Or.inl c0)]
    exact E2_sr (E2_pr rfl (E2_some bad))
  rw [if_neg c0]
  by_cases c21 : (21 : Int32) < x
  · rw [if_pos c21, isIn_0 (Or.inr c21)]
    exact E2_sr (E2_pr rfl (E2_some bad))
  rw [if_neg c21, isIn_1 c0 c21]
  refine E2_sr (E2_qr (by decide) ?_)
  have t00 : Tn 0 0 = S1 62 0 := hN.2.2.1.1
  rw [t00]
  refine E2_it Iff.rfl (fun c _ => ?_) (fun _ _ => E2_some bad)
  have x0 := tq_ltn (x := x) (y := 0) (b := 0) rfl (by decide) c0
  have x21 := tq_ltn (x := (21 : Int32)) (y := x) (a := 21) (by decide) rfl c21
  have b62 : 0 ≤ (S1 62 0).toInt ∧ (S1 62 0).toInt ≤ 21 := hN.1.1 62 0
  obtain ⟨m, hm⟩ : ∃ m : Nat, x.toInt = m := ⟨x.toInt.toNat, by omega⟩
  have sum : (S1 62 0 + x).toInt = (S1 62 0).toInt + x.toInt := i_addK rfl rfl (by omega) (by omega)
  have le21 : (S1 62 0).toInt + m ≤ 21 := by
    have := tq_le (x := S1 62 0 + x) (y := 21) (b := 21) rfl (by decide) c
    rw [sum, hm] at this
    exact this
  refine E2_ltl (fun T4 e4 => E2_br (Ep_and (e_plnT S1) (D_to (t_X8_plainTried S1 hN.1.1))) (fun S7 h7 => E2_ltr (fun S10 e10 => ?_)))
  obtain ⟨⟨hp, hf⟩, hB, hT⟩ := h7
  have hI7 : rI 0 S7 := ⟨hB, pI_fr hN.1.2.1 (fun j => hf 39 j (by omega) (by omega)) (fun j => hf 40 j (by omega) (by omega)) (fun j => hf 41 j (by omega) (by omega)) (fun j => hf 36 j (by omega) (by omega)) (fun j => hf 38 j (by omega) (by omega)) (fun j => hf 30 j (by omega) (by omega)) (fun j => hf 29 j (by omega) (by omega)) (hf 0 13 (by omega) (by omega)) (hf 0 14 (by omega) (by omega)), gI_fr hN.1.2.2 (fun j => hf 53 j (by omega) (by omega)) (fun j => hf 54 j (by omega) (by omega)) (fun j => hf 55 j (by omega) (by omega)) (fun j => hf 56 j (by omega) (by omega)) (fun j => hf 58 j (by omega) (by omega)) (hf 0 13 (by omega) (by omega)) (hf 0 14 (by omega) (by omega))⟩
  have g : ∀ a j, ¬ (a = 0 ∧ 64 ≤ j ∧ j ≤ 70) → ¬ a = 72 → S10 a j = S1 a j := fun a j n1 n2 => by rw [e10, st_no (by omega)]; exact hf a j n1 n2
  have z : ∀ j, 64 ≤ j → ¬ j = 65 → S10 0 j = S7 0 j := fun j _ n => by rw [e10, st_ne n]
  have hG : gG P T4 S10 T4 S10 L := by
    refine ⟨by rw [e4, e10]; exact e_rl0 hN hp hf hI7, fun _ => ?_, fun p hpp hq => ?_, aM_r, fun _ _ _ _ _ => rfl⟩
    · rw [e4, st_ne (by omega)]; exact ⟨hN.2.2.2.2.2.2.2.1.1, hN.2.2.2.2.2.2.2.1.2.1⟩
    · rw [show 6 * 0 + p = p by omega] at hq ⊢
      rw [g 0 13 (by omega) (by omega)] at hpp
      rw [g 62 0 (by omega) (by omega), g 57 p (by omega) (by omega)] at hq
      rw [g 59 p (by omega) (by omega)]
      exact hN.2.2.2.2.2.2.2.2 p hpp hq
  have q : S10 0 64 = S10 23 0 ∧ S10 0 66 = 0 ∧ S10 0 67 = 0 ∧ S10 0 68 = 0 ∧ S10 0 69 = 0 ∧ ∀ i, i < 10 → S10 72 i = -1 := ⟨by rw [z 64 (by omega) (by omega), g 23 0 (by omega) (by omega)]; exact hp.1, by rw [z 66 (by omega) (by omega)]; exact hp.2.1 66 (by omega) (by omega), by rw [z 67 (by omega) (by omega)]; exact hp.2.1 67 (by omega) (by omega), by rw [z 68 (by omega) (by omega)]; exact hp.2.1 68 (by omega) (by omega), by rw [z 69 (by omega) (by omega)]; exact hp.2.1 69 (by omega) (by omega), fun i hi => by rw [e10, st_oth (by omega)]; exact hp.2.2 i hi⟩
  have h70 : S10 0 70 = 0 := by rw [z 70 (by omega) (by omega)]; exact hp.2.1 70 (by omega) (by omega)
  have t5 : T4 0 5 = 1 := by rw [e4, st_same]
  have s62 : S10 62 0 = S1 62 0 := g 62 0 (by omega) (by omega)
  have s82 : S10 0 82 = S 0 82 := (g 0 82 (by omega) (by omega)).trans e82
  have lp : ∀ (N M n : Nat) (y : Int32) (T S2 : Tr) (L2 Lc2 : Lo), y.toInt = n → n ≤ m → gG P T4 S10 T S2 L2 → (S2 62 0).toInt = (S1 62 0).toInt + n → E2 (lpF (fun _ _ _ => none) (fB_X7_go_L36 pa qa P C q0 x) N y Lc2 T) (lpF (fun _ _ _ => none) (fB_X8_go_L41 x) M y S2 L2) (gq7 P C S x) := by
    intro N
    induction N with
    | zero => intro M n y T S2 L2 Lc2 _ _ _ _; exact E2_nl
    | succ N ih =>
      intro M n y T S2 L2 Lc2 hy hn hG2 hs
      cases M with
      | zero => exact E2_nr
      | succ M =>
        show E2 (fB_X7_go_L36 pa qa P C q0 x (lpF (fun _ _ _ => none) (fB_X7_go_L36 pa qa P C q0 x) N) y Lc2 T) (fB_X8_go_L41 x (lpF (fun _ _ _ => none) (fB_X8_go_L41 x) M) y S2 L2) _
        have ih := ih M
        generalize lpF (fun _ _ _ => none) (fB_X7_go_L36 pa qa P C q0 x) N = k36 at ih ⊢
        generalize lpF (fun _ _ _ => none) (fB_X8_go_L41 x) M = k41 at ih ⊢
        unfold fB_X7_go_L36 fB_X8_go_L41
        refine E2_it Iff.rfl (fun c _ => ?_) (fun c _ => E2_ckl (fun _ => ?_))
        · unfold fJ_X7_go_J54 fJ_X8_go_J57
          refine E2_ltr (fun S12 e12 => ?_)
          have hNw : Nw P T S12 L2 := by rw [e12]; exact gG_end hG2 t5 q
          have e82' : S2 0 82 = S10 0 82 := hG2.2.2.2.1 0 82 (aM_0 (by omega) (by omega))
          have nw82 : ∀ (v : Int32) (S14 : Tr), S14 = st S12 0 82 v → (v = S12 0 82 ∨ v = 0) → Nw P T S14 L2 ∧ S14 62 0 = T 0 0 := fun v S14 e14 hv => by
            have b82 := hNw.1.1 0 82
            have b82' : (BM 0 82).1 ≤ v.toInt ∧ v.toInt ≤ (BM 0 82).2 := by
              rcases hv with e | e
              · rw [e]; exact b82
              · rw [e]; exact ⟨by decide, by decide⟩
            have r : Nw P T S14 L2 := by
              rw [e14]
              refine Nw_of hNw (rI_s0 hNw.1 (iR_set hNw.1.1 b82'.1 b82'.2) (by omega) (by omega)) (fun a j hc => st_no (fun e => ?_)) (by rw [st_ne (by omega)]; exact hNw.2.2.2.2.2.2.2.1.2.2) rfl
              obtain ⟨rfl, rfl⟩ := e
              unfold h0c at hc
              omega
            exact ⟨r, r.2.2.1.1.symm⟩
          refine E2_it Iff.rfl (fun _ _ => ?_) (fun _ _ => E2_ltl (fun C7 e7 => ?_))
          · unfold fJ_X8_go_J75
            refine E2_ltr (fun S14 e14 => E2_some ?_)
            obtain ⟨r1, r2⟩ := nw82 _ S14 e14 (Or.inl rfl)
            exact ⟨r2.symm, r1, Or.inl ⟨rfl, by show S14 0 82 = S 0 82; rw [e14, st_same, e12, st_ne (by omega), e82', s82]⟩⟩
          · unfold fJ_X8_go_J75
            refine E2_ltr (fun S14 e14 => E2_some ?_)
            obtain ⟨r1, r2⟩ := nw82 _ S14 e14 (Or.inr rfl)
            exact ⟨r2.symm, r1, Or.inr ⟨e7, by show S14 0 82 = 0; rw [e14, st_same]⟩⟩
        · have lt := tq_len hm hy c
          refine E2_bd (gG_step hG2 h70 (by omega)) (fun u v huv => E2_ltl (fun T9 e9 => E2_ltl (fun L10 _ => E2_ltl (fun y13 e13 => E2_ltr (fun S15 e15 => E2_ltr (fun L16 e16 => E2_ltr (fun y19 e19 => ?_)))))))
          rw [show y19 = y13 by rw [e19, e13]]
          refine ih (n + 1) y13 T9 S15 L16 L10 (by rw [e13]; exact i_p1 hy (by omega)) (by omega) (by rw [e9, e15, e16]; exact huv.1) ?_
          rw [e15, huv.2, hs]
          omega
  unfold fL_X7_go_L36 fL_X8_go_L41
  exact lp 2000 2000 0 0 T4 S10 L Lc (by decide) (by omega) hG (by rw [s62]; omega)
-- 62.zaz.41.z31
/-! remembered: the reference's rows, exactly -/
def newR (S q : Tr) (u : Nat) : Prop := (∀ j, j < 50 → q 84 (61 * u + j) = S 55 j) ∧ (∀ j, j < 5 → q 84 (61 * u + 50 + j) = S 56 j) ∧ ∀ j, j < 6 → q 84 (61 * u + 55 + j) = S 58 j
theorem k_r49 {S : Tr} {u : Nat} (hu : (S 0 82).toInt = u) (h19 : u ≤ 19) : Ep (fJ_X8_remember_J49 S) (fun q => newR S q u ∧ (q 0 82).toInt = (u : Int) + 1 ∧ (∀ j, j < 61 * u → q 84 j = S 84 j) ∧ ∀ a j, a ≠ 84 → ¬ (a = 0 ∧ j = 82) → q a j = S a j) := by
  have e1 := i_mulL (a := (61 : Int32)) (b := S 0 82) 61 (by decide) (by omega) (by omega)
  have eo : ((61 : Int32) * (S 0 82)).toNatClampNeg = 61 * u := by rw [i_cl]; omega
  unfold fJ_X8_remember_J49
  refine Ep_bd (D_to (t_X8_put_84 S ((61 : Int32) * (S 0 82)) ⟨by omega, by omega⟩)) (fun S2 h2 => Ep_lt (fun S5 e5 => Ep_some ?_))
  rw [eo] at h2
  have f84 : ∀ j, S5 84 j = S2 84 j := fun j => by rw [e5, st_oth (by decide)]
  have h82 : S2 0 82 = S 0 82 := by rw [h2, put_o (by omega)]
  refine ⟨⟨fun j hj => ?_, fun j hj => ?_, fun j hj => ?_⟩, ?_, fun j hj => ?_, fun a j n1 n2 => ?_⟩
  · rw [f84, h2, put_s hj]
  · rw [f84, h2, put_m (by decide) hj]
  · rw [f84, h2, put_a (by decide) hj]
  · rw [e5, st_same, h82]
    exact i_addK hu (y := 1) (by decide) (by omega) (by omega)
  · rw [f84, h2, put_o (by omega)]
  · rw [e5, st_no n2, h2, put_o (by omega)]
def remQ (S q : Tr) (u : Nat) : Prop := (u < 20 → newR S q u ∧ (q 0 82).toInt = (u : Int) + 1 ∧ ∀ j, j < 61 * u → q 84 j = S 84 j) ∧ (u = 20 → newR S q 19 ∧ (q 0 82).toInt = 20 ∧ ∀ j, j < 1159 → q 84 j = S 84 (j + 61)) ∧ ∀ a j, a ≠ 84 → ¬ (a = 0 ∧ j = 82) → q a j = S a j
theorem k_rem {S : Tr} {u : Nat} (hu : (S 0 82).toInt = u) (h20 : u ≤ 20) : Ep (f_X8_remember S) (fun q => remQ S q u) := by
  unfold f_X8_remember
  refine Ep_ite (fun c => ?_) (fun c => ?_)
  · have u20 : u = 20 := by
      rw [c, show (20 : Int32).toInt = 20 by decide] at hu
      omega
    have last : Ep (fJ_X8_remember_J39 (dwn S 1159)) (fun q => remQ S q u) := by
      unfold fJ_X8_remember_J39
      refine Ep_lt (fun w ew => ?_)
      rw [dwn_o (by omega)] at ew
      have f1 : (S 0 82 - 1).toInt = 19 := by rw [c]; decide
      have fr : ∀ a j, ¬ (a = 84 ∧ j < 1159) → ¬ (a = 0 ∧ j = 82) → w a j = S a j := fun a j q1 q2 => by rw [ew, st_no q2, dwn_o q1]
      have f84 : ∀ j, j < 1159 → w 84 j = S 84 (j + 61) := fun j hj => by rw [ew, st_oth (by decide), dwn_i hj]
      have n82 : (w 0 82).toInt = ((19 : Nat) : Int) := by rw [ew, st_same]; exact f1
      refine Ep_mono (k_r49 n82 (by omega)) (fun q hq => ?_)
      obtain ⟨⟨r1, r2, r3⟩, r4, r5, r6⟩ := hq
      refine ⟨fun g => absurd g (by omega), fun _ => ⟨⟨fun j hj => (r1 j hj).trans (fr 55 j (by omega) (by omega)), fun j hj => (r2 j hj).trans (fr 56 j (by omega) (by omega)), fun j hj => (r3 j hj).trans (fr 58 j (by omega) (by omega))⟩, r4, fun j hj => (r5 j (by omega)).trans (f84 j hj)⟩, fun a j q1 q2 => (r6 a j q1 q2).trans (fr a j (by omega) q2)⟩
    have go : ∀ (N n : Nat) (x : Int32) (T : Tr), x.toInt = n → n ≤ 1159 → T = dwn S n → Ep (lpF (fun _ _ => none) fB_X8_remember_L11 N x T) (fun q => remQ S q u) := by
      intro N
      induction N with
      | zero => intro n x T _ _ _; exact Ep_none
      | succ N ih =>
        intro n x T hx hn hT
        show Ep (fB_X8_remember_L11 (lpF (fun _ _ => none) fB_X8_remember_L11 N) x T) _
        generalize lpF (fun _ _ => none) fB_X8_remember_L11 N = kk at ih ⊢
        unfold fB_X8_remember_L11
        refine Ep_ite (fun c => ?_) (fun c => ?_)
        · have k := tq_le (a := 1159) (by decide) hx c
          rw [hT, show n = 1159 by omega]
          exact last
        · have k := tq_len (b := n) (a := 1159) (by decide) hx c
          have f : (x + 61).toInt = x.toInt + 61 := i_addK rfl (by decide) (by omega) (by omega)
          refine Ep_ck (Ep_ck (Ep_lt (fun S1 e1 => Ep_lt (fun y ey => ih (n + 1) y S1 (by rw [ey]; exact i_p1 hx (by omega)) (by omega) (dwn_b hT e1 (i_cn hx) (by rw [i_cl]; omega) rfl)))))
    unfold fL_X8_remember_L11
    exact go 2000 0 0 S (by decide) (by omega) dwn_0.symm
  · have u19 : u ≤ 19 := by
      by_cases g : u = 20
      · exact absurd (Int32.toInt_inj.mp (by rw [hu, g]; decide)) c
      · omega
    refine Ep_mono (k_r49 hu u19) (fun q hq => ?_)
    obtain ⟨r1, r2, r3, r4⟩ := hq
    exact ⟨fun _ => ⟨r1, r2, r3⟩, fun g => absurd g (by omega), r4⟩
-- 62.zaz.42.z32
/-! the class's rows of changes, exactly -/
theorem cpv_i {f g : Nat → Int32} {sp dp n j : Nat} (h : j < n) : va_cpy f g sp dp n (dp + j) = f (sp + j) := by
  unfold va_cpy
  rw [if_pos ⟨by omega, by omega⟩, Nat.add_sub_cancel_left]
theorem cpv_o {f g : Nat → Int32} {sp dp n k : Nat} (h : ¬ (dp ≤ k ∧ k < dp + n)) : va_cpy f g sp dp n k = g k := by
  unfold va_cpy
  rw [if_neg h]
def srQ (T C : Tr) (a o n : Nat) (q : Int32 × Tr) : Prop := q.1.toInt = ((o + n : Nat) : Int) ∧ (∀ j, j < n → q.2 3 (o + j) = T a j) ∧ (∀ k, ¬ (o ≤ k ∧ k < o + n) → q.2 3 k = C 3 k) ∧ ∀ c j, c ≠ 3 → q.2 c j = C c j
def svQ (T C q : Tr) (m : Nat) : Prop := (∀ j, j < 50 → q 3 (76 * m + j) = T 16 j) ∧ (∀ j, j < 5 → q 3 (76 * m + 50 + j) = T 17 j) ∧ (∀ j, j < 5 → q 3 (76 * m + 55 + j) = T 18 j) ∧ (∀ j, j < 10 → q 3 (76 * m + 60 + j) = T 15 j) ∧ (∀ j, j < 6 → q 3 (76 * m + 70 + j) = T 10 j) ∧ (∀ k, ¬ (76 * m ≤ k ∧ k < 76 * m + 76) → q 3 k = C 3 k) ∧ (q 0 1).toInt = (((m + 1) % 20 : Nat) : Int) ∧ q 0 0 = if C 0 0 = 20 then 20 else C 0 0 + 1
theorem k_sr_na16 (pa qa : Nat → Nat) (Tn C : Tr) {x : Int32} {o : Nat} (hx : x.toInt = o) (ho : o ≤ 10000) : Ep (f_X0_saveRow_x_na16 pa qa Tn C x) (srQ Tn C 16 o 50) := by
  unfold f_X0_saveRow_x_na16
  refine Ep_ck (Ep_lt (fun C2 e2 => Ep_some ⟨?_, fun j hj => ?_, fun k hk => ?_, fun c j hc => ?_⟩))
  · show (x + 50).toInt = _
    rw [i_addK hx (y := 50) (by decide) (by omega) (by omega)]; omega
  · show C2 3 (o + j) = _
    rw [e2, stC_same, i_cn hx, cpv_i hj, Nat.zero_add]
  · show C2 3 k = _
    rw [e2, stC_same, i_cn hx, cpv_o hk]
  · show C2 c j = _
    rw [e2, stC_oth hc]
theorem k_sr_na17 (pa qa : Nat → Nat) (Tn C : Tr) {x : Int32} {o : Nat} (hx : x.toInt = o) (ho : o ≤ 10000) : Ep (f_X0_saveRow_x_na17 pa qa Tn C x) (srQ Tn C 17 o 5) := by
  unfold f_X0_saveRow_x_na17
  refine Ep_ck (Ep_lt (fun C2 e2 => Ep_some ⟨?_, fun j hj => ?_, fun k hk => ?_, fun c j hc => ?_⟩))
  · show (x + 5).toInt = _
    rw [i_addK hx (y := 5) (by decide) (by omega) (by omega)]; omega
  · show C2 3 (o + j) = _
    rw [e2, stC_same, i_cn hx, cpv_i hj, Nat.zero_add]
  · show C2 3 k = _
    rw [e2, stC_same, i_cn hx, cpv_o hk]
  · show C2 c j = _
    rw [e2, stC_oth hc]
theorem k_sr_na18 (pa qa : Nat → Nat) (Tn C : Tr) {x : Int32} {o : Nat} (hx : x.toInt = o) (ho : o ≤ 10000) : Ep (f_X0_saveRow_x_na18 pa qa Tn C x) (srQ Tn C 18 o 5) := by
  unfold f_X0_saveRow_x_na18
  refine Ep_ck (Ep_lt (fun C2 e2 => Ep_some ⟨?_, fun j hj => ?_, fun k hk => ?_, fun c j hc => ?_⟩))
  · show (x + 5).toInt = _
    rw [i_addK hx (y := 5) (by decide) (by omega) (by omega)]; omega
  · show C2 3 (o + j) = _
    rw [e2, stC_same, i_cn hx, cpv_i hj, Nat.zero_add]
  · show C2 3 k = _
    rw [e2, stC_same, i_cn hx, cpv_o hk]
  · show C2 c j = _
    rw [e2, stC_oth hc]
theorem k_sr_na15 (pa qa : Nat → Nat) (Tn C : Tr) {x : Int32} {o : Nat} (hx : x.toInt = o) (ho : o ≤ 10000) : Ep (f_X0_saveRow_x_na15 pa qa Tn C x) (srQ Tn C 15 o 10) := by
  unfold f_X0_saveRow_x_na15
  refine Ep_ck (Ep_lt (fun C2 e2 => Ep_some ⟨?_, fun j hj => ?_, fun k hk => ?_, fun c j hc => ?_⟩))
  · show (x + 10).toInt = _
    rw [i_addK hx (y := 10) (by decide) (by omega) (by omega)]; omega
  · show C2 3 (o + j) = _
    rw [e2, stC_same, i_cn hx, cpv_i hj, Nat.zero_add]
  · show C2 3 k = _
    rw [e2, stC_same, i_cn hx, cpv_o hk]
  · show C2 c j = _
    rw [e2, stC_oth hc]
theorem k_sr_na10 (pa qa : Nat → Nat) (Tn C : Tr) {x : Int32} {o : Nat} (hx : x.toInt = o) (ho : o ≤ 10000) : Ep (f_X0_saveRow_x_na10 pa qa Tn C x) (srQ Tn C 10 o 6) := by
  unfold f_X0_saveRow_x_na10
  refine Ep_ck (Ep_lt (fun C2 e2 => Ep_some ⟨?_, fun j hj => ?_, fun k hk => ?_, fun c j hc => ?_⟩))
  · show (x + 6).toInt = _
    rw [i_addK hx (y := 6) (by decide) (by omega) (by omega)]; omega
  · show C2 3 (o + j) = _
    rw [e2, stC_same, i_cn hx, cpv_i hj, Nat.zero_add]
  · show C2 3 k = _
    rw [e2, stC_same, i_cn hx, cpv_o hk]
  · show C2 c j = _
    rw [e2, stC_oth hc]
theorem k_sav_na (pa qa : Nat → Nat) (Tn C : Tr) {m : Nat} (hm : (C 0 1).toInt = m) (h19 : m ≤ 19) : Ep (f_X0_save_x_na0 pa qa Tn C) (fun q => svQ Tn C q m) := by
  unfold f_X0_save_x_na0
  refine Ep_lt (fun y1 ey => ?_)
  have hy : y1.toInt = ((76 * m : Nat) : Int) := by rw [ey, i_mulR (b := (76 : Int32)) 76 (by decide) (by omega) (by omega), hm]; omega
  refine Ep_bd (k_sr_na16 pa qa Tn C hy (by omega)) (fun q1 h1 => Ep_lt (fun r2 er2 => Ep_lt (fun C3 ec3 => ?_)))
  unfold srQ at h1
  rw [← er2, ← ec3] at h1
  obtain ⟨a1, a2, a3, a4⟩ := h1
  refine Ep_bd (k_sr_na17 pa qa Tn C3 a1 (by omega)) (fun q2 h2 => Ep_lt (fun r6 er6 => Ep_lt (fun C7 ec7 => ?_)))
  unfold srQ at h2
  rw [← er6, ← ec7] at h2
  obtain ⟨b1, b2, b3, b4⟩ := h2
  refine Ep_bd (k_sr_na18 pa qa Tn C7 b1 (by omega)) (fun q3 h3 => Ep_lt (fun r10 er10 => Ep_lt (fun C11 ec11 => ?_)))
  unfold srQ at h3
  rw [← er10, ← ec11] at h3
  obtain ⟨c1, c2, c3, c4⟩ := h3
  refine Ep_bd (k_sr_na15 pa qa Tn C11 c1 (by omega)) (fun q4 h4 => Ep_lt (fun r14 er14 => Ep_lt (fun C15 ec15 => ?_)))
  unfold srQ at h4
  rw [← er14, ← ec15] at h4
  obtain ⟨d1, d2, d3, d4⟩ := h4
  refine Ep_bd (k_sr_na10 pa qa Tn C15 d1 (by omega)) (fun q5 h5 => Ep_lt (fun r18 _ => Ep_lt (fun C19 ec19 => Ep_lt (fun C22 e22 => ?_))))
  unfold srQ at h5
  rw [← ec19] at h5
  obtain ⟨_, f2, f3, f4⟩ := h5
  have z : ∀ j, C19 0 j = C 0 j := fun j => by rw [f4 0 j (by decide), d4 0 j (by decide), c4 0 j (by decide), b4 0 j (by decide), a4 0 j (by decide)]
  have n1 : (C19 0 1 + 1).toInt = (m : Int) + 1 := i_addK (by rw [z]; exact hm) (by decide) (by omega) (by omega)
  have n2 : (C22 0 1).toInt = (((m + 1) % 20 : Nat) : Int) := by
    rw [e22, st_same, i_rem (b := (20 : Int32)) 20 (by decide) (by decide) (by omega), n1]; omega
  have g3 : ∀ k, C22 3 k = C19 3 k := fun k => by rw [e22, st_oth (by decide)]
  have z0 : C22 0 0 = C 0 0 := by rw [e22, st_ne (by decide), z]
  have fin : ∀ q : Tr, (∀ k, q 3 k = C19 3 k) → q 0 1 = C22 0 1 → q 0 0 = (if C 0 0 = 20 then 20 else C 0 0 + 1) → svQ Tn C q m := fun q h3 h1 h0 => by
    refine ⟨fun j hj => ?_, fun j hj => ?_, fun j hj => ?_, fun j hj => ?_, fun j hj => ?_, fun k hk => ?_, by rw [h1]; exact n2, h0⟩
    · rw [h3, f3 _ (by omega), d3 _ (by omega), c3 _ (by omega), b3 _ (by omega)]; exact a2 j hj
    · rw [h3, f3 _ (by omega), d3 _ (by omega), c3 _ (by omega)]; exact b2 j hj
    · rw [h3, f3 _ (by omega), d3 _ (by omega), show 76 * m + 55 + j = 76 * m + 50 + 5 + j by omega]; exact c2 j hj
    · rw [h3, f3 _ (by omega), show 76 * m + 60 + j = 76 * m + 50 + 5 + 5 + j by omega]; exact d2 j hj
    · rw [h3, show 76 * m + 70 + j = 76 * m + 50 + 5 + 5 + 10 + j by omega]; exact f2 j hj
    · rw [h3, f3 _ (by omega), d3 _ (by omega), c3 _ (by omega), b3 _ (by omega), a3 _ (by omega)]
  rw [z0]
  refine Ep_ite (fun c => ?_) (fun c => ?_)
  · unfold fJ_X0_save_x_na0_J92
    refine Ep_lt (fun C24 e24 => Ep_some (fin C24 (fun k => by rw [e24, st_oth (by decide), g3]) (by rw [e24, st_ne (by decide)]) ?_))
    rw [e24, st_same, if_pos c]
  · unfold fJ_X0_save_x_na0_J92
    refine Ep_lt (fun C24 e24 => Ep_some (fin C24 (fun k => by rw [e24, st_oth (by decide), g3]) (by rw [e24, st_ne (by decide)]) ?_))
    rw [e24, st_same, if_neg c]
theorem k_sr_va16 (pa qa : Nat → Nat) (Tv C : Tr) {x : Int32} {o : Nat} (hx : x.toInt = o) (ho : o ≤ 10000) : Ep (f_X0_saveRow_x_va16 pa qa Tv C x) (srQ Tv C 16 o 50) := by
  unfold f_X0_saveRow_x_va16
  refine Ep_ck (Ep_lt (fun C2 e2 => Ep_some ⟨?_, fun j hj => ?_, fun k hk => ?_, fun c j hc => ?_⟩))
  · show (x + 50).toInt = _
    rw [i_addK hx (y := 50) (by decide) (by omega) (by omega)]; omega
  · show C2 3 (o + j) = _
    rw [e2, stC_same, i_cn hx, cpv_i hj, Nat.zero_add]
  · show C2 3 k = _
    rw [e2, stC_same, i_cn hx, cpv_o hk]
  · show C2 c j = _
    rw [e2, stC_oth hc]
theorem k_sr_va17 (pa qa : Nat → Nat) (Tv C : Tr) {x : Int32} {o : Nat} (hx : x.toInt = o) (ho : o ≤ 10000) : Ep (f_X0_saveRow_x_va17 pa qa Tv C x) (srQ Tv C 17 o 5) := by
  unfold f_X0_saveRow_x_va17
  refine Ep_ck (Ep_lt (fun C2 e2 => Ep_some ⟨?_, fun j hj => ?_, fun k hk => ?_, fun c j hc => ?_⟩))
  · show (x + 5).toInt = _
    rw [i_addK hx (y := 5) (by decide) (by omega) (by omega)]; omega
  · show C2 3 (o + j) = _
    rw [e2, stC_same, i_cn hx, cpv_i hj, Nat.zero_add]
  · show C2 3 k = _
    rw [e2, stC_same, i_cn hx, cpv_o hk]
  · show C2 c j = _
    rw [e2, stC_oth hc]
theorem k_sr_va18 (pa qa : Nat → Nat) (Tv C : Tr) {x : Int32} {o : Nat} (hx : x.toInt = o) (ho : o ≤ 10000) : Ep (f_X0_saveRow_x_va18 pa qa Tv C x) (srQ Tv C 18 o 5) := by
  unfold f_X0_saveRow_x_va18
  refine Ep_ck (Ep_lt (fun C2 e2 => Ep_some ⟨?_, fun j hj => ?_, fun k hk => ?_, fun c j hc => ?_⟩))
  · show (x + 5).toInt = _
    rw [i_addK hx (y := 5) (by decide) (by omega) (by omega)]; omega
  · show C2 3 (o + j) = _
    rw [e2, stC_same, i_cn hx, cpv_i hj, Nat.zero_add]
  · show C2 3 k = _
    rw [e2, stC_same, i_cn hx, cpv_o hk]
  · show C2 c j = _
    rw [e2, stC_oth hc]
theorem k_sr_va15 (pa qa : Nat → Nat) (Tv C : Tr) {x : Int32} {o : Nat} (hx : x.toInt = o) (ho : o ≤ 10000) : Ep (f_X0_saveRow_x_va15 pa qa Tv C x) (srQ Tv C 15 o 10) := by
  unfold f_X0_saveRow_x_va15
  refine Ep_ck (Ep_lt (fun C2 e2 => Ep_some ⟨?_, fun j hj => ?_, fun k hk => ?_, fun c j hc => ?_⟩))
  · show (x + 10).toInt = _
    rw [i_addK hx (y := 10) (by decide) (by omega) (by omega)]; omega
  · show C2 3 (o + j) = _
    rw [e2, stC_same, i_cn hx, cpv_i hj, Nat.zero_add]
  · show C2 3 k = _
    rw [e2, stC_same, i_cn hx, cpv_o hk]
  · show C2 c j = _
    rw [e2, stC_oth hc]
theorem k_sr_va10 (pa qa : Nat → Nat) (Tv C : Tr) {x : Int32} {o : Nat} (hx : x.toInt = o) (ho : o ≤ 10000) : Ep (f_X0_saveRow_x_va10 pa qa Tv C x) (srQ Tv C 10 o 6) := by
  unfold f_X0_saveRow_x_va10
  refine Ep_ck (Ep_lt (fun C2 e2 => Ep_some ⟨?_, fun j hj => ?_, fun k hk => ?_, fun c j hc => ?_⟩))
  · show (x + 6).toInt = _
    rw [i_addK hx (y := 6) (by decide) (by omega) (by omega)]; omega
  · show C2 3 (o + j) = _
    rw [e2, stC_same, i_cn hx, cpv_i hj, Nat.zero_add]
  · show C2 3 k = _
    rw [e2, stC_same, i_cn hx, cpv_o hk]
  · show C2 c j = _
    rw [e2, stC_oth hc]
theorem k_sav_va (pa qa : Nat → Nat) (Tv C : Tr) {m : Nat} (hm : (C 0 1).toInt = m) (h19 : m ≤ 19) : Ep (f_X0_save_x_va0 pa qa Tv C) (fun q => svQ Tv C q m) := by
  unfold f_X0_save_x_va0
  refine Ep_lt (fun y1 ey => ?_)
  have hy : y1.toInt = ((76 * m : Nat) : Int) := by rw [ey, i_mulR (b := (76 : Int32)) 76 (by decide) (by omega) (by omega), hm]; omega
  refine Ep_bd (k_sr_va16 pa qa Tv C hy (by omega)) (fun q1 h1 => Ep_lt (fun r2 er2 => Ep_lt (fun C3 ec3 => ?_)))
  unfold srQ at h1
  rw [← er2, ← ec3] at h1
  obtain ⟨a1, a2, a3, a4⟩ := h1
  refine Ep_bd (k_sr_va17 pa qa Tv C3 a1 (by omega)) (fun q2 h2 => Ep_lt (fun r6 er6 => Ep_lt (fun C7 ec7 => ?_)))
  unfold srQ at h2
  rw [← er6, ← ec7] at h2
  obtain ⟨b1, b2, b3, b4⟩ := h2
  refine Ep_bd (k_sr_va18 pa qa Tv C7 b1 (by omega)) (fun q3 h3 => Ep_lt (fun r10 er10 => Ep_lt (fun C11 ec11 => ?_)))
  unfold srQ at h3
  rw [← er10, ← ec11] at h3
  obtain ⟨c1, c2, c3, c4⟩ := h3
  refine Ep_bd (k_sr_va15 pa qa Tv C11 c1 (by omega)) (fun q4 h4 => Ep_lt (fun r14 er14 => Ep_lt (fun C15 ec15 => ?_)))
  unfold srQ at h4
  rw [← er14, ← ec15] at h4
  obtain ⟨d1, d2, d3, d4⟩ := h4
  refine Ep_bd (k_sr_va10 pa qa Tv C15 d1 (by omega)) (fun q5 h5 => Ep_lt (fun r18 _ => Ep_lt (fun C19 ec19 => Ep_lt (fun C22 e22 => ?_))))
  unfold srQ at h5
  rw [← ec19] at h5
  obtain ⟨_, f2, f3, f4⟩ := h5
  have z : ∀ j, C19 0 j = C 0 j := fun j => by rw [f4 0 j (by decide), d4 0 j (by decide), c4 0 j (by decide), b4 0 j (by decide), a4 0 j (by decide)]
  have n1 : (C19 0 1 + 1).toInt = (m : Int) + 1 := i_addK (by rw [z]; exact hm) (by decide) (by omega) (by omega)
  have n2 : (C22 0 1).toInt = (((m + 1) % 20 : Nat) : Int) := by
    rw [e22, st_same, i_rem (b := (20 : Int32)) 20 (by decide) (by decide) (by omega), n1]; omega
  have g3 : ∀ k, C22 3 k = C19 3 k := fun k => by rw [e22, st_oth (by decide)]
  have z0 : C22 0 0 = C 0 0 := by rw [e22, st_ne (by decide), z]
  have fin : ∀ q : Tr, (∀ k, q 3 k = C19 3 k) → q 0 1 = C22 0 1 → q 0 0 = (if C 0 0 = 20 then 20 else C 0 0 + 1) → svQ Tv C q m := fun q h3 h1 h0 => by
    refine ⟨fun j hj => ?_, fun j hj => ?_, fun j hj => ?_, fun j hj => ?_, fun j hj => ?_, fun k hk => ?_, by rw [h1]; exact n2, h0⟩
    · rw [h3, f3 _ (by omega), d3 _ (by omega), c3 _ (by omega), b3 _ (by omega)]; exact a2 j hj
    · rw [h3, f3 _ (by omega), d3 _ (by omega), c3 _ (by omega)]; exact b2 j hj
    · rw [h3, f3 _ (by omega), d3 _ (by omega), show 76 * m + 55 + j = 76 * m + 50 + 5 + j by omega]; exact c2 j hj
    · rw [h3, f3 _ (by omega), show 76 * m + 60 + j = 76 * m + 50 + 5 + 5 + j by omega]; exact d2 j hj
    · rw [h3, show 76 * m + 70 + j = 76 * m + 50 + 5 + 5 + 10 + j by omega]; exact f2 j hj
    · rw [h3, f3 _ (by omega), d3 _ (by omega), c3 _ (by omega), b3 _ (by omega), a3 _ (by omega)]
  rw [z0]
  refine Ep_ite (fun c => ?_) (fun c => ?_)
  · unfold fJ_X0_save_x_va0_J92
    refine Ep_lt (fun C24 e24 => Ep_some (fin C24 (fun k => by rw [e24, st_oth (by decide), g3]) (by rw [e24, st_ne (by decide)]) ?_))
    rw [e24, st_same, if_pos c]
  · unfold fJ_X0_save_x_va0_J92
    refine Ep_lt (fun C24 e24 => Ep_some (fin C24 (fun k => by rw [e24, st_oth (by decide), g3]) (by rw [e24, st_ne (by decide)]) ?_))
    rw [e24, st_same, if_neg c]
/-! and brought back -/
def brQ (T C : Tr) (a o n : Nat) (q : Int32 × Tr) : Prop := q.1.toInt = ((o + n : Nat) : Int) ∧ (∀ j, j < n → q.2 a j = C 3 (o + j)) ∧ ∀ c j, c ≠ a → q.2 c j = T c j
theorem k_br_16 (pa qa : Nat → Nat) (Tn C : Tr) {x : Int32} {o : Nat} (hx : x.toInt = o) (ho : o ≤ 10000) : Ep (f_X0_bringRow_x_na16 pa qa Tn C x) (brQ Tn C 16 o 50) := by
  unfold f_X0_bringRow_x_na16
  refine Ep_ck (Ep_lt (fun T2 e2 => Ep_some ⟨?_, fun j hj => ?_, fun c j hc => ?_⟩))
  · show (x + 50).toInt = _
    rw [i_addK hx (y := 50) (by decide) (by omega) (by omega)]; omega
  · show T2 16 j = _
    have h := cpv_i (f := C 3) (g := Tn 16) (sp := o) (dp := 0) hj
    rw [Nat.zero_add] at h
    rw [e2, stC_same, i_cn hx, h]
  · show T2 c j = _
    rw [e2, stC_oth hc]
theorem k_br_17 (pa qa : Nat → Nat) (Tn C : Tr) {x : Int32} {o : Nat} (hx : x.toInt = o) (ho : o ≤ 10000) : Ep (f_X0_bringRow_x_na17 pa qa Tn C x) (brQ Tn C 17 o 5) := by
  unfold f_X0_bringRow_x_na17
  refine Ep_ck (Ep_lt (fun T2 e2 => Ep_some ⟨?_, fun j hj => ?_, fun c j hc => ?_⟩))
  · show (x + 5).toInt = _
    rw [i_addK hx (y := 5) (by decide) (by omega) (by omega)]; omega
  · show T2 17 j = _
    have h := cpv_i (f := C 3) (g := Tn 17) (sp := o) (dp := 0) hj
    rw [Nat.zero_add] at h
    rw [e2, stC_same, i_cn hx, h]
  · show T2 c j = _
    rw [e2, stC_oth hc]
theorem k_br_18 (pa qa : Nat → Nat) (Tn C : Tr) {x : Int32} {o : Nat} (hx : x.toInt = o) (ho : o ≤ 10000) : Ep (f_X0_bringRow_x_na18 pa qa Tn C x) (brQ Tn C 18 o 5) := by
  unfold f_X0_bringRow_x_na18
  refine Ep_ck (Ep_lt (fun T2 e2 => Ep_some ⟨?_, fun j hj => ?_, fun c j hc => ?_⟩))
  · show (x + 5).toInt = _
    rw [i_addK hx (y := 5) (by decide) (by omega) (by omega)]; omega
  · show T2 18 j = _
    have h := cpv_i (f := C 3) (g := Tn 18) (sp := o) (dp := 0) hj
    rw [Nat.zero_add] at h
    rw [e2, stC_same, i_cn hx, h]
  · show T2 c j = _
    rw [e2, stC_oth hc]
theorem k_br_15 (pa qa : Nat → Nat) (Tn C : Tr) {x : Int32} {o : Nat} (hx : x.toInt = o) (ho : o ≤ 10000) : Ep (f_X0_bringRow_x_na15 pa qa Tn C x) (brQ Tn C 15 o 10) := by
  unfold f_X0_bringRow_x_na15
  refine Ep_ck (Ep_lt (fun T2 e2 => Ep_some ⟨?_, fun j hj => ?_, fun c j hc => ?_⟩))
  · show (x + 10).toInt = _
    rw [i_addK hx (y := 10) (by decide) (by omega) (by omega)]; omega
  · show T2 15 j = _
    have h := cpv_i (f := C 3) (g := Tn 15) (sp := o) (dp := 0) hj
    rw [Nat.zero_add] at h
    rw [e2, stC_same, i_cn hx, h]
  · show T2 c j = _
    rw [e2, stC_oth hc]
theorem k_br_10 (pa qa : Nat → Nat) (Tn C : Tr) {x : Int32} {o : Nat} (hx : x.toInt = o) (ho : o ≤ 10000) : Ep (f_X0_bringRow_x_na10 pa qa Tn C x) (brQ Tn C 10 o 6) := by
  unfold f_X0_bringRow_x_na10
  refine Ep_ck (Ep_lt (fun T2 e2 => Ep_some ⟨?_, fun j hj => ?_, fun c j hc => ?_⟩))
  · show (x + 6).toInt = _
    rw [i_addK hx (y := 6) (by decide) (by omega) (by omega)]; omega
  · show T2 10 j = _
    have h := cpv_i (f := C 3) (g := Tn 10) (sp := o) (dp := 0) hj
    rw [Nat.zero_add] at h
    rw [e2, stC_same, i_cn hx, h]
  · show T2 c j = _
    rw [e2, stC_oth hc]
def bbQ (T C : Tr) (m : Nat) (q : Tr × Tr) : Prop := (∀ j, j < 50 → q.1 16 j = C 3 (76 * m + j)) ∧ (∀ j, j < 5 → q.1 17 j = C 3 (76 * m + 50 + j)) ∧ (∀ j, j < 5 → q.1 18 j = C 3 (76 * m + 55 + j)) ∧ (∀ j, j < 10 → q.1 15 j = C 3 (76 * m + 60 + j)) ∧ (∀ j, j < 6 → q.1 10 j = C 3 (76 * m + 70 + j)) ∧ (∀ a j, ¬ (a = 10 ∨ (15 ≤ a ∧ a ≤ 18)) → q.1 a j = T a j) ∧ (∀ k, q.2 3 k = C 3 k) ∧ (q.2 0 1).toInt = m ∧ q.2 0 0 = C 0 0 - 1
theorem k_bb (pa qa : Nat → Nat) (Tn C : Tr) {m : Nat} (hm : (C 0 1).toInt = m) (h19 : m ≤ 19) (h0 : ¬ C 0 0 = 0) : Ep (f_X0_bringBack_x_na0 pa qa Tn C) (bbQ Tn C ((m + 19) % 20)) := by
  unfold f_X0_bringBack_x_na0
  rw [if_neg h0]
  refine Ep_lt (fun C2 e2 => Ep_lt (fun C3 e3 => Ep_lt (fun y4 e4 => ?_)))
  have n1 : (C 0 1 + 20).toInt = (m : Int) + 20 := i_addK hm (by decide) (by omega) (by omega)
  have n2 : (C 0 1 + 20 - 1).toInt = (m : Int) + 19 := by
    have := i_subK (b := (1 : Int32)) n1 (y := 1) (by decide) (by omega) (by omega)
    rw [this]; omega
  have n3 : (C3 0 1).toInt = (((m + 19) % 20 : Nat) : Int) := by
    rw [e3, st_ne (by decide), e2, st_same, i_rem (b := (20 : Int32)) 20 (by decide) (by decide) (by omega), n2]; omega
  have g3 : ∀ k, C3 3 k = C 3 k := fun k => by rw [e3, st_oth (by decide), e2, st_oth (by decide)]
  have z0 : C3 0 0 = C 0 0 - 1 := by rw [e3, st_same, e2, st_ne (by decide)]
  obtain ⟨w, hw⟩ : ∃ w : Nat, w = (m + 19) % 20 := ⟨_, rfl⟩
  rw [← hw] at n3 ⊢
  have hy : y4.toInt = ((76 * w : Nat) : Int) := by rw [e4, i_mulR (b := (76 : Int32)) 76 (by decide) (by omega) (by omega), n3]; omega
  refine Ep_bd (k_br_16 pa qa Tn C3 hy (by omega)) (fun q1 h1 => Ep_lt (fun r5 er5 => Ep_lt (fun T6 et6 => ?_)))
  unfold brQ at h1
  rw [← er5, ← et6] at h1
  obtain ⟨a1, a2, a3⟩ := h1
  refine Ep_bd (k_br_17 pa qa T6 C3 a1 (by omega)) (fun q2 h2 => Ep_lt (fun r9 er9 => Ep_lt (fun T10 et10 => ?_)))
  unfold brQ at h2
  rw [← er9, ← et10] at h2
  obtain ⟨b1, b2, b3⟩ := h2
  refine Ep_bd (k_br_18 pa qa T10 C3 b1 (by omega)) (fun q3 h3 => Ep_lt (fun r13 er13 => Ep_lt (fun T14 et14 => ?_)))
  unfold brQ at h3
  rw [← er13, ← et14] at h3
  obtain ⟨c1, c2, c3⟩ := h3
  refine Ep_bd (k_br_15 pa qa T14 C3 c1 (by omega)) (fun q4 h4 => Ep_lt (fun r17 er17 => Ep_lt (fun T18 et18 => ?_)))
  unfold brQ at h4
  rw [← er17, ← et18] at h4
  obtain ⟨d1, d2, d3⟩ := h4
  refine Ep_bd (k_br_10 pa qa T18 C3 d1 (by omega)) (fun q5 h5 => Ep_lt (fun r21 _ => Ep_lt (fun T22 et22 => Ep_some ?_)))
  unfold brQ at h5
  rw [← et22] at h5
  obtain ⟨_, f2, f3⟩ := h5
  refine ⟨fun j hj => ?_, fun j hj => ?_, fun j hj => ?_, fun j hj => ?_, fun j hj => ?_, fun a j ha => ?_, g3, n3, z0⟩
  · show T22 16 j = _
    rw [f3 16 j (by decide), d3 16 j (by decide), c3 16 j (by decide), b3 16 j (by decide), a2 j hj, g3]
  · show T22 17 j = _
    rw [f3 17 j (by decide), d3 17 j (by decide), c3 17 j (by decide), b2 j hj, g3]
  · show T22 18 j = _
    rw [f3 18 j (by decide), d3 18 j (by decide), c2 j hj, g3, show 76 * w + 50 + 5 + j = 76 * w + 55 + j by omega]
  · show T22 15 j = _
    rw [f3 15 j (by decide), d2 j hj, g3, show 76 * w + 50 + 5 + 5 + j = 76 * w + 60 + j by omega]
  · show T22 10 j = _
    rw [f2 j hj, g3, show 76 * w + 50 + 5 + 5 + 10 + j = 76 * w + 70 + j by omega]
  · show T22 a j = _
    rw [f3 a j (by omega), d3 a j (by omega), c3 a j (by omega), b3 a j (by omega), a3 a j (by omega)]
-- 62.zaz.43.z33
/-! rows that are kept, side by side -/
def rwR (P : Tr) (n12 n13 n14 : Int32) (c s : Nat → Int32) : Prop := (∀ p, p < 5 → c (50 + p) = s (50 + p) ∧ 0 ≤ (s (50 + p)).toInt ∧ (s (50 + p)).toInt ≤ 10 ∧ (0 < (s (50 + p)).toInt → (p : Int) < n12.toInt)) ∧ (∀ p, p < 5 → ∀ k : Nat, (k : Int) < (s (50 + p)).toInt → c (10 * p + k) = s (10 * p + k)) ∧ (∀ p, p < 5 → c (55 + p) = wsm (fun k => P 15 (c (10 * p + k)).toNatClampNeg) (c (50 + p)).toNatClampNeg) ∧ (∀ i : Nat, (i : Int) < n14.toInt → (c (60 + i) = -1 ∧ ∀ p, p < 5 → ∀ k : Nat, (k : Int) < (s (50 + p)).toInt → ¬ (s (10 * p + k)).toInt = i) ∨ ∃ p k : Nat, p < 5 ∧ (k : Int) < (s (50 + p)).toInt ∧ (s (10 * p + k)).toInt = i ∧ (c (60 + i)).toInt = p) ∧ ∀ p : Nat, (p : Int) < n13.toInt → c (70 + p) = s (55 + p)
theorem rwR_cg {P : Tr} {n12 n13 n14 : Int32} {c s c1 s1 : Nat → Int32} (h : rwR P n12 n13 n14 c s) (hc : ∀ k, k < 76 → c1 k = c k) (hs : ∀ k, k < 61 → s1 k = s k) (h13 : n13.toInt ≤ 6) (h14 : n14.toInt ≤ 10) : rwR P n12 n13 n14 c1 s1 := by
  obtain ⟨h1, h2, h3, h4, h5⟩ := h
  refine ⟨fun p hp => ?_, fun p hp k hk => ?_, fun p hp => ?_, fun i hi => ?_, fun p hp => ?_⟩
  · rw [hc _ (by omega), hs _ (by omega)]; exact h1 p hp
  · rw [hs (50 + p) (by omega)] at hk
    have := h1 p hp
    rw [hc _ (by omega), hs _ (by omega)]; exact h2 p hp k hk
  · have := h1 p hp
    rw [hc (55 + p) (by omega), hc (50 + p) (by omega), h3 p hp]
    refine wsm_cg (fun k hk => ?_)
    rw [this.1, i_cl] at hk
    show P 15 (c (10 * p + k)).toNatClampNeg = P 15 (c1 (10 * p + k)).toNatClampNeg
    rw [hc _ (by omega)]
  · rw [hc (60 + i) (by omega)]
    rcases h4 i hi with ⟨a1, a2⟩ | ⟨p, k, a1, a2, a3, a4⟩
    · refine Or.inl ⟨a1, fun p hp k hk => ?_⟩
      rw [hs (50 + p) (by omega)] at hk
      have := h1 p hp
      rw [hs _ (by omega)]; exact a2 p hp k hk
    · have := h1 p a1
      exact Or.inr ⟨p, k, a1, by rw [hs (50 + p) (by omega)]; exact a2, by rw [hs _ (by omega)]; exact a3, a4⟩
  · rw [hc _ (by omega), hs _ (by omega)]; exact h5 p hp
/-- the row of the train that is now -/
theorem rw_now {P T S : Tr} {L : Lo} (h : Nw P T S L) {c s : Nat → Int32} (c16 : ∀ j, j < 50 → c j = T 16 j) (c17 : ∀ j, j < 5 → c (50 + j) = T 17 j) (c18 : ∀ j, j < 5 → c (55 + j) = T 18 j) (c15 : ∀ j, j < 10 → c (60 + j) = T 15 j) (c10 : ∀ j, j < 6 → c (70 + j) = T 10 j) (s55 : ∀ j, j < 50 → s j = S 55 j) (s56 : ∀ j, j < 5 → s (50 + j) = S 56 j) (s58 : ∀ j, j < 6 → s (55 + j) = S 58 j) : rwR P (S 0 12) (S 0 13) (S 0 14) c s := by
  obtain ⟨⟨hS, hpI, hg⟩, hK, hd, hv, n9, n13, nr, nl, na⟩ := h
  have h13 : 0 ≤ (S 0 13).toInt ∧ (S 0 13).toInt ≤ 6 := hS 0 13
  have h14 : 0 ≤ (S 0 14).toInt ∧ (S 0 14).toInt ≤ 10 := hS 0 14
  obtain ⟨_, _, _, d4, d5⟩ := hd
  have b56 : ∀ p, p < 5 → 0 ≤ (S 56 p).toInt ∧ (S 56 p).toInt ≤ 10 := fun p _ => BM56 hS p
  refine ⟨fun p hp => ?_, fun p hp k hk => ?_, fun p hp => ?_, fun i hi => ?_, fun p hp => ?_⟩
  · have x := (d5 p hp).1
    rw [show 5 * 0 + p = p by omega] at x
    rw [c17 p hp, s56 p hp, x]
    refine ⟨rfl, (b56 p hp).1, (b56 p hp).2, fun g => ?_⟩
    obtain ⟨i, i1, i2, i3, i4⟩ := sk_at (k := 0) hS hg.1 hp (by rw [show 5 * 0 + p = p by omega]; omega)
    have := (hv.1 i i3).2.2
    omega
  · rw [s56 p hp] at hk
    have := b56 p hp
    have x := (d5 p hp).2.1 k (by rw [show 5 * 0 + p = p by omega]; exact hk)
    rw [show 50 * 0 + 10 * p + k = 10 * p + k by omega] at x
    rw [c16 _ (by omega), s55 _ (by omega)]; exact x
  · have x := (d5 p hp).2.2
    have y := (d5 p hp).1
    rw [show 5 * 0 + p = p by omega] at y
    have := b56 p hp
    rw [c18 p hp, c17 p hp, x]
    refine wsm_cg (fun k hk => ?_)
    rw [y, i_cl] at hk
    unfold wgt
    rw [c16 _ (by omega)]
  · have x := (d4 i hi).2
    rw [c15 i (by omega), x]
    have b54 : -1 ≤ (S 54 (10 * 0 + i)).toInt ∧ (S 54 (10 * 0 + i)).toInt ≤ 4 := hS 54 _
    by_cases c0 : 0 ≤ (S 54 (10 * 0 + i)).toInt
    · obtain ⟨p, pos, w1, w2, w3, w4, _, _⟩ := wh hS hg.1 (by omega) c0
      rw [show 5 * 0 + p = p by omega] at w3
      rw [show 50 * 0 + 10 * p + pos = 10 * p + pos by omega] at w4
      have := b56 p w1
      exact Or.inr ⟨p, pos, w1, by rw [s56 p w1]; exact w3, by rw [s55 _ (by omega)]; exact w4, w2⟩
    · refine Or.inl ⟨Int32.toInt_inj.mp (by rw [show (-1 : Int32).toInt = -1 by decide]; omega), fun p hp k hk e => ?_⟩
      rw [s56 p hp] at hk
      have := b56 p hp
      rw [s55 _ (by omega)] at e
      obtain ⟨t, t1, t2, t3, t4⟩ := sk_at (k := k) hS hg.1 hp (by rw [show 5 * 0 + p = p by omega]; exact hk)
      rw [show 50 * 0 + 10 * p + k = 10 * p + k by omega, e] at t2
      have : t = i := by omega
      subst this
      omega
  · rw [c10 p (by omega), s58 p (by omega)]; exact (n9 p hp).2
/-- the rows of changes of both -/
def uR (P C S : Tr) : Prop := C 0 0 = S 0 82 ∧ ∃ m n : Nat, m < 20 ∧ n ≤ 20 ∧ (C 0 1).toInt = m ∧ (S 0 82).toInt = n ∧ ∀ r, r < n → rwR P (S 0 12) (S 0 13) (S 0 14) (fun k => C 3 (76 * ((m + 20 - n + r) % 20) + k)) (fun k => S 84 (61 * r + k))
theorem uR_rem {P T C S C1 S1 : Tr} {L : Lo} {m n : Nat} (h : uR P C S) (hN : Nw P T S L) (hm : (C 0 1).toInt = m) (hn : (S 0 82).toInt = n) (hc : svQ T C C1 m) (hs : remQ S S1 n) : uR P C1 S1 := by
  have h13 : 0 ≤ (S 0 13).toInt ∧ (S 0 13).toInt ≤ 6 := hN.1.1 0 13
  have h14 : 0 ≤ (S 0 14).toInt ∧ (S 0 14).toInt ≤ 10 := hN.1.1 0 14
  obtain ⟨h0, m', n', m20, n20, hm', hn', hr⟩ := h
  have e1 : m' = m := by omega
  have e2 : n' = n := by omega
  subst e1 e2
  obtain ⟨c1, c2, c3, c4, c5, c6, c7, c8⟩ := hc
  obtain ⟨s1, s2, s3⟩ := hs
  have f12 : S1 0 12 = S 0 12 := s3 0 12 (by omega) (by omega)
  have f13 : S1 0 13 = S 0 13 := s3 0 13 (by omega) (by omega)
  have f14 : S1 0 14 = S 0 14 := s3 0 14 (by omega) (by omega)
  have new : ∀ u, newR S S1 u → rwR P (S 0 12) (S 0 13) (S 0 14) (fun k => C1 3 (76 * m' + k)) (fun k => S1 84 (61 * u + k)) := fun u hu => by
    obtain ⟨u1, u2, u3⟩ := hu
    refine rw_now hN (fun j hj => c1 j hj) (fun j hj => ?_) (fun j hj => ?_) (fun j hj => ?_) (fun j hj => ?_) (fun j hj => u1 j hj) (fun j hj => ?_) (fun j hj => ?_)
    · show C1 3 (76 * m' + (50 + j)) = _
      rw [show 76 * m' + (50 + j) = 76 * m' + 50 + j by omega]; exact c2 j hj
    · show C1 3 (76 * m' + (55 + j)) = _
      rw [show 76 * m' + (55 + j) = 76 * m' + 55 + j by omega]; exact c3 j hj
    · show C1 3 (76 * m' + (60 + j)) = _
      rw [show 76 * m' + (60 + j) = 76 * m' + 60 + j by omega]; exact c4 j hj
    · show C1 3 (76 * m' + (70 + j)) = _
      rw [show 76 * m' + (70 + j) = 76 * m' + 70 + j by omega]; exact c5 j hj
    · show S1 84 (61 * u + (50 + j)) = _
      rw [show 61 * u + (50 + j) = 61 * u + 50 + j by omega]; exact u2 j hj
    · show S1 84 (61 * u + (55 + j)) = _
      rw [show 61 * u + (55 + j) = 61 * u + 55 + j by omega]; exact u3 j hj
  unfold uR
  rw [f12, f13, f14]
  rcases (by omega : n' < 20 ∨ n' = 20) with g | g
  · obtain ⟨a1, a2, a3⟩ := s1 g
    have ne20 : ¬ C 0 0 = 20 := fun q => by
      rw [h0] at q
      rw [q, show (20 : Int32).toInt = 20 by decide] at hn
      omega
    rw [if_neg ne20] at c8
    have v0 : (C1 0 0).toInt = (n' : Int) + 1 := by
      rw [c8]; exact i_addK (by rw [h0]; exact hn) (by decide) (by omega) (by omega)
    refine ⟨Int32.toInt_inj.mp (by rw [v0, a2]), (m' + 1) % 20, n' + 1, by omega, by omega, c7, by omega, fun r hr1 => ?_⟩
    rcases (by omega : r < n' ∨ r = n') with q | q
    · refine rwR_cg (hr r q) (fun k hk => ?_) (fun k hk => ?_) h13.2 h14.2
      · show C1 3 (76 * (((m' + 1) % 20 + 20 - (n' + 1) + r) % 20) + k) = C 3 (76 * ((m' + 20 - n' + r) % 20) + k)
        obtain ⟨w, hw⟩ : ∃ w, w = (m' + 20 - n' + r) % 20 := ⟨_, rfl⟩
        rw [← hw, show ((m' + 1) % 20 + 20 - (n' + 1) + r) % 20 = w by omega]
        have : w ≠ m' := by omega
        exact c6 _ (by omega)
      · exact a3 _ (by omega)
    · subst q
      rw [show ((m' + 1) % 20 + 20 - (r + 1) + r) % 20 = m' by omega]
      exact new r a1
  · obtain ⟨a1, a2, a3⟩ := s2 g
    have e20 : C 0 0 = 20 := by
      rw [h0]; exact Int32.toInt_inj.mp (by rw [hn, g]; decide)
    rw [if_pos e20] at c8
    refine ⟨Int32.toInt_inj.mp (by rw [c8, a2]; decide), (m' + 1) % 20, 20, by omega, by omega, c7, by omega, fun r hr1 => ?_⟩
    rcases (by omega : r < 19 ∨ r = 19) with q | q
    · refine rwR_cg (hr (r + 1) (by omega)) (fun k hk => ?_) (fun k hk => ?_) h13.2 h14.2
      · show C1 3 (76 * (((m' + 1) % 20 + 20 - 20 + r) % 20) + k) = C 3 (76 * ((m' + 20 - n' + (r + 1)) % 20) + k)
        obtain ⟨w, hw⟩ : ∃ w, w = (m' + 20 - n' + (r + 1)) % 20 := ⟨_, rfl⟩
        rw [← hw, show ((m' + 1) % 20 + 20 - 20 + r) % 20 = w by omega]
        have : w ≠ m' := by omega
        exact c6 _ (by omega)
      · show S1 84 (61 * r + k) = S 84 (61 * (r + 1) + k)
        rw [a3 _ (by omega), show 61 * r + k + 61 = 61 * (r + 1) + k by omega]
    · subst q
      rw [show ((m' + 1) % 20 + 20 - 20 + 19) % 20 = m' by omega]
      exact new 19 a1
/-- the rows stay -/
theorem uR_o {P C S S1 : Tr} (h : uR P C S) (e82 : S1 0 82 = S 0 82) (e : ∀ j, 12 ≤ j → j ≤ 14 → S1 0 j = S 0 j) (e84 : ∀ j, S1 84 j = S 84 j) : uR P C S1 := by
  obtain ⟨h0, m, n, m20, n20, hm, hn, hr⟩ := h
  refine ⟨by rw [e82]; exact h0, m, n, m20, n20, hm, by rw [e82]; exact hn, fun r q => ?_⟩
  have x := hr r q
  rw [e 12 (by omega) (by omega), e 13 (by omega) (by omega), e 14 (by omega) (by omega), show (fun k => S1 84 (61 * r + k)) = (fun k => S 84 (61 * r + k)) from funext fun k => e84 _]
  exact x
-- 62.zaz.44.z34
/-! taken back by the reference: its rows -/
def tkRw (A : Nat) (S q : Tr) (o : Nat) : Prop := (∀ j, j < 50 → q 55 j = S A (o + j)) ∧ (∀ j, j < 5 → q 56 j = S A (o + 50 + j)) ∧ ∀ j, j < 6 → q 58 j = S A (o + 55 + j)
theorem k_tk84 {S : Tr} {x : Int32} {o : Nat} (hx : x.toInt = o) (ho : o ≤ 10000) : Ep (f_X8_take_84 S x) (fun q => tkRw 84 S q o) := by
  have x50 : (x + 50).toInt = ((o + 50 : Nat) : Int) := by rw [i_addK hx (y := 50) (by decide) (by omega) (by omega)]; omega
  have x55 : (x + 55).toInt = ((o + 55 : Nat) : Int) := by rw [i_addK hx (y := 55) (by decide) (by omega) (by omega)]; omega
  have l103 : ∀ (N : Nat) (y : Int32) (S1 : Tr), tkRw 84 S S1 o → Ep (lpF (fun _ _ => none) (fB_X8_take_84_L103) N y S1) (fun q => tkRw 84 S q o) := by
    intro N
    induction N with
    | zero => intro y S1 _; exact Ep_none
    | succ N ih =>
      intro y S1 h
      show Ep (fB_X8_take_84_L103 (lpF (fun _ _ => none) (fB_X8_take_84_L103) N) y S1) _
      generalize lpF (fun _ _ => none) (fB_X8_take_84_L103) N = k at ih ⊢
      unfold fB_X8_take_84_L103
      refine Ep_ite (fun _ => Ep_some h) (fun _ => Ep_ck (Ep_ite (fun _ => Ep_lt (fun y2 _ => ih y2 S1 h)) (fun _ => Ep_ck (Ep_ck (Ep_lt (fun S2 e2 => Ep_lt (fun y2 _ => ih y2 S2 ?_)))))))
      exact ⟨fun j hj => by rw [e2, st_oth (by omega)]; exact h.1 j hj, fun j hj => by rw [e2, st_oth (by omega)]; exact h.2.1 j hj, fun j hj => by rw [e2, st_oth (by omega)]; exact h.2.2 j hj⟩
  have l82 : ∀ (N : Nat) (y : Int32) (S1 : Tr), tkRw 84 S S1 o → Ep (lpF (fun _ _ => none) (fB_X8_take_84_L82) N y S1) (fun q => tkRw 84 S q o) := by
    intro N
    induction N with
    | zero => intro y S1 _; exact Ep_none
    | succ N ih =>
      intro y S1 h
      show Ep (fB_X8_take_84_L82 (lpF (fun _ _ => none) (fB_X8_take_84_L82) N) y S1) _
      generalize lpF (fun _ _ => none) (fB_X8_take_84_L82) N = k at ih ⊢
      unfold fB_X8_take_84_L82
      refine Ep_ite (fun _ => ?_) (fun _ => Ep_ck (Ep_lt (fun S2 e2 => Ep_lt (fun y2 _ => ih y2 S2 ?_))))
      · unfold fL_X8_take_84_L103
        exact l103 2000 0 S1 h
      · exact ⟨fun j hj => by rw [e2, st_oth (by omega)]; exact h.1 j hj, fun j hj => by rw [e2, st_oth (by omega)]; exact h.2.1 j hj, fun j hj => by rw [e2, st_oth (by omega)]; exact h.2.2 j hj⟩
  have l54 : ∀ (N n : Nat) (y : Int32) (S1 : Tr), y.toInt = n → n ≤ 6 → (∀ j, S1 84 j = S 84 j) → (∀ j, j < 50 → S1 55 j = S 84 (o + j)) → (∀ j, j < 5 → S1 56 j = S 84 (o + 50 + j)) → (∀ j, j < n → S1 58 j = S 84 (o + 55 + j)) → Ep (lpF (fun _ _ => none) (fB_X8_take_84_L54 x) N y S1) (fun q => tkRw 84 S q o) := by
    intro N
    induction N with
    | zero => intro n y S1 _ _ _ _ _ _; exact Ep_none
    | succ N ih =>
      intro n y S1 hy hn hA h1 h2 h3
      show Ep (fB_X8_take_84_L54 x (lpF (fun _ _ => none) (fB_X8_take_84_L54 x) N) y S1) _
      generalize lpF (fun _ _ => none) (fB_X8_take_84_L54 x) N = k at ih ⊢
      unfold fB_X8_take_84_L54
      refine Ep_ite (fun c => ?_) (fun c => Ep_ck (Ep_ck (Ep_lt (fun S2 e2 => Ep_lt (fun y2 ey => ?_)))))
      · have := tq_le (a := 6) (by decide) hy c
        unfold fL_X8_take_84_L82
        exact l82 2000 0 S1 ⟨h1, h2, fun j hj => h3 j (by omega)⟩
      · have := tq_len (b := n) (a := 6) (by decide) hy c
        rw [i_cn hy, jh x55 hy (by omega), hA] at e2
        refine ih (n + 1) y2 S2 (by rw [ey]; exact i_p1 hy (by omega)) (by omega) (fun j => by rw [e2, st_oth (by omega)]; exact hA j) (fun j hj => by rw [e2, st_oth (by omega)]; exact h1 j hj) (fun j hj => by rw [e2, st_oth (by omega)]; exact h2 j hj) (fun j hj => ?_)
        rcases (by omega : j < n ∨ j = n) with g | rfl
        · rw [e2, st_ne (by omega)]; exact h3 j g
        · rw [e2, st_same]
  have l27 : ∀ (N n : Nat) (y : Int32) (S1 : Tr), y.toInt = n → n ≤ 5 → (∀ j, S1 84 j = S 84 j) → (∀ j, j < 50 → S1 55 j = S 84 (o + j)) → (∀ j, j < n → S1 56 j = S 84 (o + 50 + j)) → Ep (lpF (fun _ _ => none) (fB_X8_take_84_L27 x) N y S1) (fun q => tkRw 84 S q o) := by
    intro N
    induction N with
    | zero => intro n y S1 _ _ _ _ _; exact Ep_none
    | succ N ih =>
      intro n y S1 hy hn hA h1 h2
      show Ep (fB_X8_take_84_L27 x (lpF (fun _ _ => none) (fB_X8_take_84_L27 x) N) y S1) _
      generalize lpF (fun _ _ => none) (fB_X8_take_84_L27 x) N = k at ih ⊢
      unfold fB_X8_take_84_L27
      refine Ep_ite (fun c => ?_) (fun c => Ep_ck (Ep_ck (Ep_lt (fun S2 e2 => Ep_lt (fun y2 ey => ?_)))))
      · have := tq_le (a := 5) (by decide) hy c
        unfold fL_X8_take_84_L54
        exact l54 2000 0 0 S1 (by decide) (by omega) hA h1 (fun j hj => h2 j (by omega)) (fun j hj => absurd hj (by omega))
      · have := tq_len (b := n) (a := 5) (by decide) hy c
        rw [i_cn hy, jh x50 hy (by omega), hA] at e2
        refine ih (n + 1) y2 S2 (by rw [ey]; exact i_p1 hy (by omega)) (by omega) (fun j => by rw [e2, st_oth (by omega)]; exact hA j) (fun j hj => by rw [e2, st_oth (by omega)]; exact h1 j hj) (fun j hj => ?_)
        rcases (by omega : j < n ∨ j = n) with g | rfl
        · rw [e2, st_ne (by omega)]; exact h2 j g
        · rw [e2, st_same]
  have l2 : ∀ (N n : Nat) (y : Int32) (S1 : Tr), y.toInt = n → n ≤ 50 → (∀ j, S1 84 j = S 84 j) → (∀ j, j < n → S1 55 j = S 84 (o + j)) → Ep (lpF (fun _ _ => none) (fB_X8_take_84_L2 x) N y S1) (fun q => tkRw 84 S q o) := by
    intro N
    induction N with
    | zero => intro n y S1 _ _ _ _; exact Ep_none
    | succ N ih =>
      intro n y S1 hy hn hA h1
      show Ep (fB_X8_take_84_L2 x (lpF (fun _ _ => none) (fB_X8_take_84_L2 x) N) y S1) _
      generalize lpF (fun _ _ => none) (fB_X8_take_84_L2 x) N = k at ih ⊢
      unfold fB_X8_take_84_L2
      refine Ep_ite (fun c => ?_) (fun c => Ep_ck (Ep_ck (Ep_lt (fun S2 e2 => Ep_lt (fun y2 ey => ?_)))))
      · have := tq_le (a := 50) (by decide) hy c
        unfold fL_X8_take_84_L27
        exact l27 2000 0 0 S1 (by decide) (by omega) hA (fun j hj => h1 j (by omega)) (fun j hj => absurd hj (by omega))
      · have := tq_len (b := n) (a := 50) (by decide) hy c
        rw [i_cn hy, jh hx hy (by omega), hA] at e2
        refine ih (n + 1) y2 S2 (by rw [ey]; exact i_p1 hy (by omega)) (by omega) (fun j => by rw [e2, st_oth (by omega)]; exact hA j) (fun j hj => ?_)
        rcases (by omega : j < n ∨ j = n) with g | rfl
        · rw [e2, st_ne (by omega)]; exact h1 j g
        · rw [e2, st_same]
  unfold f_X8_take_84 fL_X8_take_84_L2
  exact l2 2000 0 0 S (by decide) (by omega) (fun _ => rfl) (fun j hj => absurd hj (by omega))
theorem k_tk86 {S : Tr} {x : Int32} {o : Nat} (hx : x.toInt = o) (ho : o ≤ 10000) : Ep (f_X8_take_86 S x) (fun q => tkRw 86 S q o) := by
  have x50 : (x + 50).toInt = ((o + 50 : Nat) : Int) := by rw [i_addK hx (y := 50) (by decide) (by omega) (by omega)]; omega
  have x55 : (x + 55).toInt = ((o + 55 : Nat) : Int) := by rw [i_addK hx (y := 55) (by decide) (by omega) (by omega)]; omega
  have l103 : ∀ (N : Nat) (y : Int32) (S1 : Tr), tkRw 86 S S1 o → Ep (lpF (fun _ _ => none) (fB_X8_take_86_L103) N y S1) (fun q => tkRw 86 S q o) := by
    intro N
    induction N with
    | zero => intro y S1 _; exact Ep_none
    | succ N ih =>
      intro y S1 h
      show Ep (fB_X8_take_86_L103 (lpF (fun _ _ => none) (fB_X8_take_86_L103) N) y S1) _
      generalize lpF (fun _ _ => none) (fB_X8_take_86_L103) N = k at ih ⊢
      unfold fB_X8_take_86_L103
      refine Ep_ite (fun _ => Ep_some h) (fun _ => Ep_ck (Ep_ite (fun _ => Ep_lt (fun y2 _ => ih y2 S1 h)) (fun _ => Ep_ck (Ep_ck (Ep_lt (fun S2 e2 => Ep_lt (fun y2 _ => ih y2 S2 ?_)))))))
      exact ⟨fun j hj => by rw [e2, st_oth (by omega)]; exact h.1 j hj, fun j hj => by rw [e2, st_oth (by omega)]; exact h.2.1 j hj, fun j hj => by rw [e2, st_oth (by omega)]; exact h.2.2 j hj⟩
  have l82 : ∀ (N : Nat) (y : Int32) (S1 : Tr), tkRw 86 S S1 o → Ep (lpF (fun _ _ => none) (fB_X8_take_86_L82) N y S1) (fun q => tkRw 86 S q o) := by
    intro N
    induction N with
    | zero => intro y S1 _; exact Ep_none
    | succ N ih =>
      intro y S1 h
      show Ep (fB_X8_take_86_L82 (lpF (fun _ _ => none) (fB_X8_take_86_L82) N) y S1) _
      generalize lpF (fun _ _ => none) (fB_X8_take_86_L82) N = k at ih ⊢
      unfold fB_X8_take_86_L82
      refine Ep_ite (fun _ => ?_) (fun _ => Ep_ck (Ep_lt (fun S2 e2 => Ep_lt (fun y2 _ => ih y2 S2 ?_))))
      · unfold fL_X8_take_86_L103
        exact l103 2000 0 S1 h
      · exact ⟨fun j hj => by rw [e2, st_oth (by omega)]; exact h.1 j hj, fun j hj => by rw [e2, st_oth (by omega)]; exact h.2.1 j hj, fun j hj => by rw [e2, st_oth (by omega)]; exact h.2.2 j hj⟩
  have l54 : ∀ (N n : Nat) (y : Int32) (S1 : Tr), y.toInt = n → n ≤ 6 → (∀ j, S1 86 j = S 86 j) → (∀ j, j < 50 → S1 55 j = S 86 (o + j)) → (∀ j, j < 5 → S1 56 j = S 86 (o + 50 + j)) → (∀ j, j < n → S1 58 j = S 86 (o + 55 + j)) → Ep (lpF (fun _ _ => none) (fB_X8_take_86_L54 x) N y S1) (fun q => tkRw 86 S q o) := by
    intro N
    induction N with
    | zero => intro n y S1 _ _ _ _ _ _; exact Ep_none
    | succ N ih =>
      intro n y S1 hy hn hA h1 h2 h3
      show Ep (fB_X8_take_86_L54 x (lpF (fun _ _ => none) (fB_X8_take_86_L54 x) N) y S1) _
      generalize lpF (fun _ _ => none) (fB_X8_take_86_L54 x) N = k at ih ⊢
      unfold fB_X8_take_86_L54
      refine Ep_ite (fun c => ?_) (fun c => Ep_ck (Ep_ck (Ep_lt (fun S2 e2 => Ep_lt (fun y2 ey => ?_)))))
      · have := tq_le (a := 6) (by decide) hy c
        unfold fL_X8_take_86_L82
        exact l82 2000 0 S1 ⟨h1, h2, fun j hj => h3 j (by omega)⟩
      · have := tq_len (b := n) (a := 6) (by decide) hy c
        rw [i_cn hy, jh x55 hy (by omega), hA] at e2
        refine ih (n + 1) y2 S2 (by rw [ey]; exact i_p1 hy (by omega)) (by omega) (fun j => by rw [e2, st_oth (by omega)]; exact hA j) (fun j hj => by rw [e2, st_oth (by omega)]; exact h1 j hj) (fun j hj => by rw [e2, st_oth (by omega)]; exact h2 j hj) (fun j hj => ?_)
        rcases (by omega : j < n ∨ j = n) with g | rfl
        · rw [e2, st_ne (by omega)]; exact h3 j g
        · rw [e2, st_same]
  have l27 : ∀ (N n : Nat) (y : Int32) (S1 : Tr), y.toInt = n → n ≤ 5 → (∀ j, S1 86 j = S 86 j) → (∀ j, j < 50 → S1 55 j = S 86 (o + j)) → (∀ j, j < n → S1 56 j = S 86 (o + 50 + j)) → Ep (lpF (fun _ _ => none) (fB_X8_take_86_L27 x) N y S1) (fun q => tkRw 86 S q o) := by
    intro N
    induction N with
    | zero => intro n y S1 _ _ _ _ _; exact Ep_none
    | succ N ih =>
      intro n y S1 hy hn hA h1 h2
      show Ep (fB_X8_take_86_L27 x (lpF (fun _ _ => none) (fB_X8_take_86_L27 x) N) y S1) _
      generalize lpF (fun _ _ => none) (fB_X8_take_86_L27 x) N = k at ih ⊢
      unfold fB_X8_take_86_L27
      refine Ep_ite (fun c => ?_) (fun c => Ep_ck (Ep_ck (Ep_lt (fun S2 e2 => Ep_lt (fun y2 ey => ?_)))))
      · have := tq_le (a := 5) (by decide) hy c
        unfold fL_X8_take_86_L54
        exact l54 2000 0 0 S1 (by decide) (by omega) hA h1 (fun j hj => h2 j (by omega)) (fun j hj => absurd hj (by omega))
      · have := tq_len (b := n) (a := 5) (by decide) hy c
        rw [i_cn hy, jh x50 hy (by omega), hA] at e2
        refine ih (n + 1) y2 S2 (by rw [ey]; exact i_p1 hy (by omega)) (by omega) (fun j => by rw [e2, st_oth (by omega)]; exact hA j) (fun j hj => by rw [e2, st_oth (by omega)]; exact h1 j hj) (fun j hj => ?_)
        rcases (by omega : j < n ∨ j = n) with g | rfl
        · rw [e2, st_ne (by omega)]; exact h2 j g
        · rw [e2, st_same]
  have l2 : ∀ (N n : Nat) (y : Int32) (S1 : Tr), y.toInt = n → n ≤ 50 → (∀ j, S1 86 j = S 86 j) → (∀ j, j < n → S1 55 j = S 86 (o + j)) → Ep (lpF (fun _ _ => none) (fB_X8_take_86_L2 x) N y S1) (fun q => tkRw 86 S q o) := by
    intro N
    induction N with
    | zero => intro n y S1 _ _ _ _; exact Ep_none
    | succ N ih =>
      intro n y S1 hy hn hA h1
      show Ep (fB_X8_take_86_L2 x (lpF (fun _ _ => none) (fB_X8_take_86_L2 x) N) y S1) _
      generalize lpF (fun _ _ => none) (fB_X8_take_86_L2 x) N = k at ih ⊢
      unfold fB_X8_take_86_L2
      refine Ep_ite (fun c => ?_) (fun c => Ep_ck (Ep_ck (Ep_lt (fun S2 e2 => Ep_lt (fun y2 ey => ?_)))))
      · have := tq_le (a := 50) (by decide) hy c
        unfold fL_X8_take_86_L27
        exact l27 2000 0 0 S1 (by decide) (by omega) hA (fun j hj => h1 j (by omega)) (fun j hj => absurd hj (by omega))
      · have := tq_len (b := n) (a := 50) (by decide) hy c
        rw [i_cn hy, jh hx hy (by omega), hA] at e2
        refine ih (n + 1) y2 S2 (by rw [ey]; exact i_p1 hy (by omega)) (by omega) (fun j => by rw [e2, st_oth (by omega)]; exact hA j) (fun j hj => ?_)
        rcases (by omega : j < n ∨ j = n) with g | rfl
        · rw [e2, st_ne (by omega)]; exact h1 j g
        · rw [e2, st_same]
  unfold f_X8_take_86 fL_X8_take_86_L2
  exact l2 2000 0 0 S (by decide) (by omega) (fun _ => rfl) (fun j hj => absurd hj (by omega))
/-- a row brought back on both sides -/
theorem rw_back {P T1 q : Tr} {n12 n13 n14 : Int32} {c s : Nat → Int32} (h : rwR P n12 n13 n14 c s) (hS : iR BM q) (hg : gS 0 q) (e14 : q 0 14 = n14) (h12 : 0 ≤ n12.toInt) (h13 : n13.toInt ≤ 6) (h14 : n14.toInt ≤ 10) (t16 : ∀ j, j < 50 → T1 16 j = c j) (t17 : ∀ j, j < 5 → T1 17 j = c (50 + j)) (t18 : ∀ j, j < 5 → T1 18 j = c (55 + j)) (t15 : ∀ j, j < 10 → T1 15 j = c (60 + j)) (t10 : ∀ j, j < 6 → T1 10 j = c (70 + j)) (s55 : ∀ j, j < 50 → q 55 j = s j) (s56 : ∀ j, j < 5 → q 56 j = s (50 + j)) (s58 : ∀ j, j < 6 → q 58 j = s (55 + j)) : stk 0 P T1 q ∧ (∀ i : Nat, (i : Int) < n14.toInt → T1 15 i = q 54 i ∧ (q 54 i).toInt < n12.toInt) ∧ ∀ p : Nat, (p : Int) < n13.toInt → T1 10 p = q 58 p := by
  obtain ⟨h1, h2, h3, h4, h5⟩ := h
  refine ⟨fun p hp => ⟨?_, fun k hk => ?_, ?_⟩, fun i hi => ?_, fun p hp => ?_⟩
  · rw [show 5 * 0 + p = p by omega, t17 p hp, s56 p hp]; exact (h1 p hp).1
  · rw [show 5 * 0 + p = p by omega, s56 p hp] at hk
    have := h1 p hp
    rw [show 50 * 0 + 10 * p + k = 10 * p + k by omega, t16 _ (by omega), s55 _ (by omega)]
    exact h2 p hp k hk
  · have := h1 p hp
    rw [t18 p hp, h3 p hp, t17 p hp]
    refine wsm_cg (fun k hk => ?_)
    rw [this.1, i_cl] at hk
    unfold wgt
    rw [t16 _ (by omega)]
  · have b54 : -1 ≤ (q 54 i).toInt ∧ (q 54 i).toInt ≤ 4 := hS 54 i
    have lt12 : 0 ≤ (q 54 i).toInt → (q 54 i).toInt < n12.toInt := fun c0 => by
      obtain ⟨p, pos, w1, w2, w3, w4, _, _⟩ := wh (b := 0) (i := i) hS hg (by omega) (by rw [show 10 * 0 + i = i by omega]; exact c0)
      rw [show 10 * 0 + i = i by omega] at w2
      rw [show 5 * 0 + p = p by omega, s56 p w1] at w3
      have := (h1 p w1).2.2.2 (by omega)
      omega
    rw [t15 i (by omega)]
    rcases h4 i hi with ⟨a1, a2⟩ | ⟨p, k, a1, a2, a3, a4⟩
    · have neg : ¬ 0 ≤ (q 54 i).toInt := fun c0 => by
        obtain ⟨p, pos, w1, w2, w3, w4, _, w6⟩ := wh (b := 0) (i := i) hS hg (by omega) (by rw [show 10 * 0 + i = i by omega]; exact c0)
        rw [show 5 * 0 + p = p by omega, s56 p w1] at w3
        rw [show 50 * 0 + 10 * p + pos = 10 * p + pos by omega, s55 _ (by omega)] at w4
        exact a2 p w1 pos w3 w4
      have e : q 54 i = -1 := Int32.toInt_inj.mp (by rw [show (-1 : Int32).toInt = -1 by decide]; omega)
      refine ⟨a1.trans e.symm, ?_⟩
      rw [e, show (-1 : Int32).toInt = -1 by decide]
      omega
    · have b := h1 p a1
      obtain ⟨t, t1, t2, t3, t4⟩ := sk_at (b := 0) (p := p) (k := k) hS hg a1 (by rw [show 5 * 0 + p = p by omega, s56 p a1]; exact a2)
      rw [show 50 * 0 + 10 * p + k = 10 * p + k by omega, s55 _ (by omega), a3] at t2
      have ti : t = i := by omega
      subst ti
      rw [show 10 * 0 + t = t by omega] at t4
      have e : c (60 + t) = q 54 t := Int32.toInt_inj.mp (by rw [a4, t4])
      exact ⟨e, lt12 (by omega)⟩
  · rw [t10 p (by omega), s58 p (by omega)]; exact h5 p hp
/-- moved, turned, brought back: what else holds of the train that is now -/
theorem Nw_mv {P T S T1 S1 : Tr} {L : Lo} (h : Nw P T S L) (hI : rI 0 S1) (fT : ∀ a j, ¬ (a = 10 ∨ (15 ≤ a ∧ a ≤ 18)) → T1 a j = T a j) (fS : ∀ a j, a ≠ 54 → a ≠ 55 → a ≠ 56 → a ≠ 58 → a ≠ 74 → a ≠ 84 → ¬ (a = 0 ∧ (j = 2 ∨ j = 82)) → S1 a j = S a j) (h10 : ∀ p : Nat, (p : Int) < (S 0 13).toInt → T1 10 p = S1 58 p) (h15 : ∀ i : Nat, (i : Int) < (S 0 14).toInt → T1 15 i = S1 54 i ∧ (S1 54 i).toInt < (S 0 12).toInt) (hst : stk 0 P T1 S1) : Nw P T1 S1 L := by
  obtain ⟨hS, hK, ⟨d1, d2, d3, d4, d5⟩, hv, n9, n13, nr, nl, na⟩ := h
  have f0 : ∀ j, ¬ (j = 2 ∨ j = 82) → S1 0 j = S 0 j := fun j n => fS 0 j (by omega) (by omega) (by omega) (by omega) (by omega) (by omega) (by omega)
  have f : ∀ a j, a ≠ 0 → a ≠ 54 → a ≠ 55 → a ≠ 56 → a ≠ 58 → a ≠ 74 → a ≠ 84 → S1 a j = S a j := fun a j n0 n1 n2 n3 n4 n5 n6 => fS a j n1 n2 n3 n4 n5 n6 (by omega)
  refine ⟨hI, pK_o hK (fun j h1 h2 => f0 j (by omega)) (fun a j h1 h2 => f a j (by omega) (by omega) (by omega) (by omega) (by omega) (by omega) (by omega)), ⟨?_, ?_, fun p hp => ?_, fun i hi => ?_, hst⟩, ⟨fun i hi => ?_, fun p hp => ?_⟩, fun p hp => ?_, fun i hi => ?_, ?_, ⟨?_, ?_, ?_⟩, fun p hp hq => ?_⟩
  · rw [fT 0 0 (by omega), f 62 0 (by omega) (by omega) (by omega) (by omega) (by omega) (by omega) (by omega)]; exact d1
  · rw [fT 0 1 (by omega), f 61 0 (by omega) (by omega) (by omega) (by omega) (by omega) (by omega) (by omega)]; exact d2
  · rw [f0 13 (by omega)] at hp
    rw [fT 11 p (by omega), fT 12 p (by omega), f 59 _ (by omega) (by omega) (by omega) (by omega) (by omega) (by omega) (by omega), f 60 _ (by omega) (by omega) (by omega) (by omega) (by omega) (by omega) (by omega)]; exact d3 p hp
  · rw [f0 14 (by omega)] at hi
    rw [show 10 * 0 + i = i by omega, fT 14 i (by omega), f 53 i (by omega) (by omega) (by omega) (by omega) (by omega) (by omega) (by omega)]
    have x := d4 i hi
    rw [show 10 * 0 + i = i by omega] at x
    exact ⟨x.1, (h15 i hi).1⟩
  · rw [f0 14 (by omega)] at hi
    have x := hv.1 i hi
    rw [show 10 * 0 + i = i by omega] at x ⊢
    rw [f 53 i (by omega) (by omega) (by omega) (by omega) (by omega) (by omega) (by omega), f 30 i (by omega) (by omega) (by omega) (by omega) (by omega) (by omega) (by omega), f 59 _ (by omega) (by omega) (by omega) (by omega) (by omega) (by omega) (by omega), f0 12 (by omega)]
    exact ⟨x.1, x.2.1, (h15 i hi).2⟩
  · rw [f0 13 (by omega)] at hp
    rw [f 59 _ (by omega) (by omega) (by omega) (by omega) (by omega) (by omega) (by omega), f 57 _ (by omega) (by omega) (by omega) (by omega) (by omega) (by omega) (by omega)]; exact hv.2 p hp
  · rw [f0 13 (by omega)] at hp
    rw [fT 9 p (by omega), f 57 p (by omega) (by omega) (by omega) (by omega) (by omega) (by omega) (by omega)]; exact ⟨(n9 p hp).1, h10 p hp⟩
  · rw [f0 14 (by omega)] at hi
    rw [fT 13 i (by omega), f 33 i (by omega) (by omega) (by omega) (by omega) (by omega) (by omega) (by omega)]; exact n13 i hi
  · rw [fT 0 3 (by omega), fT 0 4 (by omega), fT 0 6 (by omega), fT 0 7 (by omega), f 23 0 (by omega) (by omega) (by omega) (by omega) (by omega) (by omega) (by omega), f 23 1 (by omega) (by omega) (by omega) (by omega) (by omega) (by omega) (by omega)]; exact nr
  · rw [fT 0 2 (by omega)]; exact nl.1
  · rw [fT 0 2 (by omega)]; exact nl.2.1
  · rw [f0 65 (by omega)]; exact nl.2.2
  · rw [f0 13 (by omega)] at hp
    rw [f 62 0 (by omega) (by omega) (by omega) (by omega) (by omega) (by omega) (by omega), f 57 p (by omega) (by omega) (by omega) (by omega) (by omega) (by omega) (by omega)] at hq
    rw [f 59 p (by omega) (by omega) (by omega) (by omega) (by omega) (by omega) (by omega)]; exact na p hp hq
/-! undo -/
def udQ (P : Tr) (L : Lo) (q : Int32 × Tr × Tr) (q' : Int32 × Tr) : Prop := q.1 = q'.1 ∧ Nw P q.2.1 q'.2 L ∧ uR P q.2.2 q'.2
theorem e_X7undo {P Tn C S : Tr} {L : Lo} {pa qa : Nat → Nat} (h : Nw P Tn S L) (hu : uR P C S) (hj : jR S) : E2 (f_X7_undo pa qa Tn C) (f_X8_undo S) (udQ P L) := by
  have h12 : 0 ≤ (S 0 12).toInt ∧ (S 0 12).toInt ≤ 5 := h.1.1 0 12
  have h13 : 0 ≤ (S 0 13).toInt ∧ (S 0 13).toInt ≤ 6 := h.1.1 0 13
  have h14 : 0 ≤ (S 0 14).toInt ∧ (S 0 14).toInt ≤ 10 := h.1.1 0 14
  have hD := D_to (R_undo S hj)
  intro u v eu ev
  have jv := (hD v ev).1
  unfold f_X7_undo at eu
  unfold f_X8_undo at ev
  obtain ⟨h0, m, n, m20, n20, hm, hn, hr⟩ := id hu
  obtain ⟨S1, e1, ev⟩ := tx_lt ev
  have z82 : S1 0 82 = S 0 82 := by rw [← e1, st_ne (by decide)]
  rw [z82] at ev
  by_cases c : C 0 0 = 0
  · rw [if_pos c] at eu
    rw [if_pos (h0.symm.trans c)] at ev
    have eu := tx_1 eu
    have ev := tx_1 ev
    rw [← eu, ← ev]
    refine ⟨rfl, by show Nw P Tn S1 L; rw [← e1]; exact Nw_2 h, ?_⟩
    show uR P C S1
    rw [← e1]
    exact uR_o hu (by rw [st_ne (by decide)]) (fun j h1 h2 => by rw [st_ne (by omega)]) (fun j => by rw [st_oth (by decide)])
  · rw [if_neg c] at eu
    rw [if_neg (fun g => c (h0.trans g))] at ev
    obtain ⟨S3, e3, ev⟩ := tx_lt ev
    obtain ⟨S4, e4, ev⟩ := tx_bd ev
    obtain ⟨w, ew, eu⟩ := tx_bd eu
    have ev := tx_1 ev
    have eu : (w.2 0 0, w.1, w.2) = u := tx_1 eu
    obtain ⟨b1, b2, b3, b4, b5, b6, b7, b8, b9⟩ := k_bb pa qa Tn C hm (by omega) c w ew
    have npos : 1 ≤ n := by
      by_cases g : n = 0
      · exfalso
        exact c (by rw [h0]; exact Int32.toInt_inj.mp (by rw [hn, g]; decide))
      · omega
    have f3 : ∀ a j, ¬ (a = 0 ∧ (j = 2 ∨ j = 82)) → S3 a j = S a j := fun a j q => by rw [← e3, st_no (by omega), ← e1, st_no (by omega)]
    have n3 : (S3 0 82).toInt = ((n - 1 : Nat) : Int) := by
      rw [← e3, st_same, i_subK hn (y := 1) (by decide) (by omega) (by omega)]; omega
    have o3 : ((61 : Int32) * (S3 0 82)).toInt = ((61 * (n - 1) : Nat) : Int) := by
      rw [i_mulL (a := (61 : Int32)) 61 (by decide) (by omega) (by omega), n3]; omega
    obtain ⟨k1, k2, k3⟩ := k_tk84 (S := S3) o3 (by omega) S4 e4
    have hj1 : jR S1 := by rw [← e1]; exact jR_thr hj
    have hB3 : iR BM S3 := by rw [← e3]; exact iR_set hj1.1 (by show (0 : Int) ≤ _; rw [i_subK hn (y := 1) (by decide) (by omega) (by omega)]; omega) (by show _ ≤ (20 : Int); rw [i_subK hn (y := 1) (by decide) (by omega) (by omega)]; omega)
    have ro : rowOK S3 84 (61 * (n - 1)) (fun i => S 53 i) := row_eq (hj.2.2.2.1 (n - 1) (by omega)) (fun p hp => row_b hj.1 (Or.inl rfl) (by omega) hp) (fun j hj2 => f3 84 _ (by omega)) (f3 0 13 (by omega)) (f3 0 14 (by omega)) (fun i hi => rfl)
    have ecl : ((61 : Int32) * (S3 0 82)).toNatClampNeg = 61 * (n - 1) := i_cn o3
    have t4 := D_to (t_X8_take_84 S3 ((61 : Int32) * (S3 0 82)) (fun i => S 53 i) hB3 ⟨by omega, by omega⟩ (by rw [ecl]; omega) (by rw [ecl]; exact ro)) S4 e4
    obtain ⟨t1, t2, _, _, t5, _⟩ := t4
    have f4 : ∀ a j, a ≠ 54 → a ≠ 55 → a ≠ 56 → a ≠ 58 → a ≠ 74 → a ≠ 84 → ¬ (a = 0 ∧ (j = 2 ∨ j = 82)) → S4 a j = S a j := fun a j n1 n2 n3 n4 _ _ n6 => (t5 a j n1 n2 n3 n4).trans (f3 a j n6)
    have row := hr (n - 1) (by omega)
    rw [show (m + 20 - n + (n - 1)) % 20 = (m + 19) % 20 by omega] at row
    obtain ⟨w1, w2, w3⟩ := rw_back (T1 := w.1) (q := S4) row t1 t2 (f4 0 14 (by omega) (by omega) (by omega) (by omega) (by omega) (by omega) (by omega)) h12.1 h13.2 h14.2 (fun j hj => b1 j hj) (fun j hj => (b2 j hj).trans (by show C 3 _ = C 3 _; rw [Nat.add_assoc])) (fun j hj => (b3 j hj).trans (by show C 3 _ = C 3 _; rw [Nat.add_assoc])) (fun j hj => (b4 j hj).trans (by show C 3 _ = C 3 _; rw [Nat.add_assoc])) (fun j hj => (b5 j hj).trans (by show C 3 _ = C 3 _; rw [Nat.add_assoc])) (fun j hj => (k1 j hj).trans (f3 84 _ (by omega))) (fun j hj => (k2 j hj).trans (by rw [f3 84 _ (by omega), Nat.add_assoc])) (fun j hj => (k3 j hj).trans (by rw [f3 84 _ (by omega), Nat.add_assoc]))
    have e82 : S4 0 82 = S3 0 82 := t5 0 82 (by decide) (by decide) (by decide) (by decide)
    have e82' : S3 0 82 = S 0 82 - 1 := by rw [← e3, st_same]
    rw [← ev] at jv
    rw [← eu, ← ev]
    refine ⟨by show w.2 0 0 = S4 0 82; rw [b9, e82, e82', h0], Nw_mv h ⟨jv.1, jv.2.1, jv.2.2.1⟩ (fun a j q => b6 a j q) f4 w3 w2 w1, ?_⟩
    show uR P w.2 S4
    unfold uR
    rw [f4 0 12 (by omega) (by omega) (by omega) (by omega) (by omega) (by omega) (by omega), f4 0 13 (by omega) (by omega) (by omega) (by omega) (by omega) (by omega) (by omega), f4 0 14 (by omega) (by omega) (by omega) (by omega) (by omega) (by omega) (by omega)]
    refine ⟨by rw [b9, e82, e82', h0], (m + 19) % 20, n - 1, by omega, by omega, b8, by rw [e82]; exact n3, fun r q => ?_⟩
    refine rwR_cg (hr r (by omega)) (fun k hk => ?_) (fun k hk => ?_) h13.2 h14.2
    · show w.2 3 (76 * (((m + 19) % 20 + 20 - (n - 1) + r) % 20) + k) = C 3 (76 * ((m + 20 - n + r) % 20) + k)
      rw [b7, show ((m + 19) % 20 + 20 - (n - 1) + r) % 20 = (m + 20 - n + r) % 20 by omega]
    · show S4 84 _ = S 84 _
      rw [t5 84 _ (by decide) (by decide) (by decide) (by decide), f3 84 _ (by omega)]
/-! help -/
theorem e_isPs {P S : Tr} {pa qa : Nat → Nat} {q4 : Nat} {x : Int32} (h : P 0 1 = S 0 13) : E2 (f_X7_isPerson pa qa P q4 x) (f_X8_isPerson S x) (fun r r' => r = r' ∧ (r' = 0 ∨ (r' = 1 ∧ 0 ≤ x.toInt ∧ x.toInt < (S 0 13).toInt))) := by
  unfold f_X7_isPerson f_X8_isPerson
  rw [h]
  refine E2_it Iff.rfl (fun _ _ => E2_some ⟨rfl, Or.inl rfl⟩) (fun c _ => E2_ckl (fun _ => E2_it Iff.rfl (fun _ _ => E2_some ⟨rfl, Or.inl rfl⟩) (fun d _ => E2_some ⟨rfl, Or.inr ⟨rfl, tq_ltn (x := x) (y := 0) (b := 0) rfl (by decide) c, tq_len rfl rfl d⟩⟩)))
theorem e_isPc {P S : Tr} {pa qa : Nat → Nat} {q4 : Nat} {x : Int32} (h : P 0 2 = S 0 14) : E2 (f_X7_isPiece pa qa P q4 x) (f_X8_isPiece S x) (fun r r' => r = r' ∧ (r' = 0 ∨ (r' = 1 ∧ 0 ≤ x.toInt ∧ x.toInt < (S 0 14).toInt))) := by
  unfold f_X7_isPiece f_X8_isPiece
  rw [h]
  refine E2_it Iff.rfl (fun _ _ => E2_some ⟨rfl, Or.inl rfl⟩) (fun c _ => E2_ckl (fun _ => E2_it Iff.rfl (fun _ _ => E2_some ⟨rfl, Or.inl rfl⟩) (fun d _ => E2_some ⟨rfl, Or.inr ⟨rfl, tq_ltn (x := x) (y := 0) (b := 0) rfl (by decide) c, tq_len rfl rfl d⟩⟩)))
theorem e_isPl {P S : Tr} {pa qa : Nat → Nat} {q4 : Nat} {x : Int32} (h : P 0 0 = S 0 12) : E2 (f_X7_isPlace pa qa P q4 x) (f_X8_isPlace S x) (fun r r' => r = r' ∧ (r' = 0 ∨ (r' = 1 ∧ 0 ≤ x.toInt ∧ x.toInt < (S 0 12).toInt))) := by
  unfold f_X7_isPlace f_X8_isPlace
  rw [h]
  refine E2_it Iff.rfl (fun _ _ => E2_some ⟨rfl, Or.inl rfl⟩) (fun c _ => E2_ckl (fun _ => E2_it Iff.rfl (fun _ _ => E2_some ⟨rfl, Or.inl rfl⟩) (fun d _ => E2_some ⟨rfl, Or.inr ⟨rfl, tq_ltn (x := x) (y := 0) (b := 0) rfl (by decide) c, tq_len rfl rfl d⟩⟩)))
theorem uR_2 {P C S : Tr} {v : Int32} (h : uR P C S) : uR P C (st S 0 2 v) := uR_o h (by rw [st_ne (by decide)]) (fun j h1 h2 => by rw [st_ne (by omega)]) (fun j => by rw [st_oth (by decide)])
theorem Nw_rem {P T S q : Tr} {L : Lo} {n : Nat} (h : Nw P T S L) (hq : remQ S q n) (hI : rI 0 q) : Nw P T q L := Nw_of h hI (fun a j c => hq.2.2 a j (fun e => by subst e; unfold h0c at c; omega) (fun e => by obtain ⟨e1, e2⟩ := e; subst e1 e2; unfold h0c at c; omega)) ((hq.2.2 0 65 (by decide) (by omega)).trans h.2.2.2.2.2.2.2.1.2.2) rfl
theorem e_X7help {P Tn C S : Tr} {L : Lo} {pa qa : Nat → Nat} {q4 : Nat} {x1 x2 : Int32} (h : Nw P Tn S L) (hu : uR P C S) (hj : jR S) : E2 (f_X7_help pa qa P Tn C q4 x1 x2) (f_X8_help S x1 x2) (udQ P L) := by
  have hD := D_to (R_help S x1 x2 hj)
  intro u v eu ev
  have jv := (hD v ev).1
  have main : jR v.2 → E2 (f_X7_help pa qa P Tn C q4 x1 x2) (f_X8_help S x1 x2) (fun q q' => q' = v → udQ P L q q') := fun jv => by
    unfold f_X7_help f_X8_help
    refine E2_ltr (fun S1 e1 => ?_)
    have hN : Nw P Tn S1 L := by rw [e1]; exact Nw_2 h
    have hU : uR P C S1 := by rw [e1]; exact uR_2 hu
    have hj1 : jR S1 := by rw [e1]; exact jR_thr hj
    have b13 : 0 ≤ (S1 0 13).toInt ∧ (S1 0 13).toInt ≤ 6 := hN.1.1 0 13
    have no : udQ P L (0, Tn, C) (0, S1) := ⟨rfl, hN, hU⟩
    refine E2_bd (e_isPs hN.2.1.1.2.1) (fun r r' hr => ?_)
    obtain ⟨rfl, hr⟩ := hr
    refine E2_it Iff.rfl (fun _ _ => E2_some (fun _ => no)) (fun n _ => ?_)
    obtain ⟨_, x0, x13⟩ := hr.resolve_left n
    obtain ⟨p, hp⟩ : ∃ p : Nat, x1.toInt = p := ⟨x1.toInt.toNat, by omega⟩
    by_cases c1 : x2 < 1
    · rw [if_pos c1, isIn_0 (Or.inl c1)]
      exact E2_sr (E2_pr rfl (E2_some (fun _ => no)))
    rw [if_neg c1]
    by_cases c2 : (99 : Int32) < x2
    · rw [if_pos c2, isIn_0 (Or.inr c2)]
      exact E2_sr (E2_pr rfl (E2_some (fun _ => no)))
    rw [if_neg c2, isIn_1 c1 c2]
    refine E2_sr (E2_qr (by decide) (E2_ckl (fun _ => E2_ckr (fun _ => ?_))))
    rw [i_cn hp, (hN.2.2.2.2.1 p (by omega)).2]
    refine E2_it Iff.rfl (fun _ _ => E2_some (fun _ => no)) (fun _ _ => ?_)
    obtain ⟨h0, m, n, m20, n20, hm, hn, hr⟩ := id hU
    refine E2_bl (k_sav_na pa qa Tn C hm (by omega)) (fun C9 h9 => E2_br (Ep_and (k_rem hn n20) (D_to (jR_rem hj1))) (fun S12 h12 => E2_ltl (fun T12 e12 => E2_ltr (fun S15 e15 => E2_some (fun ev => ?_)))))
    obtain ⟨hq, jq, _, _⟩ := h12
    have N2 : Nw P Tn S12 L := Nw_rem hN hq ⟨jq.1, jq.2.1, jq.2.2.1⟩
    have U2 : uR P C9 S12 := uR_rem hU hN hm hn h9 hq
    rw [← ev] at jv
    have f13 : S12 0 13 = S1 0 13 := hq.2.2 0 13 (by decide) (by omega)
    refine ⟨rfl, Nw_mv N2 ⟨jv.1, jv.2.1, jv.2.2.1⟩ (fun a j q => by show T12 a j = _; rw [e12, st_no (by omega)]) (fun a j _ _ _ n4 _ _ _ => by show S15 a j = _; rw [e15, st_no (by omega)]) (fun p' hp' => ?_) (fun i hi => ?_) ?_, uR_o U2 (by show S15 0 82 = _; rw [e15, st_oth (by decide)]) (fun j _ _ => by show S15 0 j = _; rw [e15, st_oth (by decide)]) (fun j => by show S15 84 j = _; rw [e15, st_oth (by decide)])⟩
    · show T12 10 p' = S15 58 p'
      rw [e12, e15]
      by_cases g : p' = p
      · rw [g, st_same, st_same]
      · rw [st_ne g, st_ne g]; exact (N2.2.2.2.2.1 p' hp').2
    · show T12 15 i = S15 54 i ∧ (S15 54 i).toInt < (S12 0 12).toInt
      rw [e12, e15, st_oth (by decide), st_oth (by decide)]
      have x := (N2.2.2.1.2.2.2.1 i hi).2
      have y := (N2.2.2.2.1.1 i hi).2.2
      rw [show 10 * 0 + i = i by omega] at x y
      exact ⟨x, y⟩
    · refine stk_e N2.2.2.1.2.2.2.2 (fun j => ?_) (fun j => ?_) (fun j => ?_) (fun j => ?_) (fun j => ?_) N2.1.1
      · show T12 16 j = _; rw [e12, st_oth (by decide)]
      · show T12 17 j = _; rw [e12, st_oth (by decide)]
      · show T12 18 j = _; rw [e12, st_oth (by decide)]
      · show S15 55 j = _; rw [e15, st_oth (by decide)]
      · show S15 56 j = _; rw [e15, st_oth (by decide)]
  exact main jv u v eu ev rfl
-- 62.zaz.45.z35
/-! moved by call -/
theorem e_tpN {b n : Nat} {P T S : Tr} {xn : Int32} (hS : iR BM S) (hk : stk b P T S) (hx : xn.toInt = n) (hn : n < 5) : Ep (f_X6_top T xn) (fun r => (S 56 (5 * b + n) = 0 ∧ r = -1) ∨ (¬ S 56 (5 * b + n) = 0 ∧ r = S 55 (50 * b + 10 * n + ((S 56 (5 * b + n)).toInt.toNat - 1)))) := by
  obtain ⟨g1, g2, g3⟩ := hk n hn
  have b56 := BM56 hS (5 * b + n)
  unfold f_X6_top
  rw [i_cn hx, g1]
  refine Ep_ck (Ep_ite (fun c => Ep_some (Or.inl ⟨c, rfl⟩)) (fun c => Ep_ck (Ep_some (Or.inr ⟨c, ?_⟩))))
  have c1 : ¬ (S 56 (5 * b + n)).toInt = 0 := fun g => c (Int32.toInt_inj.mp (g.trans (by decide)))
  obtain ⟨h, hh⟩ : ∃ h : Nat, (S 56 (5 * b + n)).toInt = h := ⟨(S 56 (5 * b + n)).toInt.toNat, by omega⟩
  have e1 : ((xn * 10) + S 56 (5 * b + n)).toInt = 10 * n + h := (jy hx (by omega) hh (by omega)).2
  have e2 : (((xn * 10) + S 56 (5 * b + n)) - 1).toNatClampNeg = 10 * n + (h - 1) := i_cn (by rw [i_subK e1 (y := 1) (by decide) (by omega) (by omega)]; omega)
  rw [e2, hh, show ((h : Nat) : Int).toNat = h by omega]
  exact g2 (h - 1) (by rw [hh]; omega)
/-- the top of a place is the piece: it lies there with nothing above -/
theorem top_is {i p2 p pos : Nat} {T S : Tr} {r x1 x2 : Int32} (hS : iR BM S) (hg : gS 0 S) (hi : x1.toInt = i) (hp2 : x2.toInt = p2) (h5 : p2 < 5) (ha : at2 0 T S i p pos) (hr : (S 56 (5 * 0 + p2) = 0 ∧ r = -1) ∨ (¬ S 56 (5 * 0 + p2) = 0 ∧ r = S 55 (50 * 0 + 10 * p2 + ((S 56 (5 * 0 + p2)).toInt.toNat - 1)))) : r = x1 ↔ (p2 = p ∧ (S 56 (5 * 0 + p)).toInt - 1 - pos = 0) := by
  obtain ⟨a1, a2, a3, a4, a5, a6, a7, a8, a9, a10⟩ := ha
  have b56 := BM56 hS (5 * 0 + p2)
  constructor
  · intro e
    rcases hr with ⟨_, h2⟩ | ⟨h1, h2⟩
    · exfalso
      rw [h2] at e
      rw [← e, show (-1 : Int32).toInt = -1 by decide] at hi
      omega
    · have n0 : ¬ (S 56 (5 * 0 + p2)).toInt = 0 := fun g => h1 (Int32.toInt_inj.mp (g.trans (by decide)))
      obtain ⟨h, hh⟩ : ∃ h : Nat, (S 56 (5 * 0 + p2)).toInt = h := ⟨(S 56 (5 * 0 + p2)).toInt.toNat, by omega⟩
      rw [hh, show ((h : Nat) : Int).toNat = h by omega] at h2
      obtain ⟨t, t1, t2, t3, t4⟩ := sk_at (b := 0) (p := p2) (k := h - 1) hS hg h5 (by omega)
      rw [← h2, e, hi] at t2
      have ti : t = i := by omega
      subst ti
      rw [← a3, a1] at t4
      have pe : p2 = p := by omega
      subst pe
      refine ⟨rfl, ?_⟩
      have := a10 (h - 1) (by omega) (by rw [a9 _ (by omega), ← h2, e]; exact hi)
      omega
  · rintro ⟨rfl, e⟩
    rcases hr with ⟨h1, _⟩ | ⟨h1, h2⟩
    · exfalso
      rw [h1, show (0 : Int32).toInt = 0 by decide] at a5
      omega
    · rw [h2]
      obtain ⟨h, hh⟩ : ∃ h : Nat, (S 56 (5 * 0 + p2)).toInt = h := ⟨(S 56 (5 * 0 + p2)).toInt.toNat, by omega⟩
      rw [hh, show ((h : Nat) : Int).toNat = h by omega, show h - 1 = pos by omega, ← a9 pos a5]
      exact Int32.toInt_inj.mp (a8.trans hi.symm)
theorem mvCore {P T S T1 S1 T2 S2 : Tr} {L : Lo} {i p pos h p2 : Nat} {x1 x2 : Int32} (hN : Nw P T S L) (hi : x1.toInt = i) (hii : (i : Int) < (S 0 14).toInt) (hp2 : x2.toInt = p2) (h12 : (p2 : Int) < (S 0 12).toInt) (h1 : S 53 i = 1) (ha : at2 0 T S i p pos) (hh : (S 56 (5 * 0 + p)).toInt = h) (c1 : tkC P T T1 i p pos h 1) (z1 : tkZ 0 S S1 i p pos h 1) (hB : iR BM S1) (h2 : Nat) (hh2 : (S1 56 (5 * 0 + p2)).toInt = h2) (h9 : h2 ≤ 9) (c2 : ptC P T1 T2 i p2 h2 x1 x2) (z2 : ptZ 0 S1 S2 i p2 h2 x1 x2) (hI : rI 0 S2) : Nw P T2 S2 L := by
  have h14 : 0 ≤ (S 0 14).toInt ∧ (S 0 14).toInt ≤ 10 := hN.1.1 0 14
  have b12 : 0 ≤ (S 0 12).toInt ∧ (S 0 12).toInt ≤ 5 := hN.1.1 0 12
  have d1 := dyn_take hN.2.2.1 hN.1.1 ha (by omega) hh c1 z1
  have d2 := dyn_put d1 hB hi (by omega) (by omega) hh2 h9 c2 z2
  obtain ⟨u1, u2, u3, u4, u5, u6⟩ := c1
  obtain ⟨v1, v2, v3, v4, v5, v6⟩ := c2
  obtain ⟨y1, y2, y3, y4, y5⟩ := z1
  obtain ⟨w1, w2, w3, w4, w5⟩ := z2
  have t14 : T 14 i = 1 := by
    have x := (hN.2.2.1.2.2.2.1 i hii).1
    rw [show 10 * 0 + i = i by omega] at x
    exact x.trans h1
  refine Nw_mv hN hI (fun a j q => ?_) (fun a j n1 n2 n3 n4 n5 n6 n7 => ?_) (fun q hq => ?_) (fun j hj => ?_) d2.2.2.2.2
  · by_cases g : a = 14
    · subst g
      rw [v5]
      by_cases e : j = i
      · subst e; rw [if_pos rfl]; exact t14.symm
      · rw [if_neg e, u5, if_neg e]
    · rw [v6 a j (by omega), u6 a j (by omega)]
  · by_cases g : a = 53
    · subst g
      rw [w4]
      by_cases e : j = 10 * 0 + i
      · rw [if_pos e, e, show 10 * 0 + i = i by omega]; exact h1.symm
      · rw [if_neg e, y4, if_neg e]
    · rw [w5 a j (by omega), y5 a j (by omega)]
  · rw [v6 10 q (by omega), u6 10 q (by omega), w5 58 q (by omega), y5 58 q (by omega)]
    exact (hN.2.2.2.2.1 q hq).2
  · have e14 : S2 0 14 = S 0 14 := (w5 0 14 (by omega)).trans (y5 0 14 (by omega))
    have x := (d2.2.2.2.1 j (by rw [e14]; exact hj)).2
    rw [show 10 * 0 + j = j by omega] at x
    refine ⟨x, ?_⟩
    have hv := (hN.2.2.2.1.1 j hj).2.2
    rw [show 10 * 0 + j = j by omega] at hv
    have w3 := w3 j
    have y3 := y3 j
    rw [show 10 * 0 + i = i by omega] at w3 y3
    rw [w3]
    by_cases e : j = i
    · rw [if_pos e, hp2]; omega
    · rw [if_neg e, y3, if_neg e]; exact hv
theorem e_X7move {P Tn C S : Tr} {L : Lo} {pa qa : Nat → Nat} {q0 q4 : Nat} {x1 x2 : Int32} (h : Nw P Tn S L) (hu : uR P C S) (hj : jR S) : E2 (f_X7_move pa qa P Tn C q0 q4 x1 x2) (f_X8_move S x1 x2) (udQ P L) := by
  have hD := D_to (R_move S x1 x2 hj)
  intro u v eu ev
  have jv := (hD v ev).1
  have main : jR v.2 → E2 (f_X7_move pa qa P Tn C q0 q4 x1 x2) (f_X8_move S x1 x2) (fun q q' => q' = v → udQ P L q q') := fun jv => by
    unfold f_X7_move f_X8_move
    refine E2_ltr (fun S1 e1 => ?_)
    have hN : Nw P Tn S1 L := by rw [e1]; exact Nw_2 h
    have hU : uR P C S1 := by rw [e1]; exact uR_2 hu
    have hj1 : jR S1 := by rw [e1]; exact jR_thr hj
    obtain ⟨hS, hpI, hg⟩ := hN.1
    have b12 : 0 ≤ (S1 0 12).toInt ∧ (S1 0 12).toInt ≤ 5 := hS 0 12
    have b14 : 0 ≤ (S1 0 14).toInt ∧ (S1 0 14).toInt ≤ 10 := hS 0 14
    have no : udQ P L (0, Tn, C) (0, S1) := ⟨rfl, hN, hU⟩
    refine E2_bd (e_isPc hN.2.1.1.2.2.1) (fun r r' hr => ?_)
    obtain ⟨rfl, hr⟩ := hr
    refine E2_it Iff.rfl (fun _ _ => E2_some (fun _ => no)) (fun n _ => ?_)
    obtain ⟨_, x0, x14⟩ := hr.resolve_left n
    obtain ⟨i, hi⟩ : ∃ i : Nat, x1.toInt = i := ⟨x1.toInt.toNat, by omega⟩
    refine E2_bd (e_isPl hN.2.1.1.1) (fun r r' hr => ?_)
    obtain ⟨rfl, hr⟩ := hr
    refine E2_it Iff.rfl (fun _ _ => E2_some (fun _ => no)) (fun n _ => ?_)
    obtain ⟨_, z0, z12⟩ := hr.resolve_left n
    obtain ⟨p2, hp2⟩ : ∃ p2 : Nat, x2.toInt = p2 := ⟨x2.toInt.toNat, by omega⟩
    have hii : (i : Int) < (S1 0 14).toInt := by omega
    have pcs0 := hN.2.2.1.2.2.2.1 i hii
    rw [show 10 * 0 + i = i by omega] at pcs0
    have iff53 := hg.2.1 i (by omega)
    rw [show 10 * 0 + i = i by omega] at iff53
    have ly : lyM S1 0 i = (S1 54 i).toInt := by show (S1 54 (10 * 0 + i)).toInt = _; rw [show 10 * 0 + i = i by omega]
    rw [ly] at iff53
    refine E2_ckl (fun _ => E2_ckr (fun _ => ?_))
    rw [i_cn hi, pcs0.2]
    by_cases c0 : S1 54 i < 0
    · have g := Int32.lt_iff_toInt_lt.mp c0
      rw [show (0 : Int32).toInt = 0 by decide] at g
      rw [if_pos c0, if_neg (fun q => by have := iff53.mp q; omega)]
      exact E2_some (fun _ => no)
    have c1 := tq_ltn (x := S1 54 i) (y := 0) (b := 0) rfl (by decide) c0
    have h53 := iff53.mpr c1
    rw [if_neg c0, if_pos h53]
    obtain ⟨p, pos, ha⟩ := at2_of (b := 0) (P := P) (T := Tn) hS hg.1 hN.2.2.1.2.2.2.1 hN.2.2.1.2.2.2.2 hii (by rw [show 10 * 0 + i = i by omega]; exact c1)
    have ha' := ha
    obtain ⟨a1, a2, a3, a4, a5, a6, a7, a8, a9, a10⟩ := ha'
    rw [show 10 * 0 + i = i by omega] at a3
    have fin : ∀ g : Nat, E2 (fJ_X7_move_J69 pa qa P g q4 x1 x2 Tn C) (fJ_X8_move_J67 x1 x2 S1) (fun q q' => q' = v → udQ P L q q') := fun g => by
      unfold fJ_X7_move_J69 fJ_X8_move_J67
      obtain ⟨h0, m, n, m20, n20, hm, hn, hr⟩ := id hU
      refine E2_bl (k_sav_na pa qa Tn C hm (by omega)) (fun C9 h9 => E2_br (Ep_and (k_rem hn n20) (D_to (jR_rem hj1))) (fun S17 h17 => E2_ckl (fun _ => ?_)))
      obtain ⟨hq, jq, _, _⟩ := h17
      have N2 : Nw P Tn S17 L := Nw_rem hN hq ⟨jq.1, jq.2.1, jq.2.2.1⟩
      have U2 : uR P C9 S17 := uR_rem hU hN hm hn h9 hq
      have f : ∀ a j, a ≠ 84 → ¬ (a = 0 ∧ j = 82) → S17 a j = S1 a j := hq.2.2
      obtain ⟨hS2, hpI2, hg2⟩ := N2.1
      have hii2 : (i : Int) < (S17 0 14).toInt := by rw [f 0 14 (by omega) (by omega)]; exact hii
      have h54 : S17 54 i = S1 54 i := f 54 i (by omega) (by omega)
      obtain ⟨p, pos, ha⟩ := at2_of (b := 0) (P := P) (T := Tn) hS2 hg2.1 N2.2.2.1.2.2.2.1 N2.2.2.1.2.2.2.2 hii2 (by rw [show 10 * 0 + i = i by omega, h54]; exact c1)
      have ha' := ha
      obtain ⟨a1, a2, a3, a4, a5, a6, a7, a8, a9, a10⟩ := ha'
      obtain ⟨hh, hhh⟩ : ∃ hh : Nat, (S17 56 (5 * 0 + p)).toInt = hh := ⟨(S17 56 (5 * 0 + p)).toInt.toNat, by omega⟩
      have j10 : (((10 : Int32) * 0) + x1).toNatClampNeg = 10 * 0 + i := jx 10 (x := 0) (by decide) (by omega) (by decide) hi (by omega)
      have z0' : (0 : Int32).toNatClampNeg = 0 := by decide
      have c1' := e_tkc (P := P) (c := 1) hi a1 a2 (by rw [a4]; exact hhh) (at_lvl ha hi) (by omega) (by omega)
      have c2' := e_tks (b := 0) (xb := 0) (c := 1) (by decide) (by decide) hi (by omega) (by rw [← a3]; exact a1) a2 hhh (at_bel (xb := 0) ha (by decide) (by decide) hS2 hg2.1 hi (by omega)) (by omega) (by omega)
      have c3' := D_to (t_X8_takes S17 0 x1 1 hS2 (by decide) ⟨by omega, by omega⟩ (by decide) (by rw [z0']; exact hg2) (by rw [j10, show 10 * 0 + i = i by omega, h54]; exact c1))
      rw [z0', i_cn hi] at c3'
      refine E2_bl c1' (fun T21 q1 => E2_br (Ep_and c2' c3') (fun S20 q2 => ?_))
      obtain ⟨q2, _, _, q3, q4', q5, q6, _, q7⟩ := q2
      have e12 : S20 0 12 = S1 0 12 := (q2.2.2.2.2 0 12 (by omega)).trans (f 0 12 (by omega) (by omega))
      have e14 : S20 0 14 = S1 0 14 := (q2.2.2.2.2 0 14 (by omega)).trans (f 0 14 (by omega) (by omega))
      have b56 := BM56 q3 (5 * 0 + p2)
      obtain ⟨h2, hh2⟩ : ∃ h2 : Nat, (S20 56 (5 * 0 + p2)).toInt = h2 := ⟨(S20 56 (5 * 0 + p2)).toInt.toNat, by omega⟩
      have room : mnM S20 0 p2 ≤ 9 := gF_room (p := p2) (i := i) q4'.1 (fun q k => BM55 q3 _) (by omega) (by omega) (by rw [q6]; decide)
      have room : (S20 56 (5 * 0 + p2)).toInt ≤ 9 := room
      have dt := dyn_take N2.2.2.1 N2.1.1 ha (by omega) hhh q1 q2
      have d1 := e_ptc (P := P) (T := T21) (xp := x2) (xi := x1) hi hp2 (by omega) (h := h2) (by rw [(dt.2.2.2.2 p2 (by omega)).1]; exact hh2) (by omega)
      have d2 := D_to (t_X8_lays S20 0 x2 x1 q3 (by decide) ⟨by omega, by omega⟩ ⟨by omega, by omega⟩ (by rw [z0', i_cn hi]; exact q4') (by rw [z0']; exact q5) (by rw [z0', i_cn hi, q6]; decide) (by rw [e14]; omega))
      rw [z0', i_cn hi, i_cn hp2] at d2
      refine E2_bl d1 (fun T24 r1 => E2_br d2 (fun S23 r2 => E2_some (fun ev => ?_)))
      obtain ⟨r2, r3, r4, r5⟩ := r2
      have pz : ptZ 0 S20 S23 i p2 h2 x1 x2 := by rw [r2]; exact ptZ_of (b := 0) hh2
      rw [← ev] at jv
      have s53 : S17 53 i = 1 := (f 53 i (by omega) (by omega)).trans h53
      have NN : Nw P T24 S23 L := mvCore N2 hi hii2 hp2 (by rw [f 0 12 (by omega) (by omega)]; omega) s53 ha hhh q1 q2 q3 h2 hh2 (by omega) r1 pz ⟨jv.1, jv.2.1, jv.2.2.1⟩
      refine ⟨rfl, NN, uR_o U2 ?_ (fun j _ _ => ?_) (fun j => ?_)⟩
      · show S23 0 82 = _; rw [pz.2.2.2.2 0 82 (by omega), q2.2.2.2.2 0 82 (by omega)]
      · show S23 0 j = _; rw [pz.2.2.2.2 0 j (by omega), q2.2.2.2.2 0 j (by omega)]
      · show S23 84 j = _; rw [pz.2.2.2.2 84 j (by omega), q2.2.2.2.2 84 j (by omega)]
    refine E2_ckl (fun _ => E2_bl (e_tpN (b := 0) (P := P) hS hN.2.2.1.2.2.2.2 hp2 (by omega)) (fun r hr => ?_))
    have tis := top_is hS hg.1 hi hp2 (by omega) ha hr
    have x2p : S1 54 i = x2 ↔ p2 = p := by
      rw [← a3]
      constructor
      · intro e; rw [e, hp2] at a1; omega
      · intro e; exact Int32.toInt_inj.mp (by rw [a1, hp2, e])
    have above := (e_abv (b := 0) (xb := 0) ha (by decide) (by decide) hS hg.1 hi (by omega)).2
    by_cases cp : S1 54 i = x2
    · rw [if_pos cp, if_pos cp]
      refine E2_br above (fun r2 hr2 => ?_)
      have r20 : r2 = 0 ↔ r = x1 := by
        rw [tis]
        constructor
        · intro e; rw [e, show (0 : Int32).toInt = 0 by decide] at hr2; exact ⟨x2p.mp cp, hr2.symm⟩
        · intro e; exact Int32.toInt_inj.mp (by rw [hr2, e.2]; decide)
      by_cases c : r = x1
      · rw [if_pos c, if_pos (r20.mpr c)]; exact E2_some (fun _ => no)
      · rw [if_neg c, if_neg (fun q => c (r20.mp q))]; exact fin _
    · rw [if_neg (fun q => cp (x2p.mpr (tis.mp q).1)), if_neg cp, if_neg cp]
      refine E2_bd (e_room (b := 0) (xb := 0) (by decide) (by decide) hp2 hS hg.1 hN.2.1 hN.2.2.1.2.2.2.2 (by omega) hi hii) (fun r1 r1' hr1 => ?_)
      obtain ⟨rfl, _⟩ := hr1
      exact E2_it Iff.rfl (fun _ _ => E2_some (fun _ => no)) (fun _ _ => fin _)
  exact main jv u v eu ev rfl
-- 62.zaz.46.z36
/-! counting; what an insertion does -/
def cnt (f : Nat → Bool) : Nat → Nat
  | 0 => 0
  | n + 1 => cnt f n + (bif f n then 1 else 0)
theorem cnt_cg {f g : Nat → Bool} : ∀ {n : Nat}, (∀ k, k < n → f k = g k) → cnt f n = cnt g n
  | 0, _ => rfl
  | n + 1, h => by
    show cnt f n + _ = cnt g n + _
    rw [cnt_cg (fun k hk => h k (by omega)), h n (by omega)]
theorem cnt_b {b : Bool} : (bif b then (1 : Nat) else 0) ≤ 1 := by cases b <;> decide
theorem cnt_le {f : Nat → Bool} : ∀ {n : Nat}, cnt f n ≤ n
  | 0 => Nat.le_refl _
  | n + 1 => by
    show cnt f n + _ ≤ n + 1
    have := cnt_le (f := f) (n := n)
    have := cnt_b (b := f n)
    omega
theorem cnt_0 {f : Nat → Bool} : ∀ {n : Nat}, (∀ k, k < n → f k = false) → cnt f n = 0
  | 0, _ => rfl
  | n + 1, h => by
    show cnt f n + _ = 0
    rw [cnt_0 (fun k hk => h k (by omega)), h n (by omega)]
    rfl
theorem cnt_seg {f : Nat → Bool} {k : Nat} : ∀ {n : Nat}, k ≤ n → (∀ q, q < k → f q = true) → (∀ q, k ≤ q → q < n → f q = false) → cnt f n = k
  | 0, h, _, _ => by
    show 0 = k
    omega
  | n + 1, h, h1, h2 => by
    show cnt f n + _ = k
    by_cases c : k ≤ n
    · rw [cnt_seg c h1 (fun q q1 q2 => h2 q q1 (by omega)), h2 n c (by omega)]
      rfl
    · have e : k = n + 1 := by omega
      subst e
      rw [cnt_seg (k := n) (n := n) (Nat.le_refl _) (fun q hq => h1 q (by omega)) (fun q q1 q2 => absurd q2 (by omega)), h1 n (by omega)]
      rfl
theorem cnt_mono {f g : Nat → Bool} : ∀ {n : Nat}, (∀ k, k < n → f k = true → g k = true) → cnt f n ≤ cnt g n
  | 0, _ => Nat.le_refl _
  | n + 1, h => by
    show cnt f n + (bif f n then 1 else 0) ≤ cnt g n + (bif g n then 1 else 0)
    have ih := cnt_mono (f := f) (g := g) (n := n) (fun k hk => h k (by omega))
    cases hf : f n with
    | false =>
      have : (bif false then (1 : Nat) else 0) = 0 := rfl
      omega
    | true =>
      rw [h n (by omega) hf]
      have : (bif true then (1 : Nat) else 0) = 1 := rfl
      omega
theorem cnt_slt {f g : Nat → Bool} {j : Nat} : ∀ {n : Nat}, (∀ k, k < n → f k = true → g k = true) → j < n → f j = false → g j = true → cnt f n < cnt g n
  | 0, _, h, _, _ => absurd h (by omega)
  | n + 1, h, hj, h1, h2 => by
    show cnt f n + (bif f n then 1 else 0) < cnt g n + (bif g n then 1 else 0)
    by_cases c : j = n
    · subst c
      have ih := cnt_mono (f := f) (g := g) (n := j) (fun k hk => h k (by omega))
      rw [h1, h2]
      have : (bif true then (1 : Nat) else 0) = 1 := rfl
      have : (bif false then (1 : Nat) else 0) = 0 := rfl
      omega
    · have ih := cnt_slt (f := f) (g := g) (j := j) (n := n) (fun k hk => h k (by omega)) (by omega) h1 h2
      cases hf : f n with
      | false =>
        have : (bif false then (1 : Nat) else 0) = 0 := rfl
        omega
      | true =>
        rw [h n (by omega) hf]
        omega
theorem cnt_rm (f : Nat → Bool) (l : Nat) : ∀ n, l ≤ n → cnt f (n + 1) = cnt (fun k => if l ≤ k then f (k + 1) else f k) n + (bif f l then 1 else 0)
  | 0, h => by
    have : l = 0 := by omega
    subst this
    rfl
  | n + 1, h => by
    show cnt f (n + 1) + (bif f (n + 1) then 1 else 0) = cnt (fun k => if l ≤ k then f (k + 1) else f k) n + (bif (if l ≤ n then f (n + 1) else f n) then 1 else 0) + (bif f l then 1 else 0)
    by_cases c : l ≤ n
    · rw [cnt_rm f l n c, if_pos c]
      omega
    · have e : l = n + 1 := by omega
      subst e
      rw [if_neg (by omega), cnt_cg (f := fun k => if n + 1 ≤ k then f (k + 1) else f k) (g := f) (n := n) (fun k hk => if_neg (by omega))]
      rfl
/-- the first i of a stack, put in order -/
def insI (ky : Nat → Int) (g r : Nat → Nat) (i : Nat) : Prop := (∀ q, q < i → ∃ j, j < i ∧ r q = g j) ∧ (∀ q q', q < q' → q' < i → ky (r q') < ky (r q)) ∧ (∀ c : Int, cnt (fun m => decide (c < ky (g m))) i = cnt (fun m => decide (c < ky (r m))) i) ∧ ∀ w : Nat → Int32, wsm (fun m => w (g m)) i = wsm (fun m => w (r m)) i
theorem insI_cg {ky : Nat → Int} {g r r1 : Nat → Nat} {i : Nat} (h : insI ky g r i) (e : ∀ q, q < i → r1 q = r q) : insI ky g r1 i := by
  obtain ⟨h1, h2, h3, h4⟩ := h
  refine ⟨fun q hq => ?_, fun q q' a b => ?_, fun c => ?_, fun w => ?_⟩
  · rw [e q hq]; exact h1 q hq
  · rw [e q (by omega), e q' b]; exact h2 q q' a b
  · rw [h3 c]
    exact cnt_cg (fun k hk => by show decide (c < ky (r k)) = decide (c < ky (r1 k)); rw [e k hk])
  · rw [h4 w]
    exact wsm_cg (fun k hk => by show w (r k) = w (r1 k); rw [e k hk])
theorem ins_step {ky : Nat → Int} {g r r1 : Nat → Nat} {i l : Nat} (h : insI ky g r i) (hl : l ≤ i) (e1 : ∀ q, q < l → r1 q = r q) (e2 : r1 l = g i) (e3 : ∀ q, l < q → q ≤ i → r1 q = r (q - 1)) (u1 : ∀ q, q < l → ky (g i) < ky (r q)) (u2 : ∀ q, l ≤ q → q < i → ky (r q) < ky (g i)) : insI ky g r1 (i + 1) := by
  obtain ⟨h1, h2, h3, h4⟩ := h
  refine ⟨fun q hq => ?_, fun q q' a b => ?_, fun c => ?_, fun w => ?_⟩
  · rcases (by omega : q < l ∨ q = l ∨ l < q) with g1 | g1 | g1
    · obtain ⟨j, j1, j2⟩ := h1 q (by omega)
      exact ⟨j, by omega, by rw [e1 q g1]; exact j2⟩
    · subst g1; exact ⟨i, by omega, e2⟩
    · obtain ⟨j, j1, j2⟩ := h1 (q - 1) (by omega)
      exact ⟨j, by omega, by rw [e3 q g1 (by omega)]; exact j2⟩
  · rcases (by omega : q' < l ∨ q' = l ∨ l < q') with g1 | g1 | g1
    · rw [e1 q (by omega), e1 q' g1]; exact h2 q q' a (by omega)
    · subst g1; rw [e2, e1 q a]; exact u1 q a
    · rw [e3 q' g1 (by omega)]
      rcases (by omega : q < l ∨ q = l ∨ l < q) with g2 | g2 | g2
      · rw [e1 q g2]; exact h2 q (q' - 1) (by omega) (by omega)
      · subst g2; rw [e2]; exact u2 (q' - 1) (by omega) (by omega)
      · rw [e3 q g2 (by omega)]; exact h2 (q - 1) (q' - 1) (by omega) (by omega)
  · rw [cnt_rm (fun m => decide (c < ky (r1 m))) l i hl]
    show cnt (fun m => decide (c < ky (g m))) i + (bif decide (c < ky (g i)) then 1 else 0) = _ + (bif decide (c < ky (r1 l)) then 1 else 0)
    rw [e2, h3 c]
    refine congrArg (· + _) (cnt_cg (fun k hk => ?_))
    show decide (c < ky (r k)) = if l ≤ k then decide (c < ky (r1 (k + 1))) else decide (c < ky (r1 k))
    by_cases d : l ≤ k
    · rw [if_pos d, e3 (k + 1) (by omega) (by omega), Nat.add_sub_cancel]
    · rw [if_neg d, e1 k (by omega)]
  · have x := wsm_rm (fun m => w (r1 m)) l i hl
    show wsm (fun m => w (g m)) i + w (g i) = _
    rw [← x, e2, h4 w]
    refine congrArg (· + _) (wsm_cg (fun k hk => ?_))
    show w (r k) = if l ≤ k then w (r1 (k + 1)) else w (r1 k)
    by_cases d : l ≤ k
    · rw [if_pos d, e3 (k + 1) (by omega) (by omega), Nat.add_sub_cancel]
    · rw [if_neg d, e1 k (by omega)]
/-- how many lie below one -/
def rnk (ky : Nat → Int) (g : Nat → Nat) (n x : Nat) : Nat := cnt (fun m => decide (ky x < ky (g m))) n
theorem ins_end {ky : Nat → Int} {g r : Nat → Nat} {n : Nat} (h : insI ky g r n) {k : Nat} (hk : k < n) : (∃ j, j < n ∧ r k = g j) ∧ rnk ky g n (r k) = k := by
  obtain ⟨h1, h2, h3, _⟩ := h
  refine ⟨h1 k hk, ?_⟩
  unfold rnk
  rw [h3 (ky (r k))]
  refine cnt_seg (by omega) (fun q hq => decide_eq_true (h2 q k hq hk)) (fun q q1 q2 => decide_eq_false (fun c => ?_))
  rcases (by omega : q = k ∨ k < q) with e | e
  · subst e; exact Int.lt_irrefl _ c
  · exact Int.lt_irrefl _ (Int.lt_trans c (h2 k q e q2))
theorem rnk_lt {ky : Nat → Int} {g : Nat → Nat} {n j k : Nat} (hj : j < n) (h : ky (g k) < ky (g j)) : rnk ky g n (g j) < rnk ky g n (g k) := by
  unfold rnk
  exact cnt_slt (j := j) (fun m hm a => decide_eq_true (Int.lt_trans h (of_decide_eq_true a))) hj (decide_eq_false (Int.lt_irrefl _)) (decide_eq_true h)
theorem rnk_ne {ky : Nat → Int} {g : Nat → Nat} {n j k : Nat} (hj : j < n) (hk : k < n) (h : ¬ ky (g j) = ky (g k)) : ¬ rnk ky g n (g j) = rnk ky g n (g k) := fun e => by
  rcases (by omega : ky (g j) < ky (g k) ∨ ky (g k) < ky (g j)) with c | c
  · have := rnk_lt (n := n) hk c; omega
  · have := rnk_lt (n := n) hj c; omega
theorem rnk_bd {ky : Nat → Int} {g : Nat → Nat} {n j : Nat} (hj : j < n) : rnk ky g n (g j) < n := by
  unfold rnk
  have h := cnt_slt (f := fun m => decide (ky (g j) < ky (g m))) (g := fun _ => true) (j := j) (n := n) (fun _ _ _ => rfl) hj (decide_eq_false (Int.lt_irrefl _)) rfl
  have e := cnt_le (f := fun _ => true) (n := n)
  omega
theorem insI_1 {ky : Nat → Int} {g r : Nat → Nat} (h : r 0 = g 0) : insI ky g r 1 := by
  refine ⟨fun q hq => ⟨0, by omega, by rw [show q = 0 by omega]; exact h⟩, fun q q' a b => absurd a (by omega), fun c => ?_, fun w => ?_⟩
  · show 0 + (bif decide (c < ky (g 0)) then 1 else 0) = 0 + (bif decide (c < ky (r 0)) then 1 else 0)
    rw [h]
  · show 0 + w (g 0) = 0 + w (r 0)
    rw [h]
theorem insI_0 {ky : Nat → Int} {g r : Nat → Nat} : insI ky g r 0 := ⟨fun q hq => absurd hq (by omega), fun q q' a b => absurd b (by omega), fun _ => rfl, fun _ => rfl⟩
-- 62.zaz.47.z37
/-! a stack turned -/
def kyS (S : Tr) (x : Nat) : Int := 10 * (S 28 (S 30 x).toNatClampNeg).toInt + x
theorem ky_inj {S : Tr} {a c : Nat} (ha : a ≤ 9) (hc : c ≤ 9) (h : kyS S a = kyS S c) : a = c := by
  unfold kyS at h; omega
theorem i_eqv {x y : Int32} : (x = y) ↔ x.toInt = y.toInt := Int32.toInt_inj.symm
theorem e_gab {b : Nat} {P S : Tr} {x1 x2 : Int32} {a c : Nat} (hS : rI b S) (hK : pK P S) (ha : x1.toInt = a) (hc : x2.toInt = c) (la : (a : Int) < (S 0 14).toInt) (lc : (c : Int) < (S 0 14).toInt) : Ep (f_X6_goesAbove P x1 x2) (fun r => (r = 1 ∧ kyS S a < kyS S c) ∨ (r = 0 ∧ ¬ kyS S a < kyS S c)) := by
  have h14 : 0 ≤ (S 0 14).toInt ∧ (S 0 14).toInt ≤ 10 := hS.1 0 14
  have oa := own_lt hS a la
  have oc := own_lt hS c lc
  unfold f_X6_goesAbove
  rw [i_cn ha, i_cn hc, (hK.2.2.2.1 a la).1, (hK.2.2.2.1 c lc).1, (hK.2.2.1 _ oa).2.2.1, (hK.2.2.1 _ oc).2.2.1]
  refine Ep_ck (Ep_ck (Ep_lt (fun y3 e3 => Ep_ck (Ep_ck (Ep_lt (fun y6 e6 => ?_))))))
  unfold kyS
  rw [← e3, ← e6]
  refine Ep_ite (fun d => Ep_ite (fun f => Ep_some (Or.inr ⟨rfl, ?_⟩)) (fun f => Ep_some (Or.inl ⟨rfl, ?_⟩))) (fun d => Ep_ite (fun f => Ep_some (Or.inr ⟨rfl, ?_⟩)) (fun f => Ep_some (Or.inl ⟨rfl, ?_⟩)))
  · have := tq_le hc ha f
    rw [d]; omega
  · have := tq_len hc ha f
    rw [d]; omega
  · have f := Int32.le_iff_toInt_le.mp f
    have d : ¬ y3.toInt = y6.toInt := fun g => d (Int32.toInt_inj.mp g)
    omega
  · have f := tq_len (x := y6) (y := y3) rfl rfl f
    omega
theorem e_blw {b : Nat} {S : Tr} {x1 x2 : Int32} {a c : Nat} (ha : x1.toInt = a) (hc : x2.toInt = c) (l9 : a ≤ 9) (m9 : c ≤ 9) : Ep (f_X8_isBelow S x1 x2) (fun r => (r = 1 ∧ kyS S c < kyS S a) ∨ (r = 0 ∧ ¬ kyS S c < kyS S a)) := by
  unfold f_X8_isBelow
  rw [i_cn ha, i_cn hc]
  refine Ep_ck (Ep_ck (Ep_lt (fun y3 e3 => Ep_ck (Ep_ck (Ep_lt (fun y6 e6 => ?_))))))
  unfold kyS
  rw [← e3, ← e6]
  refine Ep_ite (fun d => Ep_some (Or.inl ⟨rfl, ?_⟩)) (fun d => Ep_ite (fun e => Ep_ite (fun f => Ep_some (Or.inr ⟨rfl, ?_⟩)) (fun f => Ep_some (Or.inl ⟨rfl, ?_⟩))) (fun e => Ep_some (Or.inr ⟨rfl, ?_⟩)))
  · have := Int32.lt_iff_toInt_lt.mp d
    omega
  · have := tq_le ha hc f
    rw [e]; omega
  · have := tq_len ha hc f
    rw [e]; omega
  · have d := tq_ltn (x := y6) (y := y3) rfl rfl d
    have e : ¬ y3.toInt = y6.toInt := fun g => e (Int32.toInt_inj.mp g)
    omega
/-- what lies in a place, as numbers -/
def gOf (T : Tr) (p k : Nat) : Nat := (T 16 (10 * p + k)).toInt.toNat
def chg (ky : Nat → Int) (g : Nat → Nat) (n : Nat) : Nat → Nat := cnt (fun k => decide (¬ rnk ky g n (g k) = k))
/-- a place whose pieces are known -/
def plc (b : Nat) (T S : Tr) (p n : Nat) : Prop := p < 5 ∧ n ≤ 10 ∧ (T 17 p).toInt = n ∧ (∀ k, k < n → 0 ≤ (T 16 (10 * p + k)).toInt ∧ (T 16 (10 * p + k)).toInt < (S 0 14).toInt) ∧ ∀ k l, k < n → l < n → T 16 (10 * p + k) = T 16 (10 * p + l) → k = l
theorem plc_g {b p n k : Nat} {T S : Tr} (h : plc b T S p n) (hk : k < n) : (T 16 (10 * p + k)).toInt = gOf T p k ∧ ((gOf T p k : Nat) : Int) < (S 0 14).toInt := by
  have := h.2.2.2.1 k hk
  unfold gOf
  omega
theorem e_tlv {b p n c : Nat} {P T S : Tr} {x1 x2 : Int32} (hS : rI b S) (hK : pK P S) (h : plc b T S p n) (hx : x1.toInt = p) (hc : x2.toInt = c) (lc : (c : Int) < (S 0 14).toInt) : Ep (f_X6_turnedLevel T P x1 x2) (fun r => r.toInt = (rnk (kyS S) (gOf T p) n c : Nat)) := by
  obtain ⟨p5, n10, h17, h16, hd⟩ := id h
  have lp : ∀ (N k : Nat) (x3 x4 : Int32), x4.toInt = k → k ≤ n → x3.toInt = (cnt (fun m => decide (kyS S c < kyS S (gOf T p m))) k : Nat) → Ep (lpF (fun _ _ => none) (fB_X6_turnedLevel_L5 T P x1 x2) N x3 x4) (fun r => r.toInt = (rnk (kyS S) (gOf T p) n c : Nat)) := by
    intro N
    induction N with
    | zero => intro k x3 x4 _ _ _; exact Ep_none
    | succ N ih =>
      intro k x3 x4 hx4 hk hx3
      show Ep (fB_X6_turnedLevel_L5 T P x1 x2 (lpF (fun _ _ => none) (fB_X6_turnedLevel_L5 T P x1 x2) N) x3 x4) _
      generalize lpF (fun _ _ => none) (fB_X6_turnedLevel_L5 T P x1 x2) N = kk at ih ⊢
      unfold fB_X6_turnedLevel_L5
      rw [i_cn hx]
      refine Ep_ck (Ep_ite (fun q => ?_) (fun q => Ep_ck ?_))
      · have := tq_le h17 hx4 q
        refine Ep_some ?_
        rw [hx3, show k = n by omega]; rfl
      · have lt := tq_len h17 hx4 q
        have hk2 : k < n := by omega
        have g := plc_g h hk2
        have le := cnt_le (f := fun m => decide (kyS S c < kyS S (gOf T p m))) (n := k)
        rw [(jy hx (by omega) hx4 (by omega)).1]
        refine Ep_bd (e_gab hS hK hc g.1 lc g.2) (fun r hr => ?_)
        have e1 := i_p1 hx4 (by omega)
        rcases hr with ⟨rfl, hr⟩ | ⟨rfl, hr⟩
        · rw [if_neg (by decide)]
          refine Ep_lt (fun y9 e9 => Ep_lt (fun y10 e10 => ih (k + 1) y9 y10 (by rw [e10]; exact e1) (by omega) ?_))
          show _ = ((cnt _ k + (bif decide (kyS S c < kyS S (gOf T p k)) then 1 else 0) : Nat) : Int)
          rw [e9, i_p1 hx3 (by omega), decide_eq_true hr]; rfl
        · rw [if_pos rfl]
          refine Ep_lt (fun y8 e8 => ih (k + 1) x3 y8 (by rw [e8]; exact e1) (by omega) ?_)
          show _ = ((cnt _ k + (bif decide (kyS S c < kyS S (gOf T p k)) then 1 else 0) : Nat) : Int)
          rw [hx3, decide_eq_false hr]; rfl
  unfold f_X6_turnedLevel fL_X6_turnedLevel_L5
  exact lp 2000 0 0 0 (by decide) (by omega) (by show (0 : Int32).toInt = ((0 : Nat) : Int); decide)
/-- while it is put in order: the first i -/
def oI (b : Nat) (S T0 T : Tr) (p n i : Nat) : Prop := insI (kyS S) (gOf T0 p) (gOf T p) i ∧ (∀ q, i ≤ q → q < n → T 16 (10 * p + q) = T0 16 (10 * p + q)) ∧ (∀ q, q < n → ∃ j, j < n ∧ T 16 (10 * p + q) = T0 16 (10 * p + j)) ∧ ∀ a j, ¬ (a = 16 ∧ 10 * p ≤ j ∧ j < 10 * p + n) → T a j = T0 a j
def toQ (b : Nat) (S T0 : Tr) (p n : Nat) (x3 : Int32) (q : Int32 × Tr) : Prop := q.1 = x3 ∧ oI b S T0 q.2 p n n
theorem e_ins1 {b p n i : Nat} {P S T0 : Tr} {k52 : Int32 → Tr → Option (Int32 × Tr)} {x1 x2 x3 x4 x5 : Int32} (hS : rI b S) (hK : pK P S) (h0 : plc b T0 S p n) (hi : x4.toInt = i) (hin : i < n) (hx2 : x2.toInt = ((10 * p : Nat) : Int)) (hx5 : x5 = T0 16 (10 * p + i)) {Ti : Tr} (hO : oI b S T0 Ti p n i) (hk : ∀ (y : Int32) (T : Tr), y.toInt = ((i + 1 : Nat) : Int) → oI b S T0 T p n (i + 1) → Ep (k52 y T) (toQ b S T0 p n x3)) (N : Nat) : ∀ (l : Nat) (x6 : Int32) (T : Tr), x6.toInt = l → l ≤ i → (∀ q, q < l → T 16 (10 * p + q) = Ti 16 (10 * p + q)) → (∀ q, l < q → q ≤ i → T 16 (10 * p + q) = Ti 16 (10 * p + (q - 1))) → (∀ q, l ≤ q → q < i → kyS S (gOf Ti p q) < kyS S (gOf T0 p i)) → (∀ a j, ¬ (a = 16 ∧ 10 * p ≤ j ∧ j ≤ 10 * p + i) → T a j = Ti a j) → Ep (lpF (fun _ _ => none) (fB_X6_turnOver_L78 k52 P x1 x2 x3 x4 x5) N x6 T) (toQ b S T0 p n x3) := by
  obtain ⟨p5, n10, h17, h16, hd⟩ := id h0
  have g5 := plc_g h0 hin
  induction N with
  | zero => intro l x6 T _ _ _ _ _ _; exact Ep_none
  | succ N ih =>
    intro l x6 T hl li t1 t2 t3 t4
    show Ep (fB_X6_turnOver_L78 k52 P x1 x2 x3 x4 x5 (lpF (fun _ _ => none) (fB_X6_turnOver_L78 k52 P x1 x2 x3 x4 x5) N) x6 T) _
    generalize lpF (fun _ _ => none) (fB_X6_turnOver_L78 k52 P x1 x2 x3 x4 x5) N = k78 at ih ⊢
    have idx : (x2 + x6).toNatClampNeg = 10 * p + l := jh hx2 hl (by omega)
    obtain ⟨o1, o2, o3, o4⟩ := id hO
    have fin : (∀ q, q < l → kyS S (gOf T0 p i) < kyS S (gOf Ti p q)) → Ep (fJ_X6_turnOver_J129 k52 P x1 x2 x3 x4 x5 x6 T) (toQ b S T0 p n x3) := fun u1 => by
      unfold fJ_X6_turnOver_J129
      refine Ep_ck (Ep_lt (fun T10 e10 => Ep_lt (fun y ey => hk y T10 (by rw [ey]; exact i_p1 hi (by omega)) ?_)))
      rw [idx, hx5] at e10
      have w : ∀ q, ¬ q = l → T10 16 (10 * p + q) = T 16 (10 * p + q) := fun q hq => by rw [e10, st_ne (by omega)]
      have wl : T10 16 (10 * p + l) = T0 16 (10 * p + i) := by rw [e10, st_same]
      refine ⟨ins_step o1 li (fun q hq => ?_) ?_ (fun q q1 q2 => ?_) u1 t3, fun q q1 q2 => ?_, fun q hq => ?_, fun a j n1 => ?_⟩
      · unfold gOf; rw [w q (by omega), t1 q hq]
      · unfold gOf; rw [wl]
      · unfold gOf; rw [w q (by omega), t2 q q1 q2]
      · rw [w q (by omega), t4 16 _ (by omega)]; exact o2 q (by omega) q2
      · rcases (by omega : q < l ∨ q = l ∨ (l < q ∧ q ≤ i) ∨ i < q) with g | g | g | g
        · obtain ⟨j, j1, j2⟩ := o3 q hq
          exact ⟨j, j1, by rw [w q (by omega), t1 q g]; exact j2⟩
        · subst g; exact ⟨i, hin, wl⟩
        · obtain ⟨j, j1, j2⟩ := o3 (q - 1) (by omega)
          exact ⟨j, j1, by rw [w q (by omega), t2 q g.1 g.2]; exact j2⟩
        · obtain ⟨j, j1, j2⟩ := o3 q hq
          exact ⟨j, j1, by rw [w q (by omega), t4 16 _ (by omega)]; exact j2⟩
      · rw [e10, st_no (by omega), t4 a j (by omega)]; exact o4 a j n1
    unfold fB_X6_turnOver_L78
    refine Ep_ite (fun c => ?_) (fun c => Ep_ck ?_)
    · have := tq_le hl (y := 0) (b := 0) (by decide) c
      exact fin (fun q hq => absurd hq (by omega))
    · have := tq_len hl (y := 0) (b := 0) (by decide) c
      obtain ⟨m, hm⟩ : ∃ m, l = m + 1 := ⟨l - 1, by omega⟩
      subst hm
      have idm : ((x2 + x6) - 1).toNatClampNeg = 10 * p + m := i_cn (by
        have e : (x2 + x6).toInt = ((10 * p : Nat) : Int) + ((m + 1 : Nat) : Int) := i_addK hx2 hl (by omega) (by omega)
        rw [i_subK e (y := 1) (by decide) (by omega) (by omega)]; omega)
      rw [idm, idx, t1 m (by omega)]
      obtain ⟨j, j1, j2⟩ := o1.1 m (by omega)
      obtain ⟨j', j1', j2'⟩ := o3 m (by omega)
      have gm : (Ti 16 (10 * p + m)).toInt = gOf Ti p m ∧ ((gOf Ti p m : Nat) : Int) < (S 0 14).toInt := by
        have := h16 j' j1'
        unfold gOf
        rw [j2']; omega
      refine Ep_bd (e_gab hS hK gm.1 (by rw [hx5]; exact g5.1) gm.2 g5.2) (fun r hr => ?_)
      rcases hr with ⟨rfl, hr⟩ | ⟨rfl, hr⟩
      · rw [if_neg (by decide)]
        refine Ep_ck (Ep_lt (fun T18 e18 => Ep_lt (fun y ey => ih m y T18 ?_ (by omega) (fun q hq => ?_) (fun q q1 q2 => ?_) (fun q q1 q2 => ?_) (fun a j n1 => ?_))))
        · rw [ey, i_addK hl (y := -1) (by decide) (by omega) (by omega)]; omega
        · rw [e18, st_ne (by omega)]; exact t1 q (by omega)
        · rcases (by omega : q = m + 1 ∨ m + 1 < q) with g | g
          · subst g; rw [e18, st_same, Nat.add_sub_cancel]
          · rw [e18, st_ne (by omega)]; exact t2 q g q2
        · rcases (by omega : q = m ∨ m + 1 ≤ q) with g | g
          · subst g; exact hr
          · exact t3 q g q2
        · rw [e18, st_no (by omega)]; exact t4 a j n1
      · rw [if_pos rfl]
        have h14 : 0 ≤ (S 0 14).toInt ∧ (S 0 14).toInt ≤ 10 := hS.1 0 14
        have ne : ¬ kyS S (gOf T0 p i) = kyS S (gOf Ti p m) := fun e => by
          have e2 := ky_inj (by omega) (by omega) e
          rw [j2] at e2
          have gj := plc_g h0 (k := j) (by omega)
          have := hd i j hin (by omega) (Int32.toInt_inj.mp (by rw [g5.1, gj.1, e2]))
          omega
        have top : kyS S (gOf T0 p i) < kyS S (gOf Ti p m) := by omega
        refine fin (fun q hq => ?_)
        rcases (by omega : q = m ∨ q < m) with g | g
        · subst g; exact top
        · exact Int.lt_trans top (o1.2.1 q m g (by omega))
theorem e_ins2 {b p n : Nat} {P S T0 : Tr} {x1 x2 x3 : Int32} (hS : rI b S) (hK : pK P S) (h0 : plc b T0 S p n) (hx1 : x1.toInt = p) (hx2 : x2.toInt = ((10 * p : Nat) : Int)) (N : Nat) : ∀ (i : Nat) (x4 : Int32) (T : Tr), x4.toInt = i → (i ≤ n ∨ n = 0) → oI b S T0 T p n (if n = 0 then 0 else i) → Ep (lpF (fun _ _ => none) (fB_X6_turnOver_L52 P x1 x2 x3) N x4 T) (toQ b S T0 p n x3) := by
  obtain ⟨p5, n10, h17, h16, hd⟩ := id h0
  induction N with
  | zero => intro i x4 T _ _ _; exact Ep_none
  | succ N ih =>
    intro i x4 T hi hin hO
    show Ep (fB_X6_turnOver_L52 P x1 x2 x3 (lpF (fun _ _ => none) (fB_X6_turnOver_L52 P x1 x2 x3) N) x4 T) _
    generalize lpF (fun _ _ => none) (fB_X6_turnOver_L52 P x1 x2 x3) N = k52 at ih ⊢
    have t17 : (T 17 p).toInt = n := by rw [hO.2.2.2 17 p (by omega)]; exact h17
    unfold fB_X6_turnOver_L52
    rw [i_cn hx1]
    refine Ep_ck (Ep_ite (fun c => Ep_some ⟨rfl, ?_⟩) (fun c => Ep_ck (Ep_lt (fun y7 e7 => ?_))))
    · have := tq_le t17 hi c
      by_cases g : n = 0
      · rw [if_pos g] at hO; subst g; exact hO
      · rw [if_neg g, show i = n by omega] at hO; exact hO
    · have lt := tq_len t17 hi c
      have n0 : ¬ n = 0 := by omega
      rw [if_neg n0] at hO
      rw [jh hx2 hi (by omega), hO.2.1 i (Nat.le_refl _) (by omega)] at e7
      unfold fL_X6_turnOver_L78
      exact e_ins1 hS hK h0 hi (by omega) hx2 e7 hO (fun y T1 hy hT => ih (i + 1) y T1 hy (Or.inl (by omega)) (by rw [if_neg n0]; exact hT)) 2000 i x4 T hi (Nat.le_refl _) (fun _ _ => rfl) (fun q a b => absurd b (by omega)) (fun q a b => absurd b (by omega)) (fun _ _ _ => rfl)
theorem e_tov {b p n : Nat} {P T S : Tr} {x1 : Int32} (hS : rI b S) (hK : pK P S) (h : plc b T S p n) (hx : x1.toInt = p) : Ep (f_X6_turnOver T P x1) (fun q => q.1.toInt = (chg (kyS S) (gOf T p) n n : Nat) ∧ oI b S T q.2 p n n) := by
  obtain ⟨p5, n10, h17, h16, hd⟩ := id h
  have o1 : oI b S T T p n (if n = 0 then 0 else 1) := by
    refine ⟨?_, fun _ _ _ => rfl, fun q hq => ⟨q, hq, rfl⟩, fun _ _ _ => rfl⟩
    by_cases g : n = 0
    · rw [if_pos g]; exact insI_0
    · rw [if_neg g]; exact insI_1 rfl
  unfold f_X6_turnOver
  refine Ep_lt (fun y1 e1 => ?_)
  have hy : y1.toInt = ((10 * p : Nat) : Int) := by rw [e1, i_mulR (b := (10 : Int32)) 10 (by decide) (by omega) (by omega), hx]; omega
  have lp : ∀ (N k : Nat) (x3 x4 : Int32), x4.toInt = k → k ≤ n → x3.toInt = (chg (kyS S) (gOf T p) n k : Nat) → Ep (lpF (fun _ _ => none) (fB_X6_turnOver_L10 T P x1 y1) N x3 x4) (fun q => q.1.toInt = (chg (kyS S) (gOf T p) n n : Nat) ∧ oI b S T q.2 p n n) := by
    intro N
    induction N with
    | zero => intro k x3 x4 _ _ _; exact Ep_none
    | succ N ih =>
      intro k x3 x4 hx4 hk hx3
      show Ep (fB_X6_turnOver_L10 T P x1 y1 (lpF (fun _ _ => none) (fB_X6_turnOver_L10 T P x1 y1) N) x3 x4) _
      generalize lpF (fun _ _ => none) (fB_X6_turnOver_L10 T P x1 y1) N = kk at ih ⊢
      unfold fB_X6_turnOver_L10
      rw [i_cn hx]
      refine Ep_ck (Ep_ite (fun q => ?_) (fun q => Ep_ck ?_))
      · have := tq_le h17 hx4 q
        unfold fL_X6_turnOver_L52
        refine Ep_mono (e_ins2 hS hK h hx hy 2000 1 1 T (by decide) (by omega) o1) (fun r hr => ⟨?_, hr.2⟩)
        rw [hr.1, hx3, show k = n by omega]
      · have lt := tq_len h17 hx4 q
        have g := plc_g h (k := k) (by omega)
        have le := cnt_le (f := fun k => decide (¬ rnk (kyS S) (gOf T p) n (gOf T p k) = k)) (n := k)
        rw [jh hy hx4 (by omega)]
        refine Ep_bd (e_tlv hS hK h hx g.1 g.2) (fun r hr => ?_)
        have e1 := i_p1 hx4 (by omega)
        refine Ep_ite (fun c => Ep_lt (fun y25 e25 => ih (k + 1) x3 y25 (by rw [e25]; exact e1) (by omega) ?_)) (fun c => Ep_lt (fun y26 e26 => Ep_lt (fun y27 e27 => ih (k + 1) y26 y27 (by rw [e27]; exact e1) (by omega) ?_)))
        · have : rnk (kyS S) (gOf T p) n (gOf T p k) = k := by rw [c, hx4] at hr; omega
          show _ = ((cnt _ k + (bif decide (¬ rnk (kyS S) (gOf T p) n (gOf T p k) = k) then 1 else 0) : Nat) : Int)
          rw [hx3, decide_eq_false (fun q => q this)]; rfl
        · have : ¬ rnk (kyS S) (gOf T p) n (gOf T p k) = k := fun e => c (Int32.toInt_inj.mp (by rw [hr, e, hx4]))
          show _ = ((cnt _ k + (bif decide (¬ rnk (kyS S) (gOf T p) n (gOf T p k) = k) then 1 else 0) : Nat) : Int)
          rw [e26, i_p1 hx3 (by unfold chg; omega), decide_eq_true this]; rfl
  unfold fL_X6_turnOver_L10
  exact lp 2000 0 0 0 (by decide) (by omega) (by show (0 : Int32).toInt = ((0 : Nat) : Int); decide)
-- 62.zaz.48.z38
/-! turned by the reference -/
def tsQ (b : Nat) (T S : Tr) (p n : Nat) (q : Int32 × Tr) : Prop := q.1.toInt = (chg (kyS S) (gOf T p) n n : Nat) ∧ (∀ j, j < n → q.2 55 (50 * b + 10 * p + rnk (kyS S) (gOf T p) n (gOf T p j)) = T 16 (10 * p + j)) ∧ ∀ a j, ¬ (a = 55 ∧ 50 * b + 10 * p ≤ j ∧ j < 50 * b + 10 * p + n) → a ≠ 74 → q.2 a j = S a j
theorem e_t113 {b p n : Nat} {T S S1 : Tr} {xb x2 x3 x4 : Int32} (hb : xb.toNatClampNeg = b) (hxb : 0 ≤ xb.toInt ∧ xb.toInt ≤ 1) (hx2 : x2.toInt = p) (p5 : p < 5) (n10 : n ≤ 10) (hx3 : x3.toInt = n) (hx4 : x4.toInt = (chg (kyS S) (gOf T p) n n : Nat)) (h74 : ∀ j, j < n → S1 74 (rnk (kyS S) (gOf T p) n (gOf T p j)) = T 16 (10 * p + j)) (hf : ∀ a j, a ≠ 74 → S1 a j = S a j) (N : Nat) : ∀ (k : Nat) (x5 : Int32) (S2 : Tr), x5.toInt = k → k ≤ n → (∀ j, j < k → S2 55 (50 * b + 10 * p + j) = S1 74 j) → (∀ a j, ¬ (a = 55 ∧ 50 * b + 10 * p ≤ j ∧ j < 50 * b + 10 * p + k) → S2 a j = S1 a j) → Ep (lpF (fun _ _ => none) (fB_X8_turns_L113 xb x2 x3 x4) N x5 S2) (tsQ b T S p n) := by
  induction N with
  | zero => intro k x5 S2 _ _ _ _; exact Ep_none
  | succ N ih =>
    intro k x5 S2 hx5 hk h1 h2
    show Ep (fB_X8_turns_L113 xb x2 x3 x4 (lpF (fun _ _ => none) (fB_X8_turns_L113 xb x2 x3 x4) N) x5 S2) _
    generalize lpF (fun _ _ => none) (fB_X8_turns_L113 xb x2 x3 x4) N = kk at ih ⊢
    unfold fB_X8_turns_L113
    refine Ep_ite (fun c => ?_) (fun c => Ep_ck (Ep_ck (Ep_lt (fun S7 e7 => Ep_lt (fun y ey => ?_)))))
    · have := tq_le hx3 hx5 c
      have e : k = n := by omega
      subst e
      refine Ep_some ⟨hx4, fun j hj => ?_, fun a j n1 n2 => (h2 a j n1).trans (hf a j n2)⟩
      have r := rnk_bd (ky := kyS S) (g := gOf T p) (n := k) hj
      exact (h1 _ r).trans (h74 j hj)
    · have lt := tq_len hx3 hx5 c
      have idx : ((((50 : Int32) * xb) + ((10 : Int32) * x2)) + x5).toNatClampNeg = 50 * b + 10 * p + k := by rw [jx3 hxb hx2 (by omega) hx5 (by omega), hb]
      rw [idx, i_cn hx5, h2 74 k (by omega)] at e7
      refine ih (k + 1) y S7 (by rw [ey]; exact i_p1 hx5 (by omega)) (by omega) (fun j hj => ?_) (fun a j n1 => ?_)
      · rcases (by omega : j < k ∨ j = k) with g | rfl
        · rw [e7, st_ne (by omega)]; exact h1 j g
        · rw [e7, st_same]
      · rw [e7, st_no (by omega)]; exact h2 a j (by omega)
theorem e_trs {b p n : Nat} {T S : Tr} {xb x2 : Int32} (hS : rI b S) (hb : xb.toNatClampNeg = b) (hxb : 0 ≤ xb.toInt ∧ xb.toInt ≤ 1) (h : plc b T S p n) (hx2 : x2.toInt = p) (h56 : S 56 (5 * b + p) = T 17 p) (h55 : ∀ k, k < n → S 55 (50 * b + 10 * p + k) = T 16 (10 * p + k)) : Ep (f_X8_turns S xb x2) (tsQ b T S p n) := by
  obtain ⟨p5, n10, h17, h16, hd⟩ := id h
  have h14 : 0 ≤ (S 0 14).toInt ∧ (S 0 14).toInt ≤ 10 := hS.1 0 14
  have j5 : (((5 : Int32) * xb) + x2).toNatClampNeg = 5 * b + p := by rw [jx 5 (by decide) (by omega) hxb hx2 (by omega), hb]
  unfold f_X8_turns
  rw [j5, h56]
  refine Ep_ck (Ep_lt (fun y2 e2 => ?_))
  have hy : y2.toInt = n := by rw [e2]; exact h17
  have lp : ∀ (N k : Nat) (x4 x5 : Int32) (S1 : Tr), x5.toInt = k → k ≤ n → x4.toInt = (chg (kyS S) (gOf T p) n k : Nat) → (∀ j, j < k → S1 74 (rnk (kyS S) (gOf T p) n (gOf T p j)) = T 16 (10 * p + j)) → (∀ a j, a ≠ 74 → S1 a j = S a j) → Ep (lpF (fun _ _ _ => none) (fB_X8_turns_L17 xb x2 y2) N x4 x5 S1) (tsQ b T S p n) := by
    intro N
    induction N with
    | zero => intro k x4 x5 S1 _ _ _ _ _; exact Ep_none
    | succ N ih =>
      intro k x4 x5 S1 hx5 hk hx4 h74 hf
      show Ep (fB_X8_turns_L17 xb x2 y2 (lpF (fun _ _ _ => none) (fB_X8_turns_L17 xb x2 y2) N) x4 x5 S1) _
      generalize lpF (fun _ _ _ => none) (fB_X8_turns_L17 xb x2 y2) N = k17 at ih ⊢
      have ky1 : ∀ x, kyS S1 x = kyS S x := fun x => by unfold kyS; rw [hf 30 x (by omega), hf 28 _ (by omega)]
      unfold fB_X8_turns_L17
      refine Ep_ite (fun c => ?_) (fun c => ?_)
      · have := tq_le hy hx5 c
        have e : k = n := by omega
        subst e
        unfold fL_X8_turns_L113
        exact e_t113 hb hxb hx2 p5 n10 hy hx4 h74 hf 2000 0 0 S1 (by decide) (by omega) (fun j hj => absurd hj (by omega)) (fun _ _ _ => rfl)
      · have lt := tq_len hy hx5 c
        have g := plc_g h (k := k) (by omega)
        refine Ep_bd (e_sat (b := b) (p := p) (k := k) (S := S1) hb hxb hx2 (by omega) hx5 (by omega)) (fun r9 h9 => ?_)
        rw [hf 55 _ (by omega), h55 k (by omega)] at h9
        have r9i : r9.toInt = gOf T p k := by rw [h9]; exact g.1
        have l39 : ∀ (M m : Nat) (x7 x8 : Int32), x8.toInt = m → m ≤ n → x7.toInt = (cnt (fun q => decide (kyS S (gOf T p k) < kyS S (gOf T p q))) m : Nat) → Ep (lpF (fun _ _ => none) (fB_X8_turns_L39 k17 S1 xb x2 y2 x4 x5 r9) M x7 x8) (tsQ b T S p n) := by
          intro M
          induction M with
          | zero => intro m x7 x8 _ _ _; exact Ep_none
          | succ M ihm =>
            intro m x7 x8 hx8 hm hx7
            show Ep (fB_X8_turns_L39 k17 S1 xb x2 y2 x4 x5 r9 (lpF (fun _ _ => none) (fB_X8_turns_L39 k17 S1 xb x2 y2 x4 x5 r9) M) x7 x8) _
            generalize lpF (fun _ _ => none) (fB_X8_turns_L39 k17 S1 xb x2 y2 x4 x5 r9) M = k39 at ihm ⊢
            have le := cnt_le (f := fun q => decide (kyS S (gOf T p k) < kyS S (gOf T p q))) (n := m)
            have ec := cnt_le (f := fun k => decide (¬ rnk (kyS S) (gOf T p) n (gOf T p k) = k)) (n := k)
            unfold fB_X8_turns_L39
            refine Ep_ite (fun d => ?_) (fun d => ?_)
            · have := tq_le hy hx8 d
              have e : m = n := by omega
              subst e
              have hx7 : x7.toInt = (rnk (kyS S) (gOf T p) m (gOf T p k) : Nat) := hx7
              have rb := rnk_bd (ky := kyS S) (g := gOf T p) (n := m) (j := k) (by omega)
              unfold fJ_X8_turns_J78
              refine Ep_ck (Ep_lt (fun S14 e14 => ?_))
              rw [i_cn hx7] at e14
              have f14 : ∀ a j, a ≠ 74 → S14 a j = S a j := fun a j ha => by rw [e14, st_oth ha]; exact hf a j ha
              have t14 : ∀ j, j < k + 1 → S14 74 (rnk (kyS S) (gOf T p) m (gOf T p j)) = T 16 (10 * p + j) := fun j hj => by
                rcases (by omega : j < k ∨ j = k) with g2 | g2
                · have gj := plc_g h (k := j) (by omega)
                  have ne : ¬ rnk (kyS S) (gOf T p) m (gOf T p j) = rnk (kyS S) (gOf T p) m (gOf T p k) := rnk_ne (by omega) (by omega) (fun e => by
                    have e2 := ky_inj (by omega) (by omega) e
                    have := hd j k (by omega) (by omega) (Int32.toInt_inj.mp (by rw [gj.1, g.1, e2]))
                    omega)
                  rw [e14, st_ne ne]; exact h74 j g2
                · subst g2; rw [e14, st_same, h9]
              have e1 := i_p1 hx5 (by omega)
              refine Ep_ite (fun q => Ep_lt (fun y18 e18 => Ep_lt (fun y19 e19 => ih (k + 1) y18 y19 S14 (by rw [e19]; exact e1) (by omega) ?_ t14 f14))) (fun q => Ep_lt (fun y16 e16 => Ep_lt (fun y17 e17 => ih (k + 1) y16 y17 S14 (by rw [e17]; exact e1) (by omega) ?_ t14 f14)))
              · have : rnk (kyS S) (gOf T p) m (gOf T p k) = k := by rw [q, hx5] at hx7; omega
                show _ = ((cnt _ k + (bif decide (¬ rnk (kyS S) (gOf T p) m (gOf T p k) = k) then 1 else 0) : Nat) : Int)
                rw [e18, Int32.add_zero, hx4, decide_eq_false (fun q => q this)]; rfl
              · have : ¬ rnk (kyS S) (gOf T p) m (gOf T p k) = k := fun e => q (Int32.toInt_inj.mp (by rw [hx7, e, hx5]))
                show _ = ((cnt _ k + (bif decide (¬ rnk (kyS S) (gOf T p) m (gOf T p k) = k) then 1 else 0) : Nat) : Int)
                rw [e16, i_p1 hx4 (by unfold chg; omega), decide_eq_true this]; rfl
            · have lt2 := tq_len hy hx8 d
              have gm := plc_g h (k := m) (by omega)
              refine Ep_bd (e_sat (b := b) (p := p) (k := m) (S := S1) hb hxb hx2 (by omega) hx8 (by omega)) (fun r20 h20 => ?_)
              rw [hf 55 _ (by omega), h55 m (by omega)] at h20
              have r20i : r20.toInt = gOf T p m := by rw [h20]; exact gm.1
              refine Ep_bd (e_blw (b := b) (S := S1) r20i r9i (by omega) (by omega)) (fun r hr => ?_)
              rw [ky1, ky1] at hr
              have e1 := i_p1 hx8 (by omega)
              rcases hr with ⟨rfl, hr⟩ | ⟨rfl, hr⟩
              · rw [if_neg (by decide)]
                refine Ep_lt (fun y29 e29 => Ep_lt (fun y30 e30 => ihm (m + 1) y29 y30 (by rw [e30]; exact e1) (by omega) ?_))
                show _ = ((cnt _ m + (bif decide (kyS S (gOf T p k) < kyS S (gOf T p m)) then 1 else 0) : Nat) : Int)
                rw [e29, i_p1 hx7 (by omega), decide_eq_true hr]; rfl
              · rw [if_pos rfl]
                refine Ep_lt (fun y27 e27 => Ep_lt (fun y28 e28 => ihm (m + 1) y27 y28 (by rw [e28]; exact e1) (by omega) ?_))
                show _ = ((cnt _ m + (bif decide (kyS S (gOf T p k) < kyS S (gOf T p m)) then 1 else 0) : Nat) : Int)
                rw [e27, Int32.add_zero, hx7, decide_eq_false hr]; rfl
        unfold fL_X8_turns_L39
        exact l39 2000 0 0 0 (by decide) (by omega) (by show (0 : Int32).toInt = ((0 : Nat) : Int); decide)
  unfold fL_X8_turns_L17
  exact lp 2000 0 0 0 S (by decide) (by omega) (by show (0 : Int32).toInt = ((0 : Nat) : Int); decide) (fun j hj => absurd hj (by omega)) (fun _ _ _ => rfl)
/-- a place of both is known -/
theorem plc_of {b p : Nat} {P T S : Tr} (hS : rI b S) (hk : stk b P T S) (hp : p < 5) : ∃ n, plc b T S p n ∧ S 56 (5 * b + p) = T 17 p ∧ ∀ k, k < n → S 55 (50 * b + 10 * p + k) = T 16 (10 * p + k) := by
  obtain ⟨k1, k2, k3⟩ := hk p hp
  have b56 := BM56 hS.1 (5 * b + p)
  obtain ⟨n, hn⟩ : ∃ n : Nat, (S 56 (5 * b + p)).toInt = n := ⟨(S 56 (5 * b + p)).toInt.toNat, by omega⟩
  refine ⟨n, ⟨hp, by omega, by rw [k1]; exact hn, fun k hk => ?_, fun k l hk hl e => ?_⟩, k1.symm, fun k hk => (k2 k (by omega)).symm⟩
  · obtain ⟨i, i1, i2, i3, _⟩ := sk_at (k := k) hS.1 hS.2.2.1 hp (by omega)
    rw [k2 k (by omega), i2]
    exact ⟨by omega, i3⟩
  · rw [k2 k (by omega), k2 l (by omega)] at e
    exact hS.2.2.1.2.2 p k l hp (by show (k : Int) < (S 56 (5 * b + p)).toInt; omega) (by show (l : Int) < (S 56 (5 * b + p)).toInt; omega) (by show (S 55 (50 * b + 10 * p + k)).toInt = (S 55 (50 * b + 10 * p + l)).toInt; rw [e])
/-- a stack turned by both -/
def tnQ (b : Nat) (P T S : Tr) (p : Nat) (q q' : Int32 × Tr) : Prop := q.1 = q'.1 ∧ 0 ≤ q.1.toInt ∧ stk b P q.2 q'.2 ∧ (∀ a j, ¬ (a = 16) → q.2 a j = T a j) ∧ (∀ a j, a ≠ 55 → a ≠ 74 → q'.2 a j = S a j) ∧ (∀ j, ¬ (50 * b + 10 * p ≤ j ∧ j < 50 * b + 10 * p + 10) → q'.2 55 j = S 55 j) ∧ ∀ j, ¬ (10 * p ≤ j ∧ j < 10 * p + 10) → q.2 16 j = T 16 j
theorem e_trn {b p : Nat} {P T S : Tr} {xb x1 : Int32} (hS : rI b S) (hK : pK P S) (hk : stk b P T S) (hb : xb.toNatClampNeg = b) (hxb : 0 ≤ xb.toInt ∧ xb.toInt ≤ 1) (hx : x1.toInt = p) (hp : p < 5) : E2 (f_X6_turnOver T P x1) (f_X8_turns S xb x1) (tnQ b P T S p) := by
  obtain ⟨n, hpl, h56, h55⟩ := plc_of hS hk hp
  obtain ⟨p5, n10, h17, h16, hd⟩ := id hpl
  refine E2_ep (e_tov hS hK hpl hx) (e_trs hS hb hxb hpl hx h56 h55) (fun q q' hq hq' => ?_)
  obtain ⟨q1, o1, o2, o3, o4⟩ := hq
  obtain ⟨r1, r2, r3⟩ := hq'
  have lev : ∀ k, k < n → q.2 16 (10 * p + k) = q'.2 55 (50 * b + 10 * p + k) := fun k hk => by
    obtain ⟨⟨j, j1, j2⟩, rk⟩ := ins_end o1 hk
    obtain ⟨j', j1', j2'⟩ := o3 k hk
    have gj := plc_g hpl j1
    have := h16 j' j1'
    have e : (q.2 16 (10 * p + k)).toInt = gOf T p j := by
      rw [← j2]; unfold gOf; rw [j2']; omega
    have r := r2 j j1
    rw [← j2, rk] at r
    rw [r]
    exact Int32.toInt_inj.mp (by rw [e, gj.1])
  refine ⟨Int32.toInt_inj.mp (by rw [q1, r1]), by rw [q1]; omega, fun p' hp' => ?_, fun a j n1 => o4 a j (by omega), fun a j n1 n2 => r3 a j (by omega) n2, fun j n1 => r3 55 j (by omega) (by omega), fun j n1 => o4 16 j (by omega)⟩
  obtain ⟨k1, k2, k3⟩ := hk p' hp'
  have f56 : q'.2 56 (5 * b + p') = S 56 (5 * b + p') := r3 56 _ (by omega) (by omega)
  have f17 : q.2 17 p' = T 17 p' := o4 17 p' (by omega)
  have f18 : q.2 18 p' = T 18 p' := o4 18 p' (by omega)
  have b56 := BM56 hS.1 (5 * b + p')
  by_cases g : p' = p
  · subst g
    refine ⟨by rw [f17, f56]; exact k1, fun k hk2 => ?_, ?_⟩
    · rw [f56, h56, h17] at hk2
      exact lev k (by omega)
    · rw [f18, f17, k3]
      have en : (T 17 p').toNatClampNeg = n := i_cn h17
      rw [en]
      have w := o1.2.2.2 (fun x => P 15 x)
      refine Eq.trans (wsm_cg (fun k hk2 => ?_)) (w.trans (wsm_cg (fun k hk2 => ?_)))
      · show P 15 (T 16 (10 * p' + k)).toNatClampNeg = P 15 (gOf T p' k)
        rfl
      · show P 15 (gOf q.2 p' k) = P 15 (q.2 16 (10 * p' + k)).toNatClampNeg
        rfl
  · refine ⟨by rw [f17, f56]; exact k1, fun k hk2 => ?_, ?_⟩
    · rw [f56] at hk2
      rw [o4 16 _ (by omega), r3 55 _ (by omega) (by omega)]
      exact k2 k hk2
    · rw [f18, f17, k3]
      refine wsm_cg (fun k hk2 => ?_)
      rw [k1, i_cl] at hk2
      unfold wgt
      rw [o4 16 _ (by omega)]
-- 62.zaz.49.z39
/-! turned by call -/
theorem cnt_e0 {f : Nat → Bool} : ∀ {n : Nat}, cnt f n = 0 → ∀ k, k < n → f k = false
  | 0, _, k, hk => absurd hk (by omega)
  | n + 1, h, k, hk => by
    have h : cnt f n + (bif f n then 1 else 0) = 0 := h
    by_cases c : k = n
    · subst c
      cases e : f k with
      | false => rfl
      | true =>
        rw [e] at h
        have : (bif true then (1 : Nat) else 0) = 1 := rfl
        omega
    · exact cnt_e0 (n := n) (by omega) k (by omega)
/-- none changed: all as it was -/
theorem tov_0 {b p n : Nat} {S T T1 : Tr} (hS : rI b S) (hpl : plc b T S p n) (o : oI b S T T1 p n n) (h0 : chg (kyS S) (gOf T p) n n = 0) : T1 = T := by
  obtain ⟨o1, o2, o3, o4⟩ := o
  have z := cnt_e0 h0
  funext a j
  by_cases c : a = 16 ∧ 10 * p ≤ j ∧ j < 10 * p + n
  · obtain ⟨rfl, c1, c2⟩ := c
    obtain ⟨k, rfl⟩ : ∃ k, j = 10 * p + k := ⟨j - 10 * p, by omega⟩
    have hk : k < n := by omega
    obtain ⟨⟨i, i1, i2⟩, rk⟩ := ins_end o1 hk
    have zi : rnk (kyS S) (gOf T p) n (gOf T p i) = i := Decidable.byContradiction (fun q => by have := of_decide_eq_false (z i i1); exact this q)
    rw [i2, zi] at rk
    subst rk
    obtain ⟨j', j1', j2'⟩ := o3 i hk
    have := hpl.2.2.2.1 j' j1'
    have gi := plc_g hpl hk
    refine Int32.toInt_inj.mp ?_
    have e : (T1 16 (10 * p + i)).toInt = gOf T1 p i := by unfold gOf; rw [j2']; omega
    rw [e, i2, gi.1]
  · exact o4 a j c
def tuQ (P : Tr) (L : Lo) (q : Int32 × Tr × Tr × Tr × Nat) (q' : Int32 × Tr) : Prop := q.1 = q'.1 ∧ Nw P q.2.1 q'.2 L ∧ uR P q.2.2.2.1 q'.2
theorem e_X7turn {P Tn Tv C S : Tr} {L : Lo} {pa qa : Nat → Nat} {q0 q3 q4 : Nat} {x1 : Int32} (h : Nw P Tn S L) (hu : uR P C S) (hj : jR S) : E2 (f_X7_turn pa qa P Tn Tv C q0 q3 q4 x1) (f_X8_turn S x1) (tuQ P L) := by
  have hD := D_to (R_turn S x1 hj)
  intro u v eu ev
  have jv := (hD v ev).1
  have main : jR v.2 → E2 (f_X7_turn pa qa P Tn Tv C q0 q3 q4 x1) (f_X8_turn S x1) (fun q q' => q' = v → tuQ P L q q') := fun jv => by
    unfold f_X7_turn f_X8_turn
    refine E2_ltr (fun S1 e1 => ?_)
    have hN : Nw P Tn S1 L := by rw [e1]; exact Nw_2 h
    have hU : uR P C S1 := by rw [e1]; exact uR_2 hu
    have hj1 : jR S1 := by rw [e1]; exact jR_thr hj
    obtain ⟨hS, hpI, hg⟩ := hN.1
    have b12 : 0 ≤ (S1 0 12).toInt ∧ (S1 0 12).toInt ≤ 5 := hS 0 12
    refine E2_bd (e_isPl hN.2.1.1.1) (fun r r' hr => ?_)
    obtain ⟨rfl, hr⟩ := hr
    refine E2_it Iff.rfl (fun _ _ => E2_some (fun _ => ⟨rfl, hN, hU⟩)) (fun n _ => ?_)
    obtain ⟨_, z0, z12⟩ := hr.resolve_left n
    obtain ⟨p, hp⟩ : ∃ p : Nat, x1.toInt = p := ⟨x1.toInt.toNat, by omega⟩
    refine E2_bl (e_cpA Tv Tn q3 q0) (fun qv hv => E2_ltl (fun Tv5 ev5 => E2_ltl (fun n6 _ => E2_ckl (fun _ => ?_))))
    rw [← ev5] at hv
    refine E2_br (Ep_and (e_layT S1) (D_to (t_X8_layTried S1 hS hg hpI))) (fun S6 h6 => ?_)
    obtain ⟨⟨hc6, hp6, hf6⟩, r1, rg, r2, r3, _⟩ := h6
    have rI6 : rI 1 S6 := ⟨r1, r3, r2⟩
    have g6 : ∀ a j, a ≤ 52 → ¬ (a = 0 ∧ 64 ≤ j) → S6 a j = S1 a j := fun a j h n => hf6 a j (by omega) (by omega) (by omega) (by omega) (by omega) (by omega) (by omega)
    have hK6 : pK P S6 := pK_o hN.2.1 (fun j h1 h2 => g6 0 j (by omega) (by omega)) (fun a j h1 h2 => g6 a j (by omega) (by omega))
    have cpr : cpA Tn Tn Tn := ⟨fun _ _ => rfl, fun _ _ => ⟨rfl, rfl, rfl, rfl⟩, fun _ _ => ⟨rfl, rfl, rfl⟩, fun _ _ => rfl, fun _ _ => ⟨rfl, rfl⟩, fun _ _ => rfl⟩
    have d6 : dyn 1 P Tn S6 := dyn_cp hS hN.2.2.1 cpr hc6 hf6
    obtain ⟨m, hpl, h56, h55⟩ := plc_of rI6 d6.2.2.2.2 (p := p) (by omega)
    have trn6 := e_trn (xb := 1) rI6 hK6 d6.2.2.2.2 (by decide) (by decide) hp (by omega)
    have tov6 := e_tov rI6 hK6 hpl hp
    have dT := D_to (t_X8_turns S6 1 x1 r1 (by rw [show (1 : Int32).toNatClampNeg = 1 by decide]; exact r2) (by decide) ⟨by omega, by omega⟩)
    -- the class's turn of the train that is now, the reference's of the trial
    intro u' v' eu' ev'
    obtain ⟨qc, hqc, eu'⟩ := tx_bd eu'
    obtain ⟨qr, hqr, ev'⟩ := tx_bd ev'
    have t6 := trn6 qc qr hqc hqr
    have o6 := tov6 qc hqc
    have d10 := dT qr hqr
    rw [show (1 : Int32).toNatClampNeg = 1 by decide] at d10
    obtain ⟨q1, q2, q3', q4', q5', q6', q7'⟩ := t6
    obtain ⟨S10, hS10⟩ : ∃ S10, S10 = qr.2 := ⟨_, rfl⟩
    have h0c10 : ∀ a j, h0c a j → S10 a j = S1 a j := fun a j hc => by
      have hc2 := hc
      unfold h0c at hc2
      rw [hS10]
      by_cases g : a = 55
      · subst g
        rw [q6' j (by omega)]
        exact hf6 55 j (by omega) (by omega) (by omega) (by omega) (by omega) (by omega) (by omega)
      · rw [q5' a j g (by omega)]
        exact hf6 a j (by omega) (by omega) (by omega) (by omega) (by omega) (by omega) (by omega)
    have aG10 : aG 1 S1 S10 := by rw [hS10]; exact aG_tr rg d10.2.2.1
    have B10 : iR BM S10 := by rw [hS10]; exact d10.1
    have hj10 : jR S10 := jR_1 hj1 B10 aG10
    have s65 : S10 0 65 = 0 := by rw [hS10, q5' 0 65 (by omega) (by omega)]; exact hp6.2.1 65 (by omega) (by omega)
    have N10 : Nw P Tn S10 L := Nw_of hN ⟨hj10.1, hj10.2.1, hj10.2.2.1⟩ h0c10 s65 rfl
    have z84 : ∀ j, S10 84 j = S1 84 j := fun j => by
      rw [hS10, q5' 84 j (by omega) (by omega)]
      exact hf6 84 j (by omega) (by omega) (by omega) (by omega) (by omega) (by omega) (by omega)
    have z82 : S10 0 82 = S1 0 82 := by
      rw [hS10, q5' 0 82 (by omega) (by omega)]
      exact hf6 0 82 (by omega) (by omega) (by omega) (by omega) (by omega) (by omega) (by omega)
    have U10 : uR P C S10 := uR_o hU z82 (fun j a1 a2 => h0c10 0 j (Or.inl ⟨rfl, a1, by omega⟩)) z84
    have eu' : (if qc.1 ≤ 0 then (some (qc.1, qc.2, Tv5, C, n6)) else (bd (f_X0_save_x_va0 pa qa Tv5 C) fun C_15 => some (qc.1, qc.2, Tv5, C_15, n6))) = some u' := eu'
    have ev' : (if qr.1 = 0 then (some (0, S10)) else (bd (f_X8_remember S10) fun S_14 => bd (f_X8_turns S_14 (0 : Int32) x1) fun q => lt q.1 fun r17 => lt q.2 fun S_18 => some (r17, S_18))) = some v' := by rw [hS10]; exact ev'
    by_cases c : qr.1 = 0
    · rw [if_pos c] at ev'
      rw [q1, c, if_pos (by decide)] at eu'
      have ev' := tx_1 ev'
      have eu' := tx_1 eu'
      rw [← eu', ← ev']
      have z : chg (kyS S6) (gOf Tn p) m m = 0 := by
        have := o6.1
        rw [q1, c, show (0 : Int32).toInt = 0 by decide] at this
        omega
      have eT := tov_0 rI6 hpl o6.2 z
      intro _
      exact ⟨rfl, by show Nw P qc.2 S10 L; rw [eT]; exact N10, U10⟩
    · rw [if_neg c] at ev'
      rw [if_neg (fun g => c (by
        have := tq_le (x := qc.1) (y := 0) (b := 0) rfl (by decide) g
        rw [← q1]
        exact Int32.toInt_inj.mp (by rw [show (0 : Int32).toInt = 0 by decide]; omega)))] at eu'
      obtain ⟨C15, hC, eu'⟩ := tx_bd eu'
      obtain ⟨S14, hS14, ev'⟩ := tx_bd ev'
      obtain ⟨q18, hq18, ev'⟩ := tx_bd ev'
      have ev' : (q18.1, q18.2) = v' := tx_1 ev'
      have eu' := tx_1 eu'
      obtain ⟨h0, m1, n1, m20, n20, hm, hn, hr⟩ := id U10
      have sv := k_sav_va pa qa Tv5 C hm (by omega) C15 hC
      obtain ⟨v1, v2, v3, v4, v5, _⟩ := hv
      have sv : svQ Tn C C15 m1 := by
        obtain ⟨s1, s2, s3, s4, s5, s6⟩ := sv
        exact ⟨fun j hj => (s1 j hj).trans (v4 j hj), fun j hj => (s2 j hj).trans (v5 j hj).1, fun j hj => (s3 j hj).trans (v5 j hj).2, fun j hj => (s4 j hj).trans (v3 j hj).2.2, fun j hj => (s5 j hj).trans (v2 j hj).2.1, s6⟩
      have rm := k_rem hn n20 S14 hS14
      have jrem := D_to (jR_rem hj10) S14 hS14
      have N14 : Nw P Tn S14 L := Nw_rem N10 rm ⟨jrem.1.1, jrem.1.2.1, jrem.1.2.2.1⟩
      have U14 : uR P C15 S14 := uR_rem U10 N10 hm hn sv rm
      have f13 : S14 0 13 = S1 0 13 := (rm.2.2 0 13 (by decide) (by omega)).trans (h0c10 0 13 (Or.inl ⟨rfl, by omega, by omega⟩))
      have t14 := e_trn (xb := 0) N14.1 N14.2.1 N14.2.2.1.2.2.2.2 (by decide) (by decide) hp (by omega) qc q18 hqc hq18
      obtain ⟨y1, _, y3, y4, y5, y6, y7⟩ := t14
      intro evv
      rw [← evv, ← ev'] at jv
      rw [← eu', ← ev']
      refine ⟨y1, Nw_mv N14 ⟨jv.1, jv.2.1, jv.2.2.1⟩ (fun a j q => y4 a j (by omega)) (fun a j _ n2 _ _ n5 _ _ => y5 a j n2 n5) (fun p' hp' => ?_) (fun i hi => ?_) y3, uR_o U14 (y5 0 82 (by decide) (by decide)) (fun j _ _ => y5 0 j (by decide) (by decide)) (fun j => y5 84 j (by decide) (by decide))⟩
      · show qc.2 10 p' = q18.2 58 p'
        rw [y4 10 p' (by omega), y5 58 p' (by omega) (by omega)]; exact (N14.2.2.2.2.1 p' hp').2
      · show qc.2 15 i = q18.2 54 i ∧ (q18.2 54 i).toInt < (S14 0 12).toInt
        rw [y4 15 i (by omega), y5 54 i (by omega) (by omega)]
        have x := (N14.2.2.1.2.2.2.1 i hi).2
        have y := (N14.2.2.2.1.1 i hi).2.2
        rw [show 10 * 0 + i = i by omega] at x y
        exact ⟨x, y⟩
  exact main jv u v eu ev rfl
-- 62.zaz.50.z40
/-! an image kept, brought back: the reference's rows, exactly -/
def kpF (S : Tr) (L : Lo) (q : Int32 × Tr × Lo) : Prop := (∀ j, j < 50 → q.2.1 86 j = S 55 j) ∧ (∀ j, j < 5 → q.2.1 86 (50 + j) = S 56 j) ∧ (∀ j, j < 6 → q.2.1 86 (55 + j) = S 58 j) ∧ (∀ j, j < 10 → q.2.1 87 j = S 53 j) ∧ (∀ j, j < 6 → q.2.1 88 j = S 59 j ∧ q.2.1 88 (6 + j) = S 60 j) ∧ (q.2.1 0 88 = S 61 0 ∧ q.2.1 0 89 = S 62 0 ∧ ¬ q.2.1 0 84 = 0) ∧ (q.2.2 0 90 = L 0 63 ∧ q.2.2 0 63 = L 0 63) ∧ q.1 = S 62 0 ∧ ∀ a j, ¬ (86 ≤ a ∧ a ≤ 88) → ¬ (a = 0 ∧ (j = 2 ∨ j = 84 ∨ j = 88 ∨ j = 89)) → q.2.1 a j = S a j
theorem k_kp (S : Tr) (L : Lo) : Ep (f_X8_keep S L) (kpF S L) := by
  unfold f_X8_keep
  refine Ep_lt (fun S1 e1 => Ep_lt (fun S2 e2 => Ep_bd (D_to (t_X8_put_86 S2 0 (by decide))) (fun S3 h3 => ?_)))
  rw [show (0 : Int32).toNatClampNeg = 0 by decide] at h3
  have f2 : ∀ a j, ¬ (a = 0 ∧ (j = 2 ∨ j = 84)) → S2 a j = S a j := fun a j n => by rw [e2, st_no (by omega), e1, st_no (by omega)]
  have n84 : S2 0 84 = 1 := by rw [e2, st_same]
  have f3 : ∀ a j, ¬ a = 86 → S3 a j = S2 a j := fun a j n => by rw [h3, put_o (by omega)]
  have p1 : ∀ j, j < 50 → S3 86 j = S 55 j := fun j hj => by
    have := put_s (z := S2) (A := 86) (o := 0) hj
    rw [Nat.zero_add] at this
    rw [h3, this, f2 55 j (by omega)]
  have p2 : ∀ j, j < 5 → S3 86 (50 + j) = S 56 j := fun j hj => by
    have := put_m (z := S2) (A := 86) (o := 0) (by decide) hj
    rw [Nat.zero_add] at this
    rw [h3, this, f2 56 j (by omega)]
  have p3 : ∀ j, j < 6 → S3 86 (55 + j) = S 58 j := fun j hj => by
    have := put_a (z := S2) (A := 86) (o := 0) (by decide) hj
    rw [Nat.zero_add] at this
    rw [h3, this, f2 58 j (by omega)]
  have l47 : ∀ (N n : Nat) (x : Int32) (S4 : Tr), x.toInt = n → n ≤ 6 → (∀ j, j < 10 → S4 87 j = S 53 j) → (∀ j, j < n → S4 88 j = S 59 j ∧ S4 88 (6 + j) = S 60 j) → (∀ a j, ¬ (a = 87 ∨ a = 88) → S4 a j = S3 a j) → Ep (lpF (fun _ _ => none) (fB_X8_keep_L47 L) N x S4) (kpF S L) := by
    intro N
    induction N with
    | zero => intro n x S4 _ _ _ _ _; exact Ep_none
    | succ N ih =>
      intro n x S4 hx hn h1 h2 h4
      show Ep (fB_X8_keep_L47 L (lpF (fun _ _ => none) (fB_X8_keep_L47 L) N) x S4) _
      generalize lpF (fun _ _ => none) (fB_X8_keep_L47 L) N = k at ih ⊢
      unfold fB_X8_keep_L47
      refine Ep_ite (fun c => ?_) (fun c => ?_)
      · have := tq_le (a := 6) (by decide) hx c
        unfold fJ_X8_keep_J86
        refine Ep_lt (fun S8 e8 => Ep_lt (fun S9 e9 => Ep_lt (fun L10 e10 => Ep_some ?_)))
        have g : ∀ a j, ¬ (a = 0 ∧ (j = 88 ∨ j = 89)) → S9 a j = S4 a j := fun a j n => by rw [e9, st_no (by omega), e8, st_no (by omega)]
        have s61 : S4 61 0 = S 61 0 := by rw [h4 61 0 (by omega), f3 61 0 (by omega), f2 61 0 (by omega)]
        have s62 : S4 62 0 = S 62 0 := by rw [h4 62 0 (by omega), f3 62 0 (by omega), f2 62 0 (by omega)]
        refine ⟨fun j hj => ?_, fun j hj => ?_, fun j hj => ?_, fun j hj => ?_, fun j hj => ?_, ⟨?_, ?_, ?_⟩, ⟨?_, ?_⟩, ?_, fun a j n1 n2 => ?_⟩
        · show S9 86 j = _
          rw [g 86 j (by omega), h4 86 j (by omega)]; exact p1 j hj
        · show S9 86 (50 + j) = _
          rw [g 86 _ (by omega), h4 86 _ (by omega)]; exact p2 j hj
        · show S9 86 (55 + j) = _
          rw [g 86 _ (by omega), h4 86 _ (by omega)]; exact p3 j hj
        · show S9 87 j = _
          rw [g 87 j (by omega)]; exact h1 j hj
        · show S9 88 j = _ ∧ S9 88 (6 + j) = _
          rw [g 88 j (by omega), g 88 (6 + j) (by omega)]; exact h2 j (by omega)
        · show S9 0 88 = _
          rw [e9, st_ne (by decide), e8, st_same, s61]
        · show S9 0 89 = _
          rw [e9, st_same, e8, st_oth (by decide), s62]
        · show ¬ S9 0 84 = 0
          rw [g 0 84 (by omega), h4 0 84 (by omega), f3 0 84 (by omega), n84]; decide
        · show L10 0 90 = _
          rw [e10, stL_same]
        · show L10 0 63 = _
          rw [e10, stL_ne (by decide)]
        · show S9 62 0 = _
          rw [g 62 0 (by omega), s62]
        · show S9 a j = _
          rw [g a j (by omega), h4 a j (by omega), f3 a j (by omega), f2 a j (by omega)]
      · have := tq_len (b := n) (a := 6) (by decide) hx c
        have j6 : ((6 : Int32) + x).toNatClampNeg = 6 + n := jh (by decide) hx (by omega)
        rw [j6, i_cn hx]
        refine Ep_ck (Ep_lt (fun S12 e12 => Ep_ck (Ep_lt (fun S14 e14 => Ep_lt (fun y ey => ?_)))))
        have s59 : S4 59 n = S 59 n := by rw [h4 59 n (by omega), f3 59 n (by omega), f2 59 n (by omega)]
        have s60 : S12 60 n = S 60 n := by rw [e12, st_oth (by omega), h4 60 n (by omega), f3 60 n (by omega), f2 60 n (by omega)]
        refine ih (n + 1) y S14 (by rw [ey]; exact i_p1 hx (by omega)) (by omega) (fun j hj => ?_) (fun j hj => ?_) (fun a j na => ?_)
        · rw [e14, st_oth (by omega), e12, st_oth (by omega)]; exact h1 j hj
        · rcases (by omega : j < n ∨ j = n) with q | rfl
          · rw [e14, st_ne (by omega), st_ne (by omega), e12, st_ne (by omega), st_ne (by omega)]; exact h2 j q
          · refine ⟨?_, ?_⟩
            · rw [e14, st_ne (by omega), e12, st_same, s59]
            · rw [e14, st_same, s60]
        · rw [e14, st_no (by omega), e12, st_no (by omega)]; exact h4 a j na
  have l21 : ∀ (N n : Nat) (x : Int32) (S4 : Tr), x.toInt = n → n ≤ 10 → (∀ j, j < n → S4 87 j = S 53 j) → (∀ a j, ¬ a = 87 → S4 a j = S3 a j) → Ep (lpF (fun _ _ => none) (fB_X8_keep_L21 L) N x S4) (kpF S L) := by
    intro N
    induction N with
    | zero => intro n x S4 _ _ _ _; exact Ep_none
    | succ N ih =>
      intro n x S4 hx hn h1 h4
      show Ep (fB_X8_keep_L21 L (lpF (fun _ _ => none) (fB_X8_keep_L21 L) N) x S4) _
      generalize lpF (fun _ _ => none) (fB_X8_keep_L21 L) N = k at ih ⊢
      unfold fB_X8_keep_L21
      refine Ep_ite (fun c => ?_) (fun c => ?_)
      · have := tq_le (a := 10) (by decide) hx c
        unfold fL_X8_keep_L47
        exact l47 2000 0 0 S4 (by decide) (by omega) (fun j hj => h1 j (by omega)) (fun j hj => absurd hj (by omega)) (fun a j na => h4 a j (by omega))
      · have := tq_len (b := n) (a := 10) (by decide) hx c
        rw [i_cn hx]
        refine Ep_ck (Ep_ck (Ep_lt (fun S18 e18 => Ep_lt (fun y ey => ?_))))
        have s53 : S4 53 n = S 53 n := by rw [h4 53 n (by omega), f3 53 n (by omega), f2 53 n (by omega)]
        refine ih (n + 1) y S18 (by rw [ey]; exact i_p1 hx (by omega)) (by omega) (fun j hj => ?_) (fun a j na => by rw [e18, st_oth na]; exact h4 a j na)
        rcases (by omega : j < n ∨ j = n) with q | rfl
        · rw [e18, st_ne (by omega)]; exact h1 j q
        · rw [e18, st_same, s53]
  unfold fL_X8_keep_L21
  exact l21 2000 0 0 S3 (by decide) (by omega) (fun j hj => absurd hj (by omega)) (fun _ _ _ => rfl)
/-- brought back -/
def bkF (S : Tr) (L : Lo) (q : Int32 × Tr × Lo) : Prop := (∀ j, j < 50 → q.2.1 55 j = S 86 j) ∧ (∀ j, j < 5 → q.2.1 56 j = S 86 (50 + j)) ∧ (∀ j, j < 6 → q.2.1 58 j = S 86 (55 + j)) ∧ (∀ j, j < 10 → q.2.1 53 j = S 87 j) ∧ (∀ j, j < 6 → q.2.1 59 j = S 88 j ∧ q.2.1 60 j = S 88 (6 + j)) ∧ (q.2.1 61 0 = S 0 88 ∧ q.2.1 62 0 = S 0 89 ∧ q.2.1 0 82 = 0) ∧ (q.2.2 0 63 = L 0 90 ∧ q.2.2 0 90 = L 0 90) ∧ q.1 = S 0 89 ∧ ∀ a j, ¬ (53 ≤ a ∧ a ≤ 62) → ¬ (a = 0 ∧ (j = 2 ∨ j = 82)) → q.2.1 a j = S a j
theorem k_bk {S : Tr} {L : Lo} (hj : jR S) (h84 : ¬ S 0 84 = 0) : Ep (f_X8_back S L) (fun q => bkF S L q ∧ ∀ a j, a = 57 → q.2.1 a j = S a j) := by
  unfold f_X8_back
  refine Ep_lt (fun S1 e1 => ?_)
  have f1 : ∀ a j, ¬ (a = 0 ∧ j = 2) → S1 a j = S a j := fun a j n => by rw [e1, st_no n]
  have hj1 : jR S1 := by rw [e1]; exact jR_thr hj
  have g84 : ¬ S1 0 84 = 0 := by rw [f1 0 84 (by omega)]; exact h84
  rw [if_neg g84]
  have ro := hj1.2.2.2.2.1 g84
  have tk := D_to (t_X8_take_86 S1 0 (fun i => S1 87 i) hj1.1 (by decide) (by decide) (by rw [show (0 : Int32).toNatClampNeg = 0 by decide]; exact ro))
  refine Ep_bd (Ep_and (k_tk86 (S := S1) (x := 0) (o := 0) (by decide) (by omega)) tk) (fun S3 h3 => ?_)
  obtain ⟨⟨p1, p2, p3⟩, _, _, _, _, f3, _⟩ := h3
  have f3' : ∀ a j, ¬ (54 ≤ a ∧ a ≤ 58) → S3 a j = S1 a j := fun a j n => f3 a j (by omega) (by omega) (by omega) (by omega)
  have f57 : ∀ j, S3 57 j = S1 57 j := fun j => f3 57 j (by omega) (by omega) (by omega) (by omega)
  have l51 : ∀ (N n : Nat) (x : Int32) (S4 : Tr), x.toInt = n → n ≤ 6 → (∀ j, j < 10 → S4 53 j = S 87 j) → (∀ j, j < n → S4 59 j = S 88 j ∧ S4 60 j = S 88 (6 + j)) → (∀ a j, ¬ (a = 53 ∨ a = 59 ∨ a = 60) → S4 a j = S3 a j) → Ep (lpF (fun _ _ => none) (fB_X8_back_L51 L) N x S4) (fun q => bkF S L q ∧ ∀ a j, a = 57 → q.2.1 a j = S a j) := by
    intro N
    induction N with
    | zero => intro n x S4 _ _ _ _ _; exact Ep_none
    | succ N ih =>
      intro n x S4 hx hn h1 h2 h4
      show Ep (fB_X8_back_L51 L (lpF (fun _ _ => none) (fB_X8_back_L51 L) N) x S4) _
      generalize lpF (fun _ _ => none) (fB_X8_back_L51 L) N = k at ih ⊢
      unfold fB_X8_back_L51
      refine Ep_ite (fun c => ?_) (fun c => ?_)
      · have := tq_le (a := 6) (by decide) hx c
        unfold fJ_X8_back_J90
        refine Ep_lt (fun S8 e8 => Ep_lt (fun S9 e9 => Ep_lt (fun L10 e10 => Ep_lt (fun S11 e11 => Ep_some ?_))))
        have g : ∀ a j, ¬ (a = 0 ∧ j = 82) → ¬ (a = 61 ∧ j = 0) → ¬ (a = 62 ∧ j = 0) → S11 a j = S4 a j := fun a j n1 n2 n3 => by rw [e11, st_no n1, e9, st_no n3, e8, st_no n2]
        have o : ∀ a j, ¬ (a = 53 ∨ a = 59 ∨ a = 60) → ¬ (54 ≤ a ∧ a ≤ 58) → ¬ (a = 0 ∧ j = 2) → S4 a j = S a j := fun a j n1 n2 n3 => by rw [h4 a j n1, f3' a j n2, f1 a j n3]
        have e88 : S4 0 88 = S 0 88 := o 0 88 (by omega) (by omega) (by omega)
        have e89 : S8 0 89 = S 0 89 := by rw [e8, st_oth (by decide)]; exact o 0 89 (by omega) (by omega) (by omega)
        have e62 : S11 62 0 = S 0 89 := by rw [e11, st_oth (by decide), e9, st_same, e89]
        refine ⟨⟨fun j hj => ?_, fun j hj => ?_, fun j hj => ?_, fun j hj => ?_, fun j hj => ?_, ⟨?_, e62, ?_⟩, ⟨?_, ?_⟩, e62, fun a j n1 n2 => ?_⟩, fun a j ha => ?_⟩
        · show S11 55 j = _
          have := p1 j hj
          rw [Nat.zero_add] at this
          rw [g 55 j (by omega) (by omega) (by omega), h4 55 j (by omega), this, f1 86 _ (by omega)]
        · show S11 56 j = _
          have := p2 j hj
          rw [Nat.zero_add] at this
          rw [g 56 j (by omega) (by omega) (by omega), h4 56 j (by omega), this, f1 86 _ (by omega)]
        · show S11 58 j = _
          have := p3 j hj
          rw [Nat.zero_add] at this
          rw [g 58 j (by omega) (by omega) (by omega), h4 58 j (by omega), this, f1 86 _ (by omega)]
        · show S11 53 j = _
          rw [g 53 j (by omega) (by omega) (by omega)]; exact h1 j hj
        · show S11 59 j = _ ∧ S11 60 j = _
          rw [g 59 j (by omega) (by omega) (by omega), g 60 j (by omega) (by omega) (by omega)]; exact h2 j (by omega)
        · show S11 61 0 = _
          rw [e11, st_oth (by decide), e9, st_oth (by decide), e8, st_same, e88]
        · show S11 0 82 = 0
          rw [e11, st_same]
        · show L10 0 63 = _
          rw [e10, stL_same]
        · show L10 0 90 = _
          rw [e10, stL_ne (by decide)]
        · show S11 a j = _
          rw [g a j (by omega) (by omega) (by omega), o a j (by omega) (by omega) (by omega)]
        · show S11 a j = _
          subst ha
          rw [g 57 j (by omega) (by omega) (by omega), h4 57 j (by omega), f57, f1 57 j (by omega)]
      · have := tq_len (b := n) (a := 6) (by decide) hx c
        have j6 : ((6 : Int32) + x).toNatClampNeg = 6 + n := jh (by decide) hx (by omega)
        rw [j6, i_cn hx]
        refine Ep_ck (Ep_lt (fun S13 e13 => Ep_ck (Ep_lt (fun S15 e15 => Ep_lt (fun y ey => ?_)))))
        have s88 : S4 88 n = S 88 n := by rw [h4 88 n (by omega), f3' 88 n (by omega), f1 88 n (by omega)]
        have s88' : S13 88 (6 + n) = S 88 (6 + n) := by rw [e13, st_oth (by omega), h4 88 _ (by omega), f3' 88 _ (by omega), f1 88 _ (by omega)]
        refine ih (n + 1) y S15 (by rw [ey]; exact i_p1 hx (by omega)) (by omega) (fun j hj => ?_) (fun j hj => ?_) (fun a j na => ?_)
        · rw [e15, st_oth (by omega), e13, st_oth (by omega)]; exact h1 j hj
        · rcases (by omega : j < n ∨ j = n) with q | rfl
          · rw [e15, st_oth (by omega), st_ne (by omega), e13, st_ne (by omega), st_oth (by omega)]; exact h2 j q
          · refine ⟨?_, ?_⟩
            · rw [e15, st_oth (by omega), e13, st_same, s88]
            · rw [e15, st_same, s88']
        · rw [e15, st_no (by omega), e13, st_no (by omega)]; exact h4 a j na
  have l25 : ∀ (N n : Nat) (x : Int32) (S4 : Tr), x.toInt = n → n ≤ 10 → (∀ j, j < n → S4 53 j = S 87 j) → (∀ a j, ¬ a = 53 → S4 a j = S3 a j) → Ep (lpF (fun _ _ => none) (fB_X8_back_L25 L) N x S4) (fun q => bkF S L q ∧ ∀ a j, a = 57 → q.2.1 a j = S a j) := by
    intro N
    induction N with
    | zero => intro n x S4 _ _ _ _; exact Ep_none
    | succ N ih =>
      intro n x S4 hx hn h1 h4
      show Ep (fB_X8_back_L25 L (lpF (fun _ _ => none) (fB_X8_back_L25 L) N) x S4) _
      generalize lpF (fun _ _ => none) (fB_X8_back_L25 L) N = k at ih ⊢
      unfold fB_X8_back_L25
      refine Ep_ite (fun c => ?_) (fun c => ?_)
      · have := tq_le (a := 10) (by decide) hx c
        unfold fL_X8_back_L51
        exact l51 2000 0 0 S4 (by decide) (by omega) (fun j hj => h1 j (by omega)) (fun j hj => absurd hj (by omega)) (fun a j na => h4 a j (by omega))
      · have := tq_len (b := n) (a := 10) (by decide) hx c
        rw [i_cn hx]
        refine Ep_ck (Ep_ck (Ep_lt (fun S18 e18 => Ep_lt (fun y ey => ?_))))
        have s87 : S4 87 n = S 87 n := by rw [h4 87 n (by omega), f3' 87 n (by omega), f1 87 n (by omega)]
        refine ih (n + 1) y S18 (by rw [ey]; exact i_p1 hx (by omega)) (by omega) (fun j hj => ?_) (fun a j na => by rw [e18, st_oth na]; exact h4 a j na)
        rcases (by omega : j < n ∨ j = n) with q | rfl
        · rw [e18, st_ne (by omega)]; exact h1 j q
        · rw [e18, st_same, s87]
  unfold fL_X8_back_L25
  exact l25 2000 0 0 S3 (by decide) (by omega) (fun j hj => absurd hj (by omega)) (fun _ _ _ => rfl)
-- 62.zaz.51.z41
/-! an image side by side -/
def rowT (T : Tr) : Nat → Int32 := fun k => if k < 50 then T 16 k else if k < 55 then T 17 (k - 50) else if k < 60 then T 18 (k - 55) else if k < 70 then T 15 (k - 60) else T 10 (k - 70)
theorem rowT_16 {T : Tr} {j : Nat} (h : j < 50) : rowT T j = T 16 j := by unfold rowT; rw [if_pos h]
theorem rowT_17 {T : Tr} {j : Nat} (h : j < 5) : rowT T (50 + j) = T 17 j := by unfold rowT; rw [if_neg (by omega), if_pos (by omega), Nat.add_sub_cancel_left]
theorem rowT_18 {T : Tr} {j : Nat} (h : j < 5) : rowT T (55 + j) = T 18 j := by unfold rowT; rw [if_neg (by omega), if_neg (by omega), if_pos (by omega), Nat.add_sub_cancel_left]
theorem rowT_15 {T : Tr} {j : Nat} (h : j < 10) : rowT T (60 + j) = T 15 j := by unfold rowT; rw [if_neg (by omega), if_neg (by omega), if_neg (by omega), if_pos (by omega), Nat.add_sub_cancel_left]
theorem rowT_10 {T : Tr} {j : Nat} (h : j < 6) : rowT T (70 + j) = T 10 j := by unfold rowT; rw [if_neg (by omega), if_neg (by omega), if_neg (by omega), if_neg (by omega), Nat.add_sub_cancel_left]
def imG (P Ti S : Tr) (L : Lo) : Prop := rwR P (S 0 12) (S 0 13) (S 0 14) (rowT Ti) (fun k => S 86 k) ∧ (Ti 0 0 = S 0 89 ∧ Ti 0 1 = S 0 88) ∧ (∀ p : Nat, (p : Int) < (S 0 13).toInt → (Ti 11 p = S 88 p ∧ Ti 12 p = S 88 (6 + p) ∧ Ti 9 p = S 57 p) ∧ (S 88 p = 0 ∨ S 88 p = 1 ∨ S 88 p = 2) ∧ ((S 0 89).toInt ≤ (S 57 p).toInt → S 88 p = 0)) ∧ (∀ i : Nat, (i : Int) < (S 0 14).toInt → (Ti 14 i = S 87 i ∧ Ti 13 i = S 33 i) ∧ (S 87 i = 1 → S 88 (S 30 i).toNatClampNeg = 1) ∧ (S 88 (S 30 i).toNatClampNeg = 0 → S 87 i = 0)) ∧ (Ti 0 3 = S 23 0 ∧ Ti 0 4 = S 23 1) ∧ L 0 90 = (Ti 0 2).toInt64 ∧ 0 ≤ (Ti 0 2).toInt
def imR (P X Ti S : Tr) (L : Lo) : Prop := ¬ X 0 4 = 0 → imG P Ti S L
theorem imG_o {P Ti S S1 : Tr} {L L1 : Lo} (h : imG P Ti S L) (h13 : (S 0 13).toInt ≤ 6) (h14 : (S 0 14).toInt ≤ 10) (e0 : ∀ j, (12 ≤ j ∧ j ≤ 14) ∨ j = 88 ∨ j = 89 → S1 0 j = S 0 j) (e : ∀ a j, (a = 23 ∧ j < 3) ∨ ((a = 30 ∨ a = 33) ∧ j < 10) ∨ (a = 57 ∧ j < 6) ∨ (86 ≤ a ∧ a ≤ 88) → S1 a j = S a j) (eL : L1 0 90 = L 0 90) : imG P Ti S1 L1 := by
  obtain ⟨h1, h2, h3, h4, h5, h6⟩ := h
  refine ⟨?_, ?_, fun p hp => ?_, fun i hi => ?_, ?_, by rw [eL]; exact h6⟩
  · rw [e0 12 (by omega), e0 13 (by omega), e0 14 (by omega), show (fun k => S1 86 k) = (fun k => S 86 k) from funext fun k => e 86 k (by omega)]
    exact h1
  · rw [e0 88 (by omega), e0 89 (by omega)]; exact h2
  · rw [e0 13 (by omega)] at hp
    rw [e 88 p (by omega), e 88 (6 + p) (by omega), e 57 p (by omega), e0 89 (by omega)]; exact h3 p hp
  · rw [e0 14 (by omega)] at hi
    rw [e 87 i (by omega), e 33 i (by omega), e 30 i (by omega), e 88 _ (by omega)]; exact h4 i hi
  · rw [e 23 0 (by omega), e 23 1 (by omega)]; exact h5
theorem imR_o {P X Ti S S1 : Tr} {L L1 : Lo} (h : imR P X Ti S L) (h13 : (S 0 13).toInt ≤ 6) (h14 : (S 0 14).toInt ≤ 10) (e0 : ∀ j, (12 ≤ j ∧ j ≤ 14) ∨ j = 88 ∨ j = 89 → S1 0 j = S 0 j) (e : ∀ a j, (a = 23 ∧ j < 3) ∨ ((a = 30 ∨ a = 33) ∧ j < 10) ∨ (a = 57 ∧ j < 6) ∨ (86 ≤ a ∧ a ≤ 88) → S1 a j = S a j) (eL : L1 0 90 = L 0 90) : imR P X Ti S1 L1 := fun n => imG_o (h n) h13 h14 e0 e eL
def keQ (P Tn C : Tr) (q : Int32 × Tr × Tr × Nat) (q' : Int32 × Tr × Lo) : Prop := q.1 = q'.1 ∧ Nw P Tn q'.2.1 q'.2.2 ∧ uR P C q'.2.1 ∧ imR P q.2.1 q.2.2.1 q'.2.1 q'.2.2
theorem e_X7keep {P X Tn Ti C S : Tr} {L : Lo} {pa qa : Nat → Nat} {q0 q1 : Nat} (h : Nw P Tn S L) (hu : uR P C S) (hj : jR S) : E2 (f_X7_keep pa qa X Tn Ti q0 q1) (f_X8_keep S L) (keQ P Tn C) := by
  obtain ⟨hS, hK, hd, hv, n9, n13, nr, nl, na⟩ := id h
  have h13 : 0 ≤ (S 0 13).toInt ∧ (S 0 13).toInt ≤ 6 := hS.1 0 13
  have h14 : 0 ≤ (S 0 14).toInt ∧ (S 0 14).toInt ≤ 10 := hS.1 0 14
  unfold f_X7_keep
  intro u v eu ev
  have kp := k_kp S L v ev
  have jv := (D_to (R_keep S L hj) v ev).1
  obtain ⟨q, hq, eu⟩ := tx_bd eu
  have cp := e_cpA Ti Tn q1 q0 q hq
  have eu : (Tn 0 0, st X 0 4 1, q.1, q.2) = u := tx_1 eu
  rw [← eu]
  obtain ⟨k1, k2, k3, k4, k5, ⟨k6, k7, k8⟩, ⟨k9, k10⟩, k11, k12⟩ := kp
  obtain ⟨c1, c2, c3, c4, c5, c6⟩ := cp
  have f : ∀ a j, ¬ (86 ≤ a ∧ a ≤ 88) → ¬ (a = 0 ∧ (j = 2 ∨ j = 84 ∨ j = 88 ∨ j = 89)) → v.2.1 a j = S a j := k12
  have N2 : Nw P Tn v.2.1 v.2.2 := Nw_of h ⟨jv.1, jv.2.1, jv.2.2.1⟩ (fun a j hc => by unfold h0c at hc; exact f a j (by omega) (by omega)) ((f 0 65 (by omega) (by omega)).trans nl.2.2) k10
  refine ⟨by show Tn 0 0 = v.1; rw [k11]; exact hd.1, N2, uR_o hu (f 0 82 (by omega) (by omega)) (fun j _ _ => f 0 j (by omega) (by omega)) (fun j => f 84 j (by omega) (by omega)), fun _ => ?_⟩
  show imG P q.1 v.2.1 v.2.2
  refine ⟨?_, ⟨?_, ?_⟩, fun p hp => ?_, fun i hi => ?_, ⟨?_, ?_⟩, ?_, ?_⟩
  · rw [f 0 12 (by omega) (by omega), f 0 13 (by omega) (by omega), f 0 14 (by omega) (by omega)]
    exact rw_now h (fun j hj => (rowT_16 hj).trans (c4 j hj)) (fun j hj => (rowT_17 hj).trans (c5 j hj).1) (fun j hj => (rowT_18 hj).trans (c5 j hj).2) (fun j hj => (rowT_15 hj).trans (c3 j hj).2.2) (fun j hj => (rowT_10 hj).trans (c2 j hj).2.1) k1 k2 k3
  · rw [k7, c1 0 (by omega)]; exact hd.1
  · rw [k6, c1 1 (by omega)]; exact hd.2.1
  · rw [f 0 13 (by omega) (by omega)] at hp
    have x := hd.2.2.1 p hp
    have y := (hv.2 p hp).1
    rw [show 6 * 0 + p = p by omega] at x y
    rw [(k5 p (by omega)).1, (k5 p (by omega)).2, f 57 p (by omega) (by omega), k7, (c2 p (by omega)).1, (c2 p (by omega)).2.2.1, (c2 p (by omega)).2.2.2]
    exact ⟨⟨x.1, x.2, (n9 p hp).1⟩, y, na p hp⟩
  · rw [f 0 14 (by omega) (by omega)] at hi
    have x := (hd.2.2.2.1 i hi).1
    have y := hv.1 i hi
    have ow := own_lt hS i hi
    rw [show 10 * 0 + i = i by omega] at x y
    rw [show 6 * 0 + (S 30 i).toNatClampNeg = (S 30 i).toNatClampNeg by omega] at y
    rw [k4 i (by omega), f 33 i (by omega) (by omega), f 30 i (by omega) (by omega), (k5 _ (by omega)).1, (c3 i (by omega)).1, (c3 i (by omega)).2.1]
    exact ⟨⟨x, n13 i hi⟩, y.1, y.2.1⟩
  · rw [f 23 0 (by omega) (by omega), c1 3 (by omega)]; exact nr.1
  · rw [f 23 1 (by omega) (by omega), c1 4 (by omega)]; exact nr.2.1
  · rw [k9, c1 2 (by omega)]; exact nl.1
  · rw [c1 2 (by omega)]; exact nl.2.1
def bckQ (P X Ti : Tr) (q : Int32 × Tr × Tr × Nat) (q' : Int32 × Tr × Lo) : Prop := q.1 = q'.1 ∧ Nw P q.2.1 q'.2.1 q'.2.2 ∧ uR P q.2.2.1 q'.2.1 ∧ imR P X Ti q'.2.1 q'.2.2
theorem e_X7back {P X Tn Ti C S : Tr} {L : Lo} {pa qa : Nat → Nat} {q0 q1 : Nat} (h : Nw P Tn S L) (hu : uR P C S) (hj : jR S) (hi : imR P X Ti S L) (hX : X 0 4 = 0 ↔ S 0 84 = 0) : E2 (f_X7_back pa qa X Tn Ti C q0 q1) (f_X8_back S L) (bckQ P X Ti) := by
  obtain ⟨hS, hK, hd, hv, n9, n13, nr, nl, na⟩ := id h
  have h12 : 0 ≤ (S 0 12).toInt ∧ (S 0 12).toInt ≤ 5 := hS.1 0 12
  have h13 : 0 ≤ (S 0 13).toInt ∧ (S 0 13).toInt ≤ 6 := hS.1 0 13
  have h14 : 0 ≤ (S 0 14).toInt ∧ (S 0 14).toInt ≤ 10 := hS.1 0 14
  intro u v eu ev
  have jv := (D_to (R_back S L hj) v ev).1
  unfold f_X7_back at eu
  by_cases c : X 0 4 = 0
  · rw [if_pos c] at eu
    have eu := tx_1 eu
    unfold f_X8_back at ev
    obtain ⟨S1, e1, ev⟩ := tx_lt ev
    rw [if_pos (by rw [← e1, st_ne (by decide)]; exact hX.mp c)] at ev
    have ev := tx_1 ev
    rw [← eu, ← ev, ← e1]
    exact ⟨rfl, Nw_2 h, uR_2 hu, fun n => absurd c n⟩
  · rw [if_neg c] at eu
    obtain ⟨q, hq, eu⟩ := tx_bd eu
    have cp := e_cpA Tn Ti q0 q1 q hq
    have eu : (q.1 0 0, q.1, st C 0 0 0, q.2) = u := tx_1 eu
    obtain ⟨⟨k1, k2, k3, k4, k5, ⟨k6, k7, k8⟩, ⟨k9, k10⟩, k11, k12⟩, k13⟩ := k_bk hj (fun g => c (hX.mpr g)) v ev
    obtain ⟨c1, c2, c3, c4, c5, c6⟩ := cp
    obtain ⟨g1, g2, g3, g4, g5, g6⟩ := hi c
    rw [← eu]
    have f : ∀ a j, ¬ (53 ≤ a ∧ a ≤ 62) → ¬ (a = 0 ∧ (j = 2 ∨ j = 82)) → v.2.1 a j = S a j := k12
    have f57 : ∀ j, v.2.1 57 j = S 57 j := fun j => k13 57 j rfl
    have f12 := f 0 12 (by omega) (by omega)
    have f13 := f 0 13 (by omega) (by omega)
    have f14 := f 0 14 (by omega) (by omega)
    obtain ⟨w1, w2, w3⟩ := rw_back (T1 := q.1) (q := v.2.1) g1 jv.1 jv.2.2.1.1 f14 h12.1 h13.2 h14.2 (fun j hj => (c4 j hj).trans (rowT_16 hj).symm) (fun j hj => (c5 j hj).1.trans (rowT_17 hj).symm) (fun j hj => (c5 j hj).2.trans (rowT_18 hj).symm) (fun j hj => (c3 j hj).2.2.trans (rowT_15 hj).symm) (fun j hj => (c2 j hj).2.1.trans (rowT_10 hj).symm) k1 k2 k3
    have NN : Nw P q.1 v.2.1 v.2.2 := by
      refine ⟨⟨jv.1, jv.2.1, jv.2.2.1⟩, pK_o hK (fun j a b => f 0 j (by omega) (by omega)) (fun a j a1 a2 => f a j (by omega) (by omega)), ⟨?_, ?_, fun p hp => ?_, fun i hi => ?_, w1⟩, ⟨fun i hi => ?_, fun p hp => ?_⟩, fun p hp => ?_, fun i hi => ?_, ⟨?_, ?_, ?_, ?_, ?_, ?_⟩, ⟨?_, ?_, ?_⟩, fun p hp hq => ?_⟩
      · rw [k7, c1 0 (by omega)]; exact g2.1
      · rw [k6, c1 1 (by omega)]; exact g2.2
      · rw [f13] at hp
        rw [show 6 * 0 + p = p by omega, (k5 p (by omega)).1, (k5 p (by omega)).2, (c2 p (by omega)).2.2.1, (c2 p (by omega)).2.2.2]
        exact ⟨(g3 p hp).1.1, (g3 p hp).1.2.1⟩
      · rw [f14] at hi
        rw [show 10 * 0 + i = i by omega, k4 i (by omega), (c3 i (by omega)).2.1]
        exact ⟨(g4 i hi).1.1, (w2 i hi).1⟩
      · rw [f14] at hi
        have ow := own_lt hS i hi
        rw [show 10 * 0 + i = i by omega, f 30 i (by omega) (by omega), show 6 * 0 + (S 30 i).toNatClampNeg = (S 30 i).toNatClampNeg by omega, k4 i (by omega), (k5 _ (by omega)).1, f12]
        exact ⟨(g4 i hi).2.1, (g4 i hi).2.2, (w2 i hi).2⟩
      · rw [f13] at hp
        have y := (hv.2 p hp).2
        rw [show 6 * 0 + p = p by omega] at y
        rw [show 6 * 0 + p = p by omega, (k5 p (by omega)).1, f57]
        exact ⟨(g3 p hp).2.1, y⟩
      · rw [f13] at hp
        rw [f57, (c2 p (by omega)).1]
        exact ⟨(g3 p hp).1.2.2, w3 p hp⟩
      · rw [f14] at hi
        rw [f 33 i (by omega) (by omega), (c3 i (by omega)).1]; exact (g4 i hi).1.2
      · rw [f 23 0 (by omega) (by omega), c1 3 (by omega)]; exact g5.1
      · rw [f 23 1 (by omega) (by omega), c1 4 (by omega)]; exact g5.2
      · rw [f 23 0 (by omega) (by omega)]; exact nr.2.2.1
      · rw [f 23 0 (by omega) (by omega)]; exact nr.2.2.2.1
      · rw [c6 6 (by omega)]; exact nr.2.2.2.2.1
      · rw [c6 7 (by omega)]; exact nr.2.2.2.2.2
      · rw [k9, c1 2 (by omega)]; exact g6.1
      · rw [c1 2 (by omega)]; exact g6.2
      · rw [f 0 65 (by omega) (by omega)]; exact nl.2.2
      · rw [f13] at hp
        rw [k7, f57] at hq
        rw [(k5 p (by omega)).1]; exact (g3 p hp).2.2 hq
    obtain ⟨_, m, n, m20, n20, hm, hn, hr⟩ := id hu
    refine ⟨by show q.1 0 0 = v.1; rw [k11, c1 0 (by omega)]; exact g2.1, NN, ?_, imR_o hi h13.2 h14.2 (fun j hj2 => f 0 j (by omega) (by omega)) (fun a j hj2 => ?_) k10⟩
    · show uR P (st C 0 0 0) v.2.1
      refine ⟨by rw [st_same, k8], m, 0, m20, by omega, by rw [st_ne (by decide)]; exact hm, by rw [k8]; decide, fun r hr2 => absurd hr2 (by omega)⟩
    · rcases (by omega : a = 57 ∨ ¬ (53 ≤ a ∧ a ≤ 62)) with g | g
      · subst g; exact f57 j
      · exact f a j g (by omega)
