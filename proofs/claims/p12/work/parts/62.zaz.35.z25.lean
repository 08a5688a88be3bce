/-! a train copied; what holds of the train that is now -/
theorem cp_at {f g : Nat → Int32} {n j : Nat} (h : j < n) : va_cpy f g 0 0 n j = f j := by
  unfold va_cpy
  rw [if_pos ⟨Nat.zero_le _, by omega⟩]
  simp
def cpA (T T2 A : Tr) : Prop := (∀ j, j ≤ 4 → A 0 j = T2 0 j) ∧ (∀ j, j < 6 → A 9 j = T2 9 j ∧ A 10 j = T2 10 j ∧ A 11 j = T2 11 j ∧ A 12 j = T2 12 j) ∧ (∀ j, j < 10 → A 13 j = T2 13 j ∧ A 14 j = T2 14 j ∧ A 15 j = T2 15 j) ∧ (∀ j, j < 50 → A 16 j = T2 16 j) ∧ (∀ j, j < 5 → A 17 j = T2 17 j ∧ A 18 j = T2 18 j) ∧ ∀ j, 5 ≤ j → A 0 j = T 0 j
theorem e_cpA (T T2 : Tr) (q q2 : Nat) : Ep (f_X6_copy T T2 q q2) (fun r => cpA T T2 r.1) := by
  unfold f_X6_copy
  refine Ep_lt (fun A1 e1 => Ep_lt (fun A2 e2 => Ep_lt (fun A3 e3 => Ep_lt (fun A4 e4 => Ep_lt (fun A5 e5 => Ep_lt (fun A6 e6 => Ep_lt (fun A7 e7 => Ep_lt (fun A8 e8 => Ep_lt (fun A9 e9 => Ep_lt (fun A10 e10 => Ep_lt (fun A11 e11 => Ep_lt (fun A12 e12 => Ep_lt (fun A13 e13 => Ep_lt (fun A14 e14 => Ep_lt (fun A15 e15 => Ep_some ?_)))))))))))))))
  have z : ∀ j, A15 0 j = A5 0 j := fun j => by rw [e15, stC_oth (by decide), e14, stC_oth (by decide), e13, stC_oth (by decide), e12, stC_oth (by decide), e11, stC_oth (by decide), e10, stC_oth (by decide), e9, stC_oth (by decide), e8, stC_oth (by decide), e7, stC_oth (by decide), e6, stC_oth (by decide)]
  have c0 : A5 0 0 = T2 0 0 := by rw [e5, st_ne (by decide), e4, st_ne (by decide), e3, st_ne (by decide), e2, st_ne (by decide), e1, st_same]
  have c1 : A5 0 1 = T2 0 1 := by rw [e5, st_ne (by decide), e4, st_ne (by decide), e3, st_ne (by decide), e2, st_same]
  have c2 : A5 0 2 = T2 0 2 := by rw [e5, st_ne (by decide), e4, st_ne (by decide), e3, st_same]
  have c3 : A5 0 3 = T2 0 3 := by rw [e5, st_ne (by decide), e4, st_same]
  have c4 : A5 0 4 = T2 0 4 := by rw [e5, st_same]
  have c5 : ∀ j, 5 ≤ j → A5 0 j = T 0 j := fun j hj => by rw [e5, st_ne (by omega), e4, st_ne (by omega), e3, st_ne (by omega), e2, st_ne (by omega), e1, st_ne (by omega)]
  have r9 : ∀ j, j < 6 → A15 9 j = T2 9 j := fun j hj => by rw [e15, stC_oth (by decide), e14, stC_oth (by decide), e13, stC_oth (by decide), e12, stC_oth (by decide), e11, stC_oth (by decide), e10, stC_oth (by decide), e9, stC_oth (by decide), e8, stC_oth (by decide), e7, stC_oth (by decide), e6, stC_same, cp_at hj]
  have r10 : ∀ j, j < 6 → A15 10 j = T2 10 j := fun j hj => by rw [e15, stC_oth (by decide), e14, stC_oth (by decide), e13, stC_oth (by decide), e12, stC_oth (by decide), e11, stC_oth (by decide), e10, stC_oth (by decide), e9, stC_oth (by decide), e8, stC_oth (by decide), e7, stC_same, cp_at hj]
  have r11 : ∀ j, j < 6 → A15 11 j = T2 11 j := fun j hj => by rw [e15, stC_oth (by decide), e14, stC_oth (by decide), e13, stC_oth (by decide), e12, stC_oth (by decide), e11, stC_oth (by decide), e10, stC_oth (by decide), e9, stC_oth (by decide), e8, stC_same, cp_at hj]
  have r12 : ∀ j, j < 6 → A15 12 j = T2 12 j := fun j hj => by rw [e15, stC_oth (by decide), e14, stC_oth (by decide), e13, stC_oth (by decide), e12, stC_oth (by decide), e11, stC_oth (by decide), e10, stC_oth (by decide), e9, stC_same, cp_at hj]
  have r13 : ∀ j, j < 10 → A15 13 j = T2 13 j := fun j hj => by rw [e15, stC_oth (by decide), e14, stC_oth (by decide), e13, stC_oth (by decide), e12, stC_oth (by decide), e11, stC_oth (by decide), e10, stC_same, cp_at hj]
  have r14 : ∀ j, j < 10 → A15 14 j = T2 14 j := fun j hj => by rw [e15, stC_oth (by decide), e14, stC_oth (by decide), e13, stC_oth (by decide), e12, stC_oth (by decide), e11, stC_same, cp_at hj]
  have r15 : ∀ j, j < 10 → A15 15 j = T2 15 j := fun j hj => by rw [e15, stC_oth (by decide), e14, stC_oth (by decide), e13, stC_oth (by decide), e12, stC_same, cp_at hj]
  have r16 : ∀ j, j < 50 → A15 16 j = T2 16 j := fun j hj => by rw [e15, stC_oth (by decide), e14, stC_oth (by decide), e13, stC_same, cp_at hj]
  have r17 : ∀ j, j < 5 → A15 17 j = T2 17 j := fun j hj => by rw [e15, stC_oth (by decide), e14, stC_same, cp_at hj]
  have r18 : ∀ j, j < 5 → A15 18 j = T2 18 j := fun j hj => by rw [e15, stC_same, cp_at hj]
  refine ⟨fun j hj => ?_, fun j hj => ⟨r9 j hj, r10 j hj, r11 j hj, r12 j hj⟩, fun j hj => ⟨r13 j hj, r14 j hj, r15 j hj⟩, r16, fun j hj => ⟨r17 j hj, r18 j hj⟩, fun j hj => (z j).trans (c5 j hj)⟩
  show A15 0 j = T2 0 j
  rw [z]
  rcases (by omega : j = 0 ∨ j = 1 ∨ j = 2 ∨ j = 3 ∨ j = 4) with rfl | rfl | rfl | rfl | rfl
  · exact c0
  · exact c1
  · exact c2
  · exact c3
  · exact c4
def sttQ (Tn A : Tr) : Prop := cpA A Tn A ∧ A 0 5 = 0 ∧ A 0 6 = 1 ∧ A 0 7 = 1
theorem e_stt (pa qa : Nat → Nat) (Tn Tu : Tr) (q0 q2 : Nat) : Ep (f_X7_startTrial pa qa Tn Tu q0 q2) (fun r => sttQ Tn r.1) := by
  unfold f_X7_startTrial
  refine Ep_bd (e_cpA Tu Tn q2 q0) (fun q hq => Ep_lt (fun A1 e1 => Ep_lt (fun n2 _ => Ep_lt (fun A5 e5 => Ep_lt (fun A6 e6 => Ep_lt (fun A7 e7 => Ep_some ?_))))))
  rw [← e1] at hq
  obtain ⟨h1, h2, h3, h4, h5, h6⟩ := hq
  have f : ∀ a j, ¬ (a = 0 ∧ 5 ≤ j) → A7 a j = A1 a j := fun a j n => by rw [e7, st_no (by omega), e6, st_no (by omega), e5, st_no (by omega)]
  refine ⟨⟨fun j hj => (f 0 j (by omega)).trans (h1 j hj), fun j hj => ?_, fun j hj => ?_, fun j hj => (f 16 j (by omega)).trans (h4 j hj), fun j hj => ?_, fun _ _ => rfl⟩, ?_, ?_, ?_⟩
  · show A7 9 j = _ ∧ A7 10 j = _ ∧ A7 11 j = _ ∧ A7 12 j = _
    rw [f 9 j (by omega), f 10 j (by omega), f 11 j (by omega), f 12 j (by omega)]; exact h2 j hj
  · show A7 13 j = _ ∧ A7 14 j = _ ∧ A7 15 j = _
    rw [f 13 j (by omega), f 14 j (by omega), f 15 j (by omega)]; exact h3 j hj
  · show A7 17 j = _ ∧ A7 18 j = _
    rw [f 17 j (by omega), f 18 j (by omega)]; exact h5 j hj
  · show A7 0 5 = 0
    rw [e7, st_ne (by omega), e6, st_ne (by omega), e5, st_same]
  · show A7 0 6 = 1
    rw [e7, st_ne (by omega), e6, st_same]
  · show A7 0 7 = 1
    rw [e7, st_same]
/-- the train that is now -/
def Nw (P T S : Tr) (L : Lo) : Prop := rI 0 S ∧ pK P S ∧ dyn 0 P T S ∧ inv 0 S ∧ (∀ p : Nat, (p : Int) < (S 0 13).toInt → T 9 p = S 57 p ∧ T 10 p = S 58 p) ∧ (∀ i : Nat, (i : Int) < (S 0 14).toInt → T 13 i = S 33 i) ∧ (T 0 3 = S 23 0 ∧ T 0 4 = S 23 1 ∧ 0 ≤ (S 23 0).toInt ∧ (S 23 0).toInt ≤ 2 ∧ ¬ T 0 6 = 0 ∧ ¬ T 0 7 = 0) ∧ (L 0 63 = (T 0 2).toInt64 ∧ 0 ≤ (T 0 2).toInt ∧ S 0 65 = 0) ∧ ∀ p : Nat, (p : Int) < (S 0 13).toInt → (S 62 0).toInt ≤ (S 57 p).toInt → S 59 p = 0
def trQ (Tn S A S1 : Tr) : Prop := S1 0 70 = 0 ∧ S1 0 65 = 0 ∧ A 0 5 = 0 ∧ hF0 S S1 ∧ cpH S S1 ∧ plT S S1 ∧ sttQ Tn A ∧ aG 1 S S1
theorem dyn_cp {P Tn A S S1 : Tr} (hS : iR BM S) (hd : dyn 0 P Tn S) (hA : cpA A Tn A) (hc : cpH S S1) (hf : hF0 S S1) : dyn 1 P A S1 := by
  have h13 : 0 ≤ (S 0 13).toInt ∧ (S 0 13).toInt ≤ 6 := hS 0 13
  have h14 : 0 ≤ (S 0 14).toInt ∧ (S 0 14).toInt ≤ 10 := hS 0 14
  obtain ⟨d1, d2, d3, d4, d5⟩ := hd
  obtain ⟨a1, a2, a3, a4, a5, _⟩ := hA
  obtain ⟨c1, c2, c3, c4, c5, c6, _⟩ := hc
  have e13 : S1 0 13 = S 0 13 := hf 0 13 (by omega) (by omega) (by omega) (by omega) (by omega) (by omega) (by omega)
  have e14 : S1 0 14 = S 0 14 := hf 0 14 (by omega) (by omega) (by omega) (by omega) (by omega) (by omega) (by omega)
  refine ⟨(a1 0 (by omega)).trans (d1.trans c6.symm), (a1 1 (by omega)).trans (d2.trans c5.symm), fun p hp => ?_, fun i hi => ?_, fun p hp => ⟨?_, fun k hk => ?_, ?_⟩⟩
  · rw [e13] at hp
    have x := d3 p hp
    rw [show 6 * 0 + p = p by omega] at x
    have y := c4 p (by omega)
    rw [show 6 * 1 + p = 6 + p by omega, y.2.2.1, y.2.2.2, (a2 p (by omega)).2.2.1, (a2 p (by omega)).2.2.2]
    exact x
  · rw [e14] at hi
    have x := d4 i hi
    rw [show 10 * 0 + i = i by omega] at x
    have y := c1 i (by omega)
    rw [show 10 * 1 + i = 10 + i by omega, y.1, y.2, (a3 i (by omega)).2.1, (a3 i (by omega)).2.2]
    exact x
  · have x := (d5 p hp).1
    rw [show 5 * 0 + p = p by omega] at x
    rw [show 5 * 1 + p = 5 + p by omega, c3 p hp, (a5 p hp).1]
    exact x
  · have b56 := BM56 hS p
    rw [show 5 * 1 + p = 5 + p by omega, c3 p hp] at hk
    have x := (d5 p hp).2.1 k (by rw [show 5 * 0 + p = p by omega]; exact hk)
    rw [show 50 * 0 + 10 * p + k = 10 * p + k by omega] at x
    rw [show 50 * 1 + 10 * p + k = 50 + (10 * p + k) by omega, c2 _ (by omega), a4 _ (by omega)]
    exact x
  · have x := (d5 p hp).2.2
    have y := (d5 p hp).1
    have b56 := BM56 hS (5 * 0 + p)
    rw [(a5 p hp).2, (a5 p hp).1, x]
    refine wsm_cg (fun k hk => ?_)
    rw [y, i_cl] at hk
    unfold wgt
    rw [a4 _ (by omega)]
theorem inv_cp {S S1 : Tr} (hS : rI 0 S) (hv : inv 0 S) (hc : cpH S S1) (hf : hF0 S S1) : inv 1 S1 := by
  have h13 : 0 ≤ (S 0 13).toInt ∧ (S 0 13).toInt ≤ 6 := hS.1 0 13
  have h14 : 0 ≤ (S 0 14).toInt ∧ (S 0 14).toInt ≤ 10 := hS.1 0 14
  obtain ⟨c1, c2, c3, c4, c5, c6, _⟩ := hc
  have g : ∀ a j, a ≤ 52 → ¬ (a = 0 ∧ 64 ≤ j) → S1 a j = S a j := fun a j h n => hf a j (by omega) (by omega) (by omega) (by omega) (by omega) (by omega) (by omega)
  refine ⟨fun i hi => ?_, fun p hp => ?_⟩
  · rw [g 0 14 (by omega) (by omega)] at hi
    have x := hv.1 i hi
    have ow := own_lt hS i hi
    rw [show 10 * 0 + i = i by omega, show 6 * 0 + (S 30 i).toNatClampNeg = (S 30 i).toNatClampNeg by omega] at x
    rw [g 30 i (by omega) (by omega), g 0 12 (by omega) (by omega), show 10 * 1 + i = 10 + i by omega, show 6 * 1 + (S 30 i).toNatClampNeg = 6 + (S 30 i).toNatClampNeg by omega, (c1 i (by omega)).1, (c1 i (by omega)).2, (c4 _ (by omega)).2.2.1]
    exact x
  · rw [g 0 13 (by omega) (by omega)] at hp
    have x := hv.2 p hp
    rw [show 6 * 0 + p = p by omega] at x
    rw [show 6 * 1 + p = 6 + p by omega, (c4 p (by omega)).2.2.1, (c4 p (by omega)).1]
    exact x
theorem e_start {P Tn Tu S : Tr} {L : Lo} {pa qa : Nat → Nat} {q0 q2 : Nat} (h : Nw P Tn S L) : E2 (f_X7_startTrial pa qa Tn Tu q0 q2) (f_X8_layTried S) (fun q S1 => Rl 1 P q.1 S1 ∧ trQ Tn S q.1 S1) := by
  obtain ⟨hS, hK, hd, hv, n9, n13, nr, nl, _⟩ := h
  have h13 : 0 ≤ (S 0 13).toInt ∧ (S 0 13).toInt ≤ 6 := hS.1 0 13
  have h14 : 0 ≤ (S 0 14).toInt ∧ (S 0 14).toInt ≤ 10 := hS.1 0 14
  refine E2_ep (e_stt pa qa Tn Tu q0 q2) (Ep_and (e_layT S) (D_to (t_X8_layTried S hS.1 hS.2.2 hS.2.1))) (fun q S1 hq hs => ?_)
  obtain ⟨⟨hc, hp, hf⟩, r1, rg, r2, r3, _⟩ := hs
  obtain ⟨hA, x5, x6, x7⟩ := id hq
  have g : ∀ a j, a ≤ 52 → ¬ (a = 0 ∧ 64 ≤ j) → S1 a j = S a j := fun a j h n => hf a j (by omega) (by omega) (by omega) (by omega) (by omega) (by omega) (by omega)
  have p65 := hp.2.1 65 (by omega) (by omega)
  have p66 := hp.2.1 66 (by omega) (by omega)
  have p67 := hp.2.1 67 (by omega) (by omega)
  have p68 := hp.2.1 68 (by omega) (by omega)
  have p69 := hp.2.1 69 (by omega) (by omega)
  have hK1 : pK P S1 := pK_o hK (fun j h1 h2 => g 0 j (by omega) (by omega)) (fun a j h1 h2 => g a j (by omega) (by omega))
  have hs1 : sta 1 q.1 S1 := by
    refine ⟨fun p hpp => ?_, fun i hi => ?_, ?_, ?_, ?_, ?_, ?_, ?_, ?_⟩
    · rw [g 0 13 (by omega) (by omega)] at hpp
      have y := hc.2.2.2.1 p (by omega)
      rw [if_pos p69, show 6 * 1 + p = 6 + p by omega, y.1, y.2.1, (hA.2.1 p (by omega)).1, (hA.2.1 p (by omega)).2.1]
      exact n9 p hpp
    · rw [g 0 14 (by omega) (by omega)] at hi
      have m1 := hp.2.2 i (by omega)
      have y := (hA.2.2.1 i (by omega)).1
      have k := (hK.2.2.2.1 i hi).2.2.2.2.2.2
      rw [m1, if_pos (by decide), g 33 i (by omega) (by omega), g 0 12 (by omega) (by omega), y, n13 i hi]
      exact ⟨rfl, k⟩
    · rw [hp.1, hA.1 3 (by omega)]; exact nr.1
    · rw [if_pos p68, hA.1 4 (by omega), g 23 1 (by omega) (by omega)]; exact nr.2.1
    · rw [x5, p65]
    · rw [x6, p66]
      exact ⟨fun e => absurd e (by decide), fun e => absurd rfl e⟩
    · rw [x7, p67]
      exact ⟨fun e => absurd e (by decide), fun e => absurd rfl e⟩
    · rw [hp.1]; exact nr.2.2.1
    · rw [hp.1]; exact nr.2.2.2.1
  exact ⟨⟨⟨r1, r3, r2⟩, hK1, hs1, dyn_cp hS.1 hd hA hc hf, inv_cp hS hv hc hf⟩, hp.2.1 70 (by omega) (by omega), p65, x5, hf, hc, hp, hq, rg⟩
