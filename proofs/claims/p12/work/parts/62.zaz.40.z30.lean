/-! go -/
def awt (b : Nat) (S : Tr) : Prop := ∀ p : Nat, (p : Int) < (S 0 13).toInt → (S 62 b).toInt ≤ (S 57 (6 * b + p)).toInt → S 59 (6 * b + p) = 0
theorem e_goA {b : Nat} {S : Tr} {L : Lo} {xb : Int32} (hb : xb.toNatClampNeg = b) (h : awt b S) : Ep (f_X8_goOn S L xb) (fun q => ∀ p : Nat, (p : Int) < (S 0 13).toInt → (S 62 b).toInt + 1 ≤ (S 57 (6 * b + p)).toInt → q.1 59 (6 * b + p) = 0) := fun q e p hp hq => aw_goOn (j0 := 6 * b + p) hb ⟨h p hp (by omega), fun g => by rw [g] at hq; omega⟩ q e
theorem e_rl0 {P T S : Tr} {L : Lo} (h : Nw P T S L) {S1 : Tr} (hp : plT S S1) (hf : ∀ a j, ¬ (a = 0 ∧ 64 ≤ j ∧ j ≤ 70) → ¬ a = 72 → S1 a j = S a j) (hI : rI 0 S1) : Rl 0 P (st T 0 5 1) (st S1 0 65 1) := by
  obtain ⟨hS, hK, hd, hv, n9, n13, nr, nl, na⟩ := h
  have h13 : 0 ≤ (S 0 13).toInt ∧ (S 0 13).toInt ≤ 6 := hS.1 0 13
  have h14 : 0 ≤ (S 0 14).toInt ∧ (S 0 14).toInt ≤ 10 := hS.1 0 14
  have f : ∀ a j, ¬ (a = 0 ∧ 64 ≤ j ∧ j ≤ 70) → ¬ a = 72 → st S1 0 65 1 a j = S a j := fun a j n1 n2 => by rw [st_no (by omega)]; exact hf a j n1 n2
  have t : ∀ a j, ¬ (a = 0 ∧ j = 5) → st T 0 5 1 a j = T a j := fun a j n => st_no n
  have g : ∀ j, 64 ≤ j → ¬ j = 65 → st S1 0 65 1 0 j = S1 0 j := fun j _ n => st_ne n
  refine ⟨rI_s0 hI (iR_set hI.1 (by decide) (by decide)) (by omega) (by omega), pK_o hK (fun j h1 h2 => f 0 j (by omega) (by omega)) (fun a j h1 h2 => f a j (by omega) (by omega)), ⟨fun p hpp => ?_, fun i hi => ?_, ?_, ?_, ?_, ?_, ?_, ?_, ?_⟩, dyn_e hd hS.1 (fun a j q => t a j (by omega)) (fun a j q => f a j (by omega) (by omega)), inv_e hv (fun a j q => f a j (by omega) (by omega))⟩
  · rw [f 0 13 (by omega) (by omega)] at hpp
    rw [g 69 (by omega) (by omega), hp.2.1 69 (by omega) (by omega), if_pos rfl, t 9 p (by omega), t 10 p (by omega), f 57 _ (by omega) (by omega), f 58 _ (by omega) (by omega), show 6 * 0 + p = p by omega]
    exact n9 p hpp
  · rw [f 0 14 (by omega) (by omega)] at hi
    have k := (hK.2.2.2.1 i hi).2.2.2.2.2.2
    rw [t 13 i (by omega), st_oth (by omega), hp.2.2 i (by omega), if_pos (by decide), st_oth (by omega), st_ne (by omega), hf 33 i (by omega) (by omega), hf 0 12 (by omega) (by omega), n13 i hi]
    exact ⟨rfl, k⟩
  · rw [t 0 3 (by omega), g 64 (by omega) (by omega), hp.1]; exact nr.1
  · rw [t 0 4 (by omega), g 68 (by omega) (by omega), hp.2.1 68 (by omega) (by omega), if_pos rfl, f 23 1 (by omega) (by omega)]; exact nr.2.1
  · rw [st_same, st_same]
  · rw [t 0 6 (by omega), g 66 (by omega) (by omega), hp.2.1 66 (by omega) (by omega)]
    exact ⟨fun e => absurd e nr.2.2.2.2.1, fun e => absurd rfl e⟩
  · rw [t 0 7 (by omega), g 67 (by omega) (by omega), hp.2.1 67 (by omega) (by omega)]
    exact ⟨fun e => absurd e nr.2.2.2.2.2, fun e => absurd rfl e⟩
  · rw [g 64 (by omega) (by omega), hp.1]; exact nr.2.2.1
  · rw [g 64 (by omega) (by omega), hp.1]; exact nr.2.2.2.1
/-- where it goes on -/
def gG (P T0 S0 T S : Tr) (L : Lo) : Prop := Rl 0 P T S ∧ drw T L ∧ awt 0 S ∧ aM 0 S0 S ∧ ∀ a j, ¬ (a = 0 ∧ j ≤ 2) → ¬ (a = 11 ∨ a = 12) → ¬ (14 ≤ a ∧ a ≤ 19) → T a j = T0 a j
theorem gG_end {P T S T0 S0 : Tr} {L : Lo} (h : gG P T0 S0 T S L) (h5 : T0 0 5 = 1) (q : S0 0 64 = S0 23 0 ∧ S0 0 66 = 0 ∧ S0 0 67 = 0 ∧ S0 0 68 = 0 ∧ S0 0 69 = 0 ∧ ∀ i, i < 10 → S0 72 i = -1) : Nw P T (st S 0 65 0) L := by
  obtain ⟨hR, hd, ha, am, hf⟩ := h
  obtain ⟨hS, hK, ⟨s1, s2, s3, s4, s5, s6, s7, s8⟩, hdy, hv⟩ := id hR
  have h13 : 0 ≤ (S 0 13).toInt ∧ (S 0 13).toInt ≤ 6 := hS.1 0 13
  have h14 : 0 ≤ (S 0 14).toInt ∧ (S 0 14).toInt ≤ 10 := hS.1 0 14
  obtain ⟨q1, q2, q3, q4, q5, q6⟩ := q
  have z : ∀ j, ¬ j = 51 → ¬ j = 72 → S 0 j = S0 0 j := fun j n1 n2 => am 0 j (aM_0 n1 n2)
  have f : ∀ a j, ¬ (a = 0 ∧ j = 65) → st S 0 65 0 a j = S a j := fun a j n => st_no n
  have e23 : S 23 0 = S0 23 0 := am 23 0 (aM_p (by omega) (by omega))
  have t5 : ¬ T 0 5 = 0 := by rw [hf 0 5 (by omega) (by omega) (by omega), h5]; decide
  refine ⟨rI_s0 hS (iR_set hS.1 (by decide) (by decide)) (by omega) (by omega), pK_o hK (fun j h1 h2 => f 0 j (by omega)) (fun a j h1 h2 => f a j (by omega)), dyn_e hdy hS.1 (fun a j q => rfl) (fun a j q => f a j (by omega)), inv_e hv (fun a j q => f a j (by omega)), fun p hp => ?_, fun i hi => ?_, ⟨?_, ?_, ?_, ?_, ?_, ?_⟩, ⟨(hd t5).1, (hd t5).2, st_same⟩, fun p hp hq => ?_⟩
  · rw [f 0 13 (by omega)] at hp
    have x := s1 p hp
    rw [z 69 (by omega) (by omega), q5, if_pos rfl, show 6 * 0 + p = p by omega] at x
    rw [f 57 p (by omega), f 58 p (by omega)]; exact x
  · rw [f 0 14 (by omega)] at hi
    have x := (s2 i hi).1
    rw [am 72 i (Mb_rows (by omega)), q6 i (by omega), if_pos (by decide)] at x
    rw [f 33 i (by omega)]; exact x
  · rw [f 23 0 (by omega), s3, z 64 (by omega) (by omega), e23]; exact q1
  · rw [z 68 (by omega) (by omega), q4, if_pos rfl] at s4
    rw [f 23 1 (by omega)]; exact s4
  · rw [f 23 0 (by omega), e23, ← q1, ← z 64 (by omega) (by omega)]; exact s8.1
  · rw [f 23 0 (by omega), e23, ← q1, ← z 64 (by omega) (by omega)]; exact s8.2
  · intro e
    exact (s6.mp e) ((z 66 (by omega) (by omega)).trans q2)
  · intro e
    exact (s7.mp e) ((z 67 (by omega) (by omega)).trans q3)
  · rw [f 0 13 (by omega)] at hp
    rw [f 62 0 (by omega), f 57 p (by omega)] at hq
    rw [f 59 p (by omega)]
    have x := ha p hp
    rw [show 6 * 0 + p = p by omega] at x
    exact x hq
theorem gG_step {P T0 S0 T S : Tr} {L Lc : Lo} (h : gG P T0 S0 T S L) (h70 : S0 0 70 = 0) (hst : (S 62 0).toInt ≤ 20) : E2 (f_X6_passStop T P Lc) (f_X8_goOn S L 0) (fun q q' => gG P T0 S0 q.1 q'.1 q'.2 ∧ (q'.1 62 0).toInt = (S 62 0).toInt + 1) := by
  obtain ⟨hR, hd, ha, am, hf⟩ := h
  have b62 : 0 ≤ (S 62 0).toInt ∧ (S 62 0).toInt ≤ 21 := hR.1.1 62 0
  have e70 : S 0 70 = 0 := (am 0 70 (aM_0 (by omega) (by omega))).trans h70
  intro u v eu ev
  have g := e_pass (b := 0) (xb := 0) (Lc := Lc) (by decide) (by decide) hR hd e70 hst u v eu ev
  have w := e_goA (b := 0) (xb := 0) (by decide) ha v ev
  obtain ⟨p1, p2, p3, p4, _, p6⟩ := ps_of g hst b62.1
  refine ⟨⟨p1, p2, fun p hp hq => ?_, aM_t am p4, fun a j n1 n2 n3 => (p6 a j n1 n2 n3).trans (hf a j n1 n2 n3)⟩, p3⟩
  have e13 : v.1 0 13 = S 0 13 := p4 0 13 (aM_0 (by omega) (by omega))
  have e57 : v.1 57 (6 * 0 + p) = S 57 (6 * 0 + p) := p4 57 _ (Mb_rows (by omega))
  rw [e13] at hp
  rw [e57, p3] at hq
  exact w p hp hq
def gq7 (P C : Tr) (S : Tr) (x : Int32) (q : Int32 × Lo × Tr × Tr) (q' : Int32 × Tr × Lo) : Prop := q.1 = q'.1 ∧ Nw P q.2.2.1 q'.2.1 q'.2.2 ∧ ((q.2.2.2 = C ∧ q'.2.1 0 82 = S 0 82) ∨ (q.2.2.2 = st C 0 0 0 ∧ q'.2.1 0 82 = 0))
theorem e_X7go {P Tn C S : Tr} {L Lc : Lo} {pa qa : Nat → Nat} {q0 : Nat} {x : Int32} (h : Nw P Tn S L) : E2 (f_X7_go pa qa P Lc Tn C q0 x) (f_X8_go S L x) (gq7 P C S x) := by
  unfold f_X7_go f_X8_go
  refine E2_ltr (fun S1 e1 => ?_)
  have hN : Nw P Tn S1 L := by rw [e1]; exact Nw_2 h
  have e82 : S1 0 82 = S 0 82 := by rw [e1, st_ne (by omega)]
  have bad : gq7 P C S x ((-1), Lc, Tn, C) ((-1), S1, L) := ⟨rfl, hN, Or.inl ⟨rfl, e82⟩⟩
  by_cases c0 : x < 0
  · rw [if_pos c0, isIn_0 (Or.inl c0)]
    exact E2_sr (E2_pr rfl (E2_some bad))
  rw [if_neg c0]
  by_cases c21 : (21 : Int32) < x
  · rw [if_pos c21, isIn_0 (Or.inr c21)]
    exact E2_sr (E2_pr rfl (E2_some bad))
  rw [if_neg c21, isIn_1 c0 c21]
  refine E2_sr (E2_qr (by decide) ?_)
  have t00 : Tn 0 0 = S1 62 0 := hN.2.2.1.1
  rw [t00]
  refine E2_it Iff.rfl (fun c _ => ?_) (fun _ _ => E2_some bad)
  have x0 := tq_ltn (x := x) (y := 0) (b := 0) rfl (by decide) c0
  have x21 := tq_ltn (x := (21 : Int32)) (y := x) (a := 21) (by decide) rfl c21
  have b62 : 0 ≤ (S1 62 0).toInt ∧ (S1 62 0).toInt ≤ 21 := hN.1.1 62 0
  obtain ⟨m, hm⟩ : ∃ m : Nat, x.toInt = m := ⟨x.toInt.toNat, by omega⟩
  have sum : (S1 62 0 + x).toInt = (S1 62 0).toInt + x.toInt := i_addK rfl rfl (by omega) (by omega)
  have le21 : (S1 62 0).toInt + m ≤ 21 := by
    have := tq_le (x := S1 62 0 + x) (y := 21) (b := 21) rfl (by decide) c
    rw [sum, hm] at this
    exact this
  refine E2_ltl (fun T4 e4 => E2_br (Ep_and (e_plnT S1) (D_to (t_X8_plainTried S1 hN.1.1))) (fun S7 h7 => E2_ltr (fun S10 e10 => ?_)))
  obtain ⟨⟨hp, hf⟩, hB, hT⟩ := h7
  have hI7 : rI 0 S7 := ⟨hB, pI_fr hN.1.2.1 (fun j => hf 39 j (by omega) (by omega)) (fun j => hf 40 j (by omega) (by omega)) (fun j => hf 41 j (by omega) (by omega)) (fun j => hf 36 j (by omega) (by omega)) (fun j => hf 38 j (by omega) (by omega)) (fun j => hf 30 j (by omega) (by omega)) (fun j => hf 29 j (by omega) (by omega)) (hf 0 13 (by omega) (by omega)) (hf 0 14 (by omega) (by omega)), gI_fr hN.1.2.2 (fun j => hf 53 j (by omega) (by omega)) (fun j => hf 54 j (by omega) (by omega)) (fun j => hf 55 j (by omega) (by omega)) (fun j => hf 56 j (by omega) (by omega)) (fun j => hf 58 j (by omega) (by omega)) (hf 0 13 (by omega) (by omega)) (hf 0 14 (by omega) (by omega))⟩
  have g : ∀ a j, ¬ (a = 0 ∧ 64 ≤ j ∧ j ≤ 70) → ¬ a = 72 → S10 a j = S1 a j := fun a j n1 n2 => by rw [e10, st_no (by omega)]; exact hf a j n1 n2
  have z : ∀ j, 64 ≤ j → ¬ j = 65 → S10 0 j = S7 0 j := fun j _ n => by rw [e10, st_ne n]
  have hG : gG P T4 S10 T4 S10 L := by
    refine ⟨by rw [e4, e10]; exact e_rl0 hN hp hf hI7, fun _ => ?_, fun p hpp hq => ?_, aM_r, fun _ _ _ _ _ => rfl⟩
    · rw [e4, st_ne (by omega)]; exact ⟨hN.2.2.2.2.2.2.2.1.1, hN.2.2.2.2.2.2.2.1.2.1⟩
    · rw [show 6 * 0 + p = p by omega] at hq ⊢
      rw [g 0 13 (by omega) (by omega)] at hpp
      rw [g 62 0 (by omega) (by omega), g 57 p (by omega) (by omega)] at hq
      rw [g 59 p (by omega) (by omega)]
      exact hN.2.2.2.2.2.2.2.2 p hpp hq
  have q : S10 0 64 = S10 23 0 ∧ S10 0 66 = 0 ∧ S10 0 67 = 0 ∧ S10 0 68 = 0 ∧ S10 0 69 = 0 ∧ ∀ i, i < 10 → S10 72 i = -1 := ⟨by rw [z 64 (by omega) (by omega), g 23 0 (by omega) (by omega)]; exact hp.1, by rw [z 66 (by omega) (by omega)]; exact hp.2.1 66 (by omega) (by omega), by rw [z 67 (by omega) (by omega)]; exact hp.2.1 67 (by omega) (by omega), by rw [z 68 (by omega) (by omega)]; exact hp.2.1 68 (by omega) (by omega), by rw [z 69 (by omega) (by omega)]; exact hp.2.1 69 (by omega) (by omega), fun i hi => by rw [e10, st_oth (by omega)]; exact hp.2.2 i hi⟩
  have h70 : S10 0 70 = 0 := by rw [z 70 (by omega) (by omega)]; exact hp.2.1 70 (by omega) (by omega)
  have t5 : T4 0 5 = 1 := by rw [e4, st_same]
  have s62 : S10 62 0 = S1 62 0 := g 62 0 (by omega) (by omega)
  have s82 : S10 0 82 = S 0 82 := (g 0 82 (by omega) (by omega)).trans e82
  have lp : ∀ (N M n : Nat) (y : Int32) (T S2 : Tr) (L2 Lc2 : Lo), y.toInt = n → n ≤ m → gG P T4 S10 T S2 L2 → (S2 62 0).toInt = (S1 62 0).toInt + n → E2 (lpF (fun _ _ _ => none) (fB_X7_go_L36 pa qa P C q0 x) N y Lc2 T) (lpF (fun _ _ _ => none) (fB_X8_go_L41 x) M y S2 L2) (gq7 P C S x) := by
    intro N
    induction N with
    | zero => intro M n y T S2 L2 Lc2 _ _ _ _; exact E2_nl
    | succ N ih =>
      intro M n y T S2 L2 Lc2 hy hn hG2 hs
      cases M with
      | zero => exact E2_nr
      | succ M =>
        show E2 (fB_X7_go_L36 pa qa P C q0 x (lpF (fun _ _ _ => none) (fB_X7_go_L36 pa qa P C q0 x) N) y Lc2 T) (fB_X8_go_L41 x (lpF (fun _ _ _ => none) (fB_X8_go_L41 x) M) y S2 L2) _
        have ih := ih M
        generalize lpF (fun _ _ _ => none) (fB_X7_go_L36 pa qa P C q0 x) N = k36 at ih ⊢
        generalize lpF (fun _ _ _ => none) (fB_X8_go_L41 x) M = k41 at ih ⊢
        unfold fB_X7_go_L36 fB_X8_go_L41
        refine E2_it Iff.rfl (fun c _ => ?_) (fun c _ => E2_ckl (fun _ => ?_))
        · unfold fJ_X7_go_J54 fJ_X8_go_J57
          refine E2_ltr (fun S12 e12 => ?_)
          have hNw : Nw P T S12 L2 := by rw [e12]; exact gG_end hG2 t5 q
          have e82' : S2 0 82 = S10 0 82 := hG2.2.2.2.1 0 82 (aM_0 (by omega) (by omega))
          have nw82 : ∀ (v : Int32) (S14 : Tr), S14 = st S12 0 82 v → (v = S12 0 82 ∨ v = 0) → Nw P T S14 L2 ∧ S14 62 0 = T 0 0 := fun v S14 e14 hv => by
            have b82 := hNw.1.1 0 82
            have b82' : (BM 0 82).1 ≤ v.toInt ∧ v.toInt ≤ (BM 0 82).2 := by
              rcases hv with e | e
              · rw [e]; exact b82
              · rw [e]; exact ⟨by decide, by decide⟩
            have r : Nw P T S14 L2 := by
              rw [e14]
              refine Nw_of hNw (rI_s0 hNw.1 (iR_set hNw.1.1 b82'.1 b82'.2) (by omega) (by omega)) (fun a j hc => st_no (fun e => ?_)) (by rw [st_ne (by omega)]; exact hNw.2.2.2.2.2.2.2.1.2.2) rfl
              obtain ⟨rfl, rfl⟩ := e
              unfold h0c at hc
              omega
            exact ⟨r, r.2.2.1.1.symm⟩
          refine E2_it Iff.rfl (fun _ _ => ?_) (fun _ _ => E2_ltl (fun C7 e7 => ?_))
          · unfold fJ_X8_go_J75
            refine E2_ltr (fun S14 e14 => E2_some ?_)
            obtain ⟨r1, r2⟩ := nw82 _ S14 e14 (Or.inl rfl)
            exact ⟨r2.symm, r1, Or.inl ⟨rfl, by show S14 0 82 = S 0 82; rw [e14, st_same, e12, st_ne (by omega), e82', s82]⟩⟩
          · unfold fJ_X8_go_J75
            refine E2_ltr (fun S14 e14 => E2_some ?_)
            obtain ⟨r1, r2⟩ := nw82 _ S14 e14 (Or.inr rfl)
            exact ⟨r2.symm, r1, Or.inr ⟨e7, by show S14 0 82 = 0; rw [e14, st_same]⟩⟩
        · have lt := tq_len hm hy c
          refine E2_bd (gG_step hG2 h70 (by omega)) (fun u v huv => E2_ltl (fun T9 e9 => E2_ltl (fun L10 _ => E2_ltl (fun y13 e13 => E2_ltr (fun S15 e15 => E2_ltr (fun L16 e16 => E2_ltr (fun y19 e19 => ?_)))))))
          rw [show y19 = y13 by rw [e19, e13]]
          refine ih (n + 1) y13 T9 S15 L16 L10 (by rw [e13]; exact i_p1 hy (by omega)) (by omega) (by rw [e9, e15, e16]; exact huv.1) ?_
          rw [e15, huv.2, hs]
          omega
  unfold fL_X7_go_L36 fL_X8_go_L41
  exact lp 2000 2000 0 0 T4 S10 L Lc (by decide) (by omega) hG (by rw [s62]; omega)
