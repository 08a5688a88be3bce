/-! getting out: the last stop, the whole way round -/
theorem sta_f {b : Nat} {T S S1 : Tr} (h : sta b T S) (e : ∀ a j, ¬ (a = 0 ∧ j = 51) → ¬ (53 ≤ a ∧ a ≤ 56) → ¬ a = 59 → S1 a j = S a j) : sta b T S1 := by
  have e0 : ∀ j, ¬ j = 51 → S1 0 j = S 0 j := fun j hj => e 0 j (by omega) (by omega) (by omega)
  have q : ∀ a, ¬ a = 0 → ¬ (53 ≤ a ∧ a ≤ 56) → ¬ a = 59 → S1 a = S a := fun a h0 h1 h2 => funext (fun j => e a j (by omega) h1 h2)
  unfold sta at h ⊢
  rw [e0 13 (by omega), e0 14 (by omega), e0 12 (by omega), e0 69 (by omega), e0 64 (by omega), e0 68 (by omega), e0 65 (by omega), e0 66 (by omega), e0 67 (by omega), q 57 (by omega) (by omega) (by omega), q 58 (by omega) (by omega) (by omega), q 72 (by omega) (by omega) (by omega), q 33 (by omega) (by omega) (by omega), q 23 (by omega) (by omega) (by omega)]
  exact h
theorem bel_S {b i : Nat} {S : Tr} {xb x1 : Int32} (hb : xb.toNatClampNeg = b) (hxb : 0 ≤ xb.toInt ∧ xb.toInt ≤ 1) (hS : iR BM S) (hg : gS b S) (hi : x1.toInt = i) (hi9 : i ≤ 9) (hl : 0 ≤ (S 54 (10 * b + i)).toInt) : ∃ p pos h : Nat, p ≤ 4 ∧ (S 54 (10 * b + i)).toInt = p ∧ (S 56 (5 * b + p)).toInt = h ∧ pos < h ∧ h ≤ 10 ∧ Ep (f_X8_belowOf S xb x1) (fun q => q.toInt = pos) := by
  obtain ⟨p, pos, p5, hp, hk, hs, hu, h9⟩ := wh hS hg (by omega) hl
  have b56 := BM56 hS (5 * b + p)
  obtain ⟨h, hh⟩ : ∃ h : Nat, (S 56 (5 * b + p)).toInt = h := ⟨(S 56 (5 * b + p)).toInt.toNat, by omega⟩
  refine ⟨p, pos, h, by omega, hp, hh, by omega, by omega, ?_⟩
  have j10 : (((10 : Int32) * xb) + x1).toNatClampNeg = 10 * b + i := by rw [jx 10 (by decide) (by omega) hxb hi (by omega), hb]
  have hly : (S 54 (((10 : Int32) * xb) + x1).toNatClampNeg).toInt = p := by rw [j10]; exact hp
  have j5 : (((5 : Int32) * xb) + (S 54 (((10 : Int32) * xb) + x1).toNatClampNeg)).toNatClampNeg = 5 * b + p := by rw [jx 5 (by decide) (by omega) hxb hly (by omega), hb]
  refine Ep_mono (D_to (t_X8_belowOf S xb x1 hS hxb ⟨by omega, by omega⟩ (by rw [hb]; exact hg) (by omega))) (fun q hq => ?_)
  obtain ⟨q0, q1, q2⟩ := hq
  rw [j5] at q1
  obtain ⟨k, hk2⟩ : ∃ k : Nat, q.toInt = k := ⟨q.toInt.toNat, by omega⟩
  rw [hb, i_cn hly, i_cn hk2] at q2
  have := hu k (by omega) (by rw [q2]; exact hi)
  omega
theorem fr_S {b n : Nat} {S : Tr} {xb x : Int32} (hb : xb.toNatClampNeg = b) (hxb : 0 ≤ xb.toInt ∧ xb.toInt ≤ 1) (hS : rI b S) (hx : x.toInt = n) (hn : n ≤ 9) (h1 : S 53 (10 * b + n) = 1) : Ep (f_X8_takes S xb x 5) (fun q => rI b q ∧ aM b S q ∧ vF b S q ∧ q 53 (10 * b + n) = 5) := by
  have j10 : (((10 : Int32) * xb) + x).toNatClampNeg = 10 * b + n := by rw [jx 10 (by decide) (by omega) hxb hx (by omega), hb]
  have hly : 0 ≤ (S 54 (10 * b + n)).toInt := (hS.2.2.2.1 n (by omega)).mp h1
  obtain ⟨p, pos, h, p4, hp, hh, hpos, h10, hbl⟩ := bel_S hb hxb hS.1 hS.2.2.1 hx hn hly
  have c2 := e_tks (c := 5) hb hxb hx hn hp p4 hh hbl hpos h10
  have c3 := D_to (t_X8_takes2 S xb x 5 hS.1 (by rw [hb]; exact hS.2.2) hxb ⟨by omega, by omega⟩ (by decide) (by rw [j10]; exact hly) (by decide))
  rw [hb] at c3
  refine Ep_mono (Ep_and c2 c3) (fun q hq => ?_)
  obtain ⟨q2, q3, q4, q5, q6⟩ := hq
  exact ⟨⟨q3, pI_aG hS.2.1 q5, q4⟩, aM_fx q5 (fx_z q2), vF_k q2 h1, by rw [q2.2.2.2.1, if_pos rfl]⟩
def enQ (b : Nat) (S : Tr) (L : Lo) (q : Tr × Lo) : Prop := q.2 = L ∧ rI b q.1 ∧ aM b S q.1 ∧ (∀ i : Nat, (i : Int) < (S 0 14).toInt → (¬ S 53 (10 * b + i) = 1 ∧ q.1 53 (10 * b + i) = S 53 (10 * b + i) ∧ q.1 54 (10 * b + i) = S 54 (10 * b + i)) ∨ (S 53 (10 * b + i) = 1 ∧ q.1 53 (10 * b + i) = 5 ∧ q.1 54 (10 * b + i) = -1)) ∧ (∀ p : Nat, (p : Int) < (S 0 13).toInt → (¬ S 59 (6 * b + p) = 1 ∧ q.1 59 (6 * b + p) = S 59 (6 * b + p)) ∨ (S 59 (6 * b + p) = 1 ∧ q.1 59 (6 * b + p) = 2)) ∧ ∀ a j, ¬ (53 ≤ a ∧ a ≤ 56) → ¬ a = 59 → q.1 a j = S a j
theorem en_261 {b : Nat} {S S1 : Tr} {L : Lo} {xb : Int32} (hb : xb.toNatClampNeg = b) (hxb : 0 ≤ xb.toInt ∧ xb.toInt ≤ 1) (hS : iR BM S) (hv : vF b S S1) (hz : ∀ i : Nat, (i : Int) < (S 0 14).toInt → ¬ S1 53 (10 * b + i) = 1) (N : Nat) : ∀ (n : Nat) (x : Int32) (S2 : Tr), x.toInt = n → n ≤ 6 → rI b S2 → aM b S S2 → (∀ a j, ¬ a = 59 → S2 a j = S1 a j) → (∀ p : Nat, p < n → (p : Int) < (S 0 13).toInt → (¬ S 59 (6 * b + p) = 1 ∧ S2 59 (6 * b + p) = S 59 (6 * b + p)) ∨ (S 59 (6 * b + p) = 1 ∧ S2 59 (6 * b + p) = 2)) → (∀ p : Nat, n ≤ p → S2 59 (6 * b + p) = S 59 (6 * b + p)) → Ep (lpF (fun _ _ => none) (fB_X8_outs_L261 L xb) N x S2) (enQ b S L) := by
  have h13 : 0 ≤ (S 0 13).toInt ∧ (S 0 13).toInt ≤ 6 := hS 0 13
  induction N with
  | zero => intro n x S2 _ _ _ _ _ _ _; exact Ep_none
  | succ N ih =>
    intro n x S2 hx hn hr ha ho hp hq
    show Ep (fB_X8_outs_L261 L xb (lpF (fun _ _ => none) (fB_X8_outs_L261 L xb) N) x S2) _
    generalize lpF (fun _ _ => none) (fB_X8_outs_L261 L xb) N = k at ih ⊢
    have e13 : S2 0 13 = S 0 13 := (ho 0 13 (by omega)).trans (hv.2 0 13 (by omega))
    have e1 := i_p1 hx (by omega)
    unfold fB_X8_outs_L261
    rw [e13]
    refine Ep_ite (fun c => ?_) (fun c => ?_)
    · have := tq_le rfl hx c
      refine Ep_some ⟨rfl, hr, ha, fun i hi => ?_, fun p hp2 => hp p (by omega) hp2, fun a j n1 n2 => (ho a j n2).trans (hv.2 a j n1)⟩
      show (¬ S 53 (10 * b + i) = 1 ∧ S2 53 (10 * b + i) = S 53 (10 * b + i) ∧ S2 54 (10 * b + i) = S 54 (10 * b + i)) ∨ (S 53 (10 * b + i) = 1 ∧ S2 53 (10 * b + i) = 5 ∧ S2 54 (10 * b + i) = -1)
      rw [ho 53 _ (by omega), ho 54 _ (by omega)]
      rcases hv.1 i hi with ⟨a1, a2⟩ | ⟨a1, a2, a3⟩
      · exact Or.inl ⟨fun g => hz i hi (a1.trans g), a1, a2⟩
      · exact Or.inr ⟨a1, a2, a3⟩
    · have := tq_len rfl hx c
      have j6 : (((6 : Int32) * xb) + x).toNatClampNeg = 6 * b + n := by rw [jx 6 (by decide) (by omega) hxb hx (by omega), hb]
      rw [j6, hq n (Nat.le_refl _)]
      refine Ep_ck (Ep_ite (fun c2 => Ep_lt (fun S10 e10 => Ep_lt (fun y ey => ?_))) (fun c2 => Ep_lt (fun y ey => ?_)))
      · refine ih (n + 1) y S10 (by rw [ey]; exact e1) (by omega) (by rw [e10]; exact rI_out hr) (by rw [e10]; exact aM_s ha (Mb_59 (inB_of (by omega) (by omega)))) (fun a j h => by rw [e10, st_oth h]; exact ho a j h) (fun p hp1 hp2 => ?_) (fun p hp1 => ?_)
        · rw [e10]
          by_cases g : p = n
          · subst g; rw [st_same]; exact Or.inr ⟨c2, rfl⟩
          · rw [st_ne (by omega)]; exact hp p (by omega) hp2
        · rw [e10, st_ne (by omega)]; exact hq p (by omega)
      · refine ih (n + 1) y S2 (by rw [ey]; exact e1) (by omega) hr ha ho (fun p hp1 hp2 => ?_) (fun p hp1 => hq p (by omega))
        by_cases g : p = n
        · subst g; exact Or.inl ⟨c2, hq p (Nat.le_refl _)⟩
        · exact hp p (by omega) hp2
theorem en_223 {b : Nat} {S : Tr} {L : Lo} {xb : Int32} (hb : xb.toNatClampNeg = b) (hxb : 0 ≤ xb.toInt ∧ xb.toInt ≤ 1) (hS : rI b S) : Ep (fL_X8_outs_L223 L xb 0 S) (enQ b S L) := by
  have h14 : 0 ≤ (S 0 14).toInt ∧ (S 0 14).toInt ≤ 10 := hS.1 0 14
  have lp : ∀ (N n : Nat) (x : Int32) (S1 : Tr), x.toInt = n → n ≤ 10 → rI b S1 → aM b S S1 → vF b S S1 → (∀ i : Nat, i < n → ¬ S1 53 (10 * b + i) = 1) → Ep (lpF (fun _ _ => none) (fB_X8_outs_L223 L xb) N x S1) (enQ b S L) := by
    intro N
    induction N with
    | zero => intro n x S1 _ _ _ _ _ _; exact Ep_none
    | succ N ih =>
      intro n x S1 hx hn hr ha hv hz
      show Ep (fB_X8_outs_L223 L xb (lpF (fun _ _ => none) (fB_X8_outs_L223 L xb) N) x S1) _
      generalize lpF (fun _ _ => none) (fB_X8_outs_L223 L xb) N = k at ih ⊢
      have e14 : S1 0 14 = S 0 14 := hv.2 0 14 (by omega)
      have e1 := i_p1 hx (by omega)
      unfold fB_X8_outs_L223
      rw [e14]
      refine Ep_ite (fun c => ?_) (fun c => ?_)
      · have := tq_le rfl hx c
        unfold fL_X8_outs_L261
        exact en_261 hb hxb hS.1 hv (fun i hi => hz i (by omega)) 2000 0 0 S1 (by decide) (by omega) hr ha (fun _ _ _ => rfl) (fun p hp => absurd hp (by omega)) (fun p _ => hv.2 59 _ (by omega))
      · have := tq_len rfl hx c
        have j10 : (((10 : Int32) * xb) + x).toNatClampNeg = 10 * b + n := by rw [jx 10 (by decide) (by omega) hxb hx (by omega), hb]
        rw [j10]
        refine Ep_ck (Ep_ite (fun c2 => Ep_bd (fr_S hb hxb hr hx (by omega) c2) (fun q hq => Ep_lt (fun y ey => ?_))) (fun c2 => Ep_lt (fun y ey => ?_)))
        · obtain ⟨q1, q2, q3, q4⟩ := hq
          refine ih (n + 1) y q (by rw [ey]; exact e1) (by omega) q1 (aM_t ha q2) (vF_t hv q3) (fun i hi => ?_)
          by_cases g : i = n
          · subst g; rw [q4]; decide
          · rcases q3.1 i (by rw [e14]; omega) with ⟨a1, a2⟩ | ⟨a1, a2, a3⟩
            · rw [a1]; exact hz i (by omega)
            · rw [a2]; decide
        · refine ih (n + 1) y S1 (by rw [ey]; exact e1) (by omega) hr ha hv (fun i hi => ?_)
          rcases (by omega : i < n ∨ i = n) with g | rfl
          · exact hz i g
          · exact c2
  unfold fL_X8_outs_L223
  exact lp 2000 0 0 S (by decide) (by omega) hS aM_r vF_r (fun i hi => absurd hi (by omega))
def ouQ (b : Nat) (P T0 S0 : Tr) (L0 : Lo) (q : Int32 × Tr × Lo) (q' : Tr × Lo) : Prop := Rl b P q.2.1 q'.1 ∧ q.1 = q'.1 0 72 ∧ (0 ≤ q.1.toInt ∧ q.1.toInt ≤ 60000) ∧ fCt T0 q.2.1 ∧ fO S0 q'.1 ∧ aM b S0 q'.1 ∧ oL L0 q'.2 ∧ (∀ i : Nat, (i : Int) < (S0 0 14).toInt → q'.1 53 (10 * b + i) = S0 53 (10 * b + i) ∨ (S0 53 (10 * b + i) = 1 ∧ (q'.1 53 (10 * b + i) = 2 ∨ q'.1 53 (10 * b + i) = 5))) ∧ (S0 62 b = 20 → (∀ i : Nat, (i : Int) < (S0 0 14).toInt → ¬ q'.1 53 (10 * b + i) = 1) ∧ ∀ p : Nat, (p : Int) < (S0 0 13).toInt → ¬ q'.1 59 (6 * b + p) = 1)
/-- all is set free at the last stop: the two meet again -/
theorem ou_fin {b o : Nat} {P T V S q : Tr} {L L1 : Lo} (hV : Rl b P T V) (hS : rI b S) (hv : inv b S) (h : vS b o S V) (ho : (S 0 13).toInt ≤ (o : Int)) (e : enQ b S L (q, L1)) : Rl b P T q ∧ (∀ i : Nat, (i : Int) < (S 0 14).toInt → ¬ q 53 (10 * b + i) = 1) ∧ ∀ p : Nat, (p : Int) < (S 0 13).toInt → ¬ q 59 (6 * b + p) = 1 := by
  obtain ⟨_, er, ea, ei, ep, eo⟩ := e
  have er : rI b q := er
  have ea : aM b S q := ea
  have ei : ∀ i : Nat, (i : Int) < (S 0 14).toInt → (¬ S 53 (10 * b + i) = 1 ∧ q 53 (10 * b + i) = S 53 (10 * b + i) ∧ q 54 (10 * b + i) = S 54 (10 * b + i)) ∨ (S 53 (10 * b + i) = 1 ∧ q 53 (10 * b + i) = 5 ∧ q 54 (10 * b + i) = -1) := ei
  have ep : ∀ p : Nat, (p : Int) < (S 0 13).toInt → (¬ S 59 (6 * b + p) = 1 ∧ q 59 (6 * b + p) = S 59 (6 * b + p)) ∨ (S 59 (6 * b + p) = 1 ∧ q 59 (6 * b + p) = 2) := ep
  have eo : ∀ a j, ¬ (53 ≤ a ∧ a ≤ 56) → ¬ a = 59 → q a j = S a j := eo
  obtain ⟨p1, p2, p3, p4, p5⟩ := h
  have nq : ∀ i : Nat, (i : Int) < (S 0 14).toInt → ¬ q 53 (10 * b + i) = 1 := fun i hi => by
    rcases ei i hi with ⟨a1, a2, _⟩ | ⟨_, a2, _⟩
    · rw [a2]; exact a1
    · rw [a2]; decide
  have np : ∀ p : Nat, (p : Int) < (S 0 13).toInt → ¬ q 59 (6 * b + p) = 1 := fun p hp => by
    rcases ep p hp with ⟨a1, a2⟩ | ⟨_, a2⟩
    · rw [a2]; exact a1
    · rw [a2]; decide
  have v13 : V 0 13 = S 0 13 := p5 0 13 (by omega) (by omega) (by omega)
  have v14 : V 0 14 = S 0 14 := p5 0 14 (by omega) (by omega) (by omega)
  have b14 : 0 ≤ (S 0 14).toInt ∧ (S 0 14).toInt ≤ 10 := hS.1 0 14
  have ow : ∀ i : Nat, (i : Int) < (S 0 14).toInt → (((S 30 i).toNatClampNeg : Nat) : Int) < (S 0 13).toInt := fun i hi => by
    have g1 := hS.2.1.2.2.1 i (by omega) hi
    have g2 : 0 ≤ (S 30 i).toInt ∧ (S 30 i).toInt ≤ 5 := hS.1 30 i
    rw [i_cl]; omega
  have nV : ∀ i : Nat, (i : Int) < (S 0 14).toInt → ¬ V 53 (10 * b + i) = 1 := fun i hi g => by
    have w := (hV.2.2.2.2.1 i (by rw [v14]; exact hi)).1 g
    rw [p5 30 i (by omega) (by omega) (by omega)] at w
    have w2 := ow i hi
    exact p3 _ (by omega) w2 w
  have s53 : ∀ i : Nat, (i : Int) < (S 0 14).toInt → V 53 (10 * b + i) = q 53 (10 * b + i) ∧ V 54 (10 * b + i) = q 54 (10 * b + i) := fun i hi => by
    rcases p1 i hi with ⟨a1, a2⟩ | ⟨a1, a2, a3⟩
    · rcases ei i hi with ⟨c1, c2, c3⟩ | ⟨c1, c2, c3⟩
      · exact ⟨a1.trans c2.symm, a2.trans c3.symm⟩
      · exact absurd (a1.trans c1) (nV i hi)
    · rcases ei i hi with ⟨c1, c2, c3⟩ | ⟨c1, c2, c3⟩
      · exact absurd a1 c1
      · exact ⟨a2.trans c2.symm, a3.trans c3.symm⟩
  have s59 : ∀ p : Nat, (p : Int) < (S 0 13).toInt → V 59 (6 * b + p) = q 59 (6 * b + p) := fun p hp => by
    have n := p3 p (by omega) hp
    rcases p2 p hp with a1 | ⟨a1, a2⟩
    · rcases ep p hp with ⟨c1, c2⟩ | ⟨c1, c2⟩
      · exact a1.trans c2.symm
      · exact absurd (a1.trans c1) n
    · rcases ep p hp with ⟨c1, c2⟩ | ⟨c1, c2⟩
      · exact absurd a1 c1
      · exact a2.trans c2.symm
  have qv : ∀ a j, ¬ (a = 0 ∧ j = 51) → ¬ (53 ≤ a ∧ a ≤ 56) → ¬ a = 59 → q a j = V a j := fun a j n1 n2 n3 => (eo a j n2 n3).trans (p5 a j n1 n2 n3).symm
  have q13 : q 0 13 = S 0 13 := eo 0 13 (by omega) (by omega)
  have q14 : q 0 14 = S 0 14 := eo 0 14 (by omega) (by omega)
  obtain ⟨d1, d2, d3, d4, d5⟩ := hV.2.2.2.1
  have hV0 := h_0 hV.1 (fun i hi => nV i (by rw [v14] at hi; exact hi))
  have hq0 := h_0 er (fun i hi => nq i (by rw [q14] at hi; exact hi))
  refine ⟨⟨er, pK_o hV.2.1 (fun j h1 h2 => qv 0 j (by omega) (by omega) (by omega)) (fun a j h1 h2 => qv a j (by omega) (by omega) (by omega)), sta_f hV.2.2.1 qv, ⟨?_, ?_, fun p hp => ?_, fun i hi => ?_, fun p hp => ?_⟩, fun i hi => ?_, fun p hp => ?_⟩, nq, np⟩
  · rw [qv 62 b (by omega) (by omega) (by omega)]; exact d1
  · rw [qv 61 b (by omega) (by omega) (by omega)]; exact d2
  · rw [q13] at hp
    have g := d3 p (by rw [v13]; exact hp)
    exact ⟨g.1.trans (s59 p hp), g.2.trans (qv 60 _ (by omega) (by omega) (by omega)).symm⟩
  · rw [q14] at hi
    have g := d4 i (by rw [v14]; exact hi)
    exact ⟨g.1.trans (s53 i hi).1, g.2.trans (s53 i hi).2⟩
  · obtain ⟨g1, g2, g3⟩ := d5 p hp
    refine ⟨g1.trans ((hV0 p hp).trans (hq0 p hp).symm), fun k hk => ?_, g3⟩
    rw [hq0 p hp, show (0 : Int32).toInt = 0 by decide] at hk
    omega
  · rw [q14] at hi
    obtain ⟨v1, v2, v3⟩ := hv.1 i hi
    have w := ow i hi
    rw [eo 30 i (by omega) (by omega), eo 0 12 (by omega) (by omega)]
    refine ⟨fun g => absurd g (nq i hi), fun g => ?_, ?_⟩
    · have s0 : S 59 (6 * b + (S 30 i).toNatClampNeg) = 0 := by
        rcases ep _ w with ⟨c1, c2⟩ | ⟨c1, c2⟩
        · exact c2.symm.trans g
        · rw [c2] at g; exact absurd g (by decide)
      have s1 := v2 s0
      rcases ei i hi with ⟨a1, a2, _⟩ | ⟨a1, _, _⟩
      · exact a2.trans s1
      · rw [s1] at a1; exact absurd a1 (by decide)
    · rcases ei i hi with ⟨_, _, a3⟩ | ⟨_, _, a3⟩
      · rw [a3]; exact v3
      · rw [a3]
        have b12 : 0 ≤ (S 0 12).toInt ∧ (S 0 12).toInt ≤ 5 := hS.1 0 12
        show (-1 : Int) < _
        omega
  · rw [q13] at hp
    obtain ⟨w1, w2⟩ := hv.2 p hp
    rw [eo 57 _ (by omega) (by omega)]
    refine ⟨?_, w2⟩
    rcases ep p hp with ⟨c1, c2⟩ | ⟨c1, c2⟩
    · rw [c2]; exact w1
    · rw [c2]; exact Or.inr (Or.inr rfl)
