/-! moved by call -/
theorem e_tpN {b n : Nat} {P T S : Tr} {xn : Int32} (hS : iR BM S) (hk : stk b P T S) (hx : xn.toInt = n) (hn : n < 5) : Ep (f_X6_top T xn) (fun r => (S 56 (5 * b + n) = 0 ∧ r = -1) ∨ (¬ S 56 (5 * b + n) = 0 ∧ r = S 55 (50 * b + 10 * n + ((S 56 (5 * b + n)).toInt.toNat - 1)))) := by
  obtain ⟨g1, g2, g3⟩ := hk n hn
  have b56 := BM56 hS (5 * b + n)
  unfold f_X6_top
  rw [i_cn hx, g1]
  refine Ep_ck (Ep_ite (fun c => Ep_some (Or.inl ⟨c, rfl⟩)) (fun c => Ep_ck (Ep_some (Or.inr ⟨c, ?_⟩))))
  have c1 : ¬ (S 56 (5 * b + n)).toInt = 0 := fun g => c (Int32.toInt_inj.mp (g.trans (by decide)))
  obtain ⟨h, hh⟩ : ∃ h : Nat, (S 56 (5 * b + n)).toInt = h := ⟨(S 56 (5 * b + n)).toInt.toNat, by omega⟩
  have e1 : ((xn * 10) + S 56 (5 * b + n)).toInt = 10 * n + h := (jy hx (by omega) hh (by omega)).2
  have e2 : (((xn * 10) + S 56 (5 * b + n)) - 1).toNatClampNeg = 10 * n + (h - 1) := i_cn (by rw [i_subK e1 (y := 1) (by decide) (by omega) (by omega)]; omega)
  rw [e2, hh, show ((h : Nat) : Int).toNat = h by omega]
  exact g2 (h - 1) (by rw [hh]; omega)
/-- the top of a place is the piece: it lies there with nothing above -/
theorem top_is {i p2 p pos : Nat} {T S : Tr} {r x1 x2 : Int32} (hS : iR BM S) (hg : gS 0 S) (hi : x1.toInt = i) (hp2 : x2.toInt = p2) (h5 : p2 < 5) (ha : at2 0 T S i p pos) (hr : (S 56 (5 * 0 + p2) = 0 ∧ r = -1) ∨ (¬ S 56 (5 * 0 + p2) = 0 ∧ r = S 55 (50 * 0 + 10 * p2 + ((S 56 (5 * 0 + p2)).toInt.toNat - 1)))) : r = x1 ↔ (p2 = p ∧ (S 56 (5 * 0 + p)).toInt - 1 - pos = 0) := by
  obtain ⟨a1, a2, a3, a4, a5, a6, a7, a8, a9, a10⟩ := ha
  have b56 := BM56 hS (5 * 0 + p2)
  constructor
  · intro e
    rcases hr with ⟨_, h2⟩ | ⟨h1, h2⟩
    · exfalso
      rw [h2] at e
      rw [← e, show (-1 : Int32).toInt = -1 by decide] at hi
      omega
    · have n0 : ¬ (S 56 (5 * 0 + p2)).toInt = 0 := fun g => h1 (Int32.toInt_inj.mp (g.trans (by decide)))
      obtain ⟨h, hh⟩ : ∃ h : Nat, (S 56 (5 * 0 + p2)).toInt = h := ⟨(S 56 (5 * 0 + p2)).toInt.toNat, by omega⟩
      rw [hh, show ((h : Nat) : Int).toNat = h by omega] at h2
      obtain ⟨t, t1, t2, t3, t4⟩ := sk_at (b := 0) (p := p2) (k := h - 1) hS hg h5 (by omega)
      rw [← h2, e, hi] at t2
      have ti : t = i := by omega
      subst ti
      rw [← a3, a1] at t4
      have pe : p2 = p := by omega
      subst pe
      refine ⟨rfl, ?_⟩
      have := a10 (h - 1) (by omega) (by rw [a9 _ (by omega), ← h2, e]; exact hi)
      omega
  · rintro ⟨rfl, e⟩
    rcases hr with ⟨h1, _⟩ | ⟨h1, h2⟩
    · exfalso
      rw [h1, show (0 : Int32).toInt = 0 by decide] at a5
      omega
    · rw [h2]
      obtain ⟨h, hh⟩ : ∃ h : Nat, (S 56 (5 * 0 + p2)).toInt = h := ⟨(S 56 (5 * 0 + p2)).toInt.toNat, by omega⟩
      rw [hh, show ((h : Nat) : Int).toNat = h by omega, show h - 1 = pos by omega, ← a9 pos a5]
      exact Int32.toInt_inj.mp (a8.trans hi.symm)
theorem mvCore {P T S T1 S1 T2 S2 : Tr} {L : Lo} {i p pos h p2 : Nat} {x1 x2 : Int32} (hN : Nw P T S L) (hi : x1.toInt = i) (hii : (i : Int) < (S 0 14).toInt) (hp2 : x2.toInt = p2) (h12 : (p2 : Int) < (S 0 12).toInt) (h1 : S 53 i = 1) (ha : at2 0 T S i p pos) (hh : (S 56 (5 * 0 + p)).toInt = h) (c1 : tkC P T T1 i p pos h 1) (z1 : tkZ 0 S S1 i p pos h 1) (hB : iR BM S1) (h2 : Nat) (hh2 : (S1 56 (5 * 0 + p2)).toInt = h2) (h9 : h2 ≤ 9) (c2 : ptC P T1 T2 i p2 h2 x1 x2) (z2 : ptZ 0 S1 S2 i p2 h2 x1 x2) (hI : rI 0 S2) : Nw P T2 S2 L := by
  have h14 : 0 ≤ (S 0 14).toInt ∧ (S 0 14).toInt ≤ 10 := hN.1.1 0 14
  have b12 : 0 ≤ (S 0 12).toInt ∧ (S 0 12).toInt ≤ 5 := hN.1.1 0 12
  have d1 := dyn_take hN.2.2.1 hN.1.1 ha (by omega) hh c1 z1
  have d2 := dyn_put d1 hB hi (by omega) (by omega) hh2 h9 c2 z2
  obtain ⟨u1, u2, u3, u4, u5, u6⟩ := c1
  obtain ⟨v1, v2, v3, v4, v5, v6⟩ := c2
  obtain ⟨y1, y2, y3, y4, y5⟩ := z1
  obtain ⟨w1, w2, w3, w4, w5⟩ := z2
  have t14 : T 14 i = 1 := by
    have x := (hN.2.2.1.2.2.2.1 i hii).1
    rw [show 10 * 0 + i = i by omega] at x
    exact x.trans h1
  refine Nw_mv hN hI (fun a j q => ?_) (fun a j n1 n2 n3 n4 n5 n6 n7 => ?_) (fun q hq => ?_) (fun j hj => ?_) d2.2.2.2.2
  · by_cases g : a = 14
    · subst g
      rw [v5]
      by_cases e : j = i
      · subst e; rw [if_pos rfl]; exact t14.symm
      · rw [if_neg e, u5, if_neg e]
    · rw [v6 a j (by omega), u6 a j (by omega)]
  · by_cases g : a = 53
    · subst g
      rw [w4]
      by_cases e : j = 10 * 0 + i
      · rw [if_pos e, e, show 10 * 0 + i = i by omega]; exact h1.symm
      · rw [if_neg e, y4, if_neg e]
    · rw [w5 a j (by omega), y5 a j (by omega)]
  · rw [v6 10 q (by omega), u6 10 q (by omega), w5 58 q (by omega), y5 58 q (by omega)]
    exact (hN.2.2.2.2.1 q hq).2
  · have e14 : S2 0 14 = S 0 14 := (w5 0 14 (by omega)).trans (y5 0 14 (by omega))
    have x := (d2.2.2.2.1 j (by rw [e14]; exact hj)).2
    rw [show 10 * 0 + j = j by omega] at x
    refine ⟨x, ?_⟩
    have hv := (hN.2.2.2.1.1 j hj).2.2
    rw [show 10 * 0 + j = j by omega] at hv
    have w3 := w3 j
    have y3 := y3 j
    rw [show 10 * 0 + i = i by omega] at w3 y3
    rw [w3]
    by_cases e : j = i
    · rw [if_pos e, hp2]; omega
    · rw [if_neg e, y3, if_neg e]; exact hv
theorem e_X7move {P Tn C S : Tr} {L : Lo} {pa qa : Nat → Nat} {q0 q4 : Nat} {x1 x2 : Int32} (h : Nw P Tn S L) (hu : uR P C S) (hj : jR S) : E2 (f_X7_move pa qa P Tn C q0 q4 x1 x2) (f_X8_move S x1 x2) (udQ P L) := by
  have hD := D_to (R_move S x1 x2 hj)
  intro u v eu ev
  have jv := (hD v ev).1
  have main : jR v.2 → E2 (f_X7_move pa qa P Tn C q0 q4 x1 x2) (f_X8_move S x1 x2) (fun q q' => q' = v → udQ P L q q') := fun jv => by
    unfold f_X7_move f_X8_move
    refine E2_ltr (fun S1 e1 => ?_)
    have hN : Nw P Tn S1 L := by rw [e1]; exact Nw_2 h
    have hU : uR P C S1 := by rw [e1]; exact uR_2 hu
    have hj1 : jR S1 := by rw [e1]; exact jR_thr hj
    obtain ⟨hS, hpI, hg⟩ := hN.1
    have b12 : 0 ≤ (S1 0 12).toInt ∧ (S1 0 12).toInt ≤ 5 := hS 0 12
    have b14 : 0 ≤ (S1 0 14).toInt ∧ (S1 0 14).toInt ≤ 10 := hS 0 14
    have no : udQ P L (0, Tn, C) (0, S1) := ⟨rfl, hN, hU⟩
    refine E2_bd (e_isPc hN.2.1.1.2.2.1) (fun r r' hr => ?_)
    obtain ⟨rfl, hr⟩ := hr
    refine E2_it Iff.rfl (fun _ _ => E2_some (fun _ => no)) (fun n _ => ?_)
    obtain ⟨_, x0, x14⟩ := hr.resolve_left n
    obtain ⟨i, hi⟩ : ∃ i : Nat, x1.toInt = i := ⟨x1.toInt.toNat, by omega⟩
    refine E2_bd (e_isPl hN.2.1.1.1) (fun r r' hr => ?_)
    obtain ⟨rfl, hr⟩ := hr
    refine E2_it Iff.rfl (fun _ _ => E2_some (fun _ => no)) (fun n _ => ?_)
    obtain ⟨_, z0, z12⟩ := hr.resolve_left n
    obtain ⟨p2, hp2⟩ : ∃ p2 : Nat, x2.toInt = p2 := ⟨x2.toInt.toNat, by omega⟩
    have hii : (i : Int) < (S1 0 14).toInt := by omega
    have pcs0 := hN.2.2.1.2.2.2.1 i hii
    rw [show 10 * 0 + i = i by omega] at pcs0
    have iff53 := hg.2.1 i (by omega)
    rw [show 10 * 0 + i = i by omega] at iff53
    have ly : lyM S1 0 i = (S1 54 i).toInt := by show (S1 54 (10 * 0 + i)).toInt = _; rw [show 10 * 0 + i = i by omega]
    rw [ly] at iff53
    refine E2_ckl (fun _ => E2_ckr (fun _ => ?_))
    rw [i_cn hi, pcs0.2]
    by_cases c0 : S1 54 i < 0
    · have g := Int32.lt_iff_toInt_lt.mp c0
      rw [show (0 : Int32).toInt = 0 by decide] at g
      rw [if_pos c0, if_neg (fun q => by have := iff53.mp q; omega)]
      exact E2_some (fun _ => no)
    have c1 := tq_ltn (x := S1 54 i) (y := 0) (b := 0) rfl (by decide) c0
    have h53 := iff53.mpr c1
    rw [if_neg c0, if_pos h53]
    obtain ⟨p, pos, ha⟩ := at2_of (b := 0) (P := P) (T := Tn) hS hg.1 hN.2.2.1.2.2.2.1 hN.2.2.1.2.2.2.2 hii (by rw [show 10 * 0 + i = i by omega]; exact c1)
    have ha' := ha
    obtain ⟨a1, a2, a3, a4, a5, a6, a7, a8, a9, a10⟩ := ha'
    rw [show 10 * 0 + i = i by omega] at a3
    have fin : ∀ g : Nat, E2 (fJ_X7_move_J69 pa qa P g q4 x1 x2 Tn C) (fJ_X8_move_J67 x1 x2 S1) (fun q q' => q' = v → udQ P L q q') := fun g => by
      unfold fJ_X7_move_J69 fJ_X8_move_J67
      obtain ⟨h0, m, n, m20, n20, hm, hn, hr⟩ := id hU
      refine E2_bl (k_sav_na pa qa Tn C hm (by omega)) (fun C9 h9 => E2_br (Ep_and (k_rem hn n20) (D_to (jR_rem hj1))) (fun S17 h17 => E2_ckl (fun _ => ?_)))
      obtain ⟨hq, jq, _, _⟩ := h17
      have N2 : Nw P Tn S17 L := Nw_rem hN hq ⟨jq.1, jq.2.1, jq.2.2.1⟩
      have U2 : uR P C9 S17 := uR_rem hU hN hm hn h9 hq
      have f : ∀ a j, a ≠ 84 → ¬ (a = 0 ∧ j = 82) → S17 a j = S1 a j := hq.2.2
      obtain ⟨hS2, hpI2, hg2⟩ := N2.1
      have hii2 : (i : Int) < (S17 0 14).toInt := by rw [f 0 14 (by omega) (by omega)]; exact hii
      have h54 : S17 54 i = S1 54 i := f 54 i (by omega) (by omega)
      obtain ⟨p, pos, ha⟩ := at2_of (b := 0) (P := P) (T := Tn) hS2 hg2.1 N2.2.2.1.2.2.2.1 N2.2.2.1.2.2.2.2 hii2 (by rw [show 10 * 0 + i = i by omega, h54]; exact c1)
      have ha' := ha
      obtain ⟨a1, a2, a3, a4, a5, a6, a7, a8, a9, a10⟩ := ha'
      obtain ⟨hh, hhh⟩ : ∃ hh : Nat, (S17 56 (5 * 0 + p)).toInt = hh := ⟨(S17 56 (5 * 0 + p)).toInt.toNat, by omega⟩
      have j10 : (((10 : Int32) * 0) + x1).toNatClampNeg = 10 * 0 + i := jx 10 (x := 0) (by decide) (by omega) (by decide) hi (by omega)
      have z0' : (0 : Int32).toNatClampNeg = 0 := by decide
      have c1' := e_tkc (P := P) (c := 1) hi a1 a2 (by rw [a4]; exact hhh) (at_lvl ha hi) (by omega) (by omega)
      have c2' := e_tks (b := 0) (xb := 0) (c := 1) (by decide) (by decide) hi (by omega) (by rw [← a3]; exact a1) a2 hhh (at_bel (xb := 0) ha (by decide) (by decide) hS2 hg2.1 hi (by omega)) (by omega) (by omega)
      have c3' := D_to (t_X8_takes S17 0 x1 1 hS2 (by decide) ⟨by omega, by omega⟩ (by decide) (by rw [z0']; exact hg2) (by rw [j10, show 10 * 0 + i = i by omega, h54]; exact c1))
      rw [z0', i_cn hi] at c3'
      refine E2_bl c1' (fun T21 q1 => E2_br (Ep_and c2' c3') (fun S20 q2 => ?_))
      obtain ⟨q2, _, _, q3, q4', q5, q6, _, q7⟩ := q2
      have e12 : S20 0 12 = S1 0 12 := (q2.2.2.2.2 0 12 (by omega)).trans (f 0 12 (by omega) (by omega))
      have e14 : S20 0 14 = S1 0 14 := (q2.2.2.2.2 0 14 (by omega)).trans (f 0 14 (by omega) (by omega))
      have b56 := BM56 q3 (5 * 0 + p2)
      obtain ⟨h2, hh2⟩ : ∃ h2 : Nat, (S20 56 (5 * 0 + p2)).toInt = h2 := ⟨(S20 56 (5 * 0 + p2)).toInt.toNat, by omega⟩
      have room : mnM S20 0 p2 ≤ 9 := gF_room (p := p2) (i := i) q4'.1 (fun q k => BM55 q3 _) (by omega) (by omega) (by rw [q6]; decide)
      have room : (S20 56 (5 * 0 + p2)).toInt ≤ 9 := room
      have dt := dyn_take N2.2.2.1 N2.1.1 ha (by omega) hhh q1 q2
      have d1 := e_ptc (P := P) (T := T21) (xp := x2) (xi := x1) hi hp2 (by omega) (h := h2) (by rw [(dt.2.2.2.2 p2 (by omega)).1]; exact hh2) (by omega)
      have d2 := D_to (t_X8_lays S20 0 x2 x1 q3 (by decide) ⟨by omega, by omega⟩ ⟨by omega, by omega⟩ (by rw [z0', i_cn hi]; exact q4') (by rw [z0']; exact q5) (by rw [z0', i_cn hi, q6]; decide) (by rw [e14]; omega))
      rw [z0', i_cn hi, i_cn hp2] at d2
      refine E2_bl d1 (fun T24 r1 => E2_br d2 (fun S23 r2 => E2_some (fun ev => ?_)))
      obtain ⟨r2, r3, r4, r5⟩ := r2
      have pz : ptZ 0 S20 S23 i p2 h2 x1 x2 := by rw [r2]; exact ptZ_of (b := 0) hh2
      rw [← ev] at jv
      have s53 : S17 53 i = 1 := (f 53 i (by omega) (by omega)).trans h53
      have NN : Nw P T24 S23 L := mvCore N2 hi hii2 hp2 (by rw [f 0 12 (by omega) (by omega)]; omega) s53 ha hhh q1 q2 q3 h2 hh2 (by omega) r1 pz ⟨jv.1, jv.2.1, jv.2.2.1⟩
      refine ⟨rfl, NN, uR_o U2 ?_ (fun j _ _ => ?_) (fun j => ?_)⟩
      · show S23 0 82 = _; rw [pz.2.2.2.2 0 82 (by omega), q2.2.2.2.2 0 82 (by omega)]
      · show S23 0 j = _; rw [pz.2.2.2.2 0 j (by omega), q2.2.2.2.2 0 j (by omega)]
      · show S23 84 j = _; rw [pz.2.2.2.2 84 j (by omega), q2.2.2.2.2 84 j (by omega)]
    refine E2_ckl (fun _ => E2_bl (e_tpN (b := 0) (P := P) hS hN.2.2.1.2.2.2.2 hp2 (by omega)) (fun r hr => ?_))
    have tis := top_is hS hg.1 hi hp2 (by omega) ha hr
    have x2p : S1 54 i = x2 ↔ p2 = p := by
      rw [← a3]
      constructor
      · intro e; rw [e, hp2] at a1; omega
      · intro e; exact Int32.toInt_inj.mp (by rw [a1, hp2, e])
    have above := (e_abv (b := 0) (xb := 0) ha (by decide) (by decide) hS hg.1 hi (by omega)).2
    by_cases cp : S1 54 i = x2
    · rw [if_pos cp, if_pos cp]
      refine E2_br above (fun r2 hr2 => ?_)
      have r20 : r2 = 0 ↔ r = x1 := by
        rw [tis]
        constructor
        · intro e; rw [e, show (0 : Int32).toInt = 0 by decide] at hr2; exact ⟨x2p.mp cp, hr2.symm⟩
        · intro e; exact Int32.toInt_inj.mp (by rw [hr2, e.2]; decide)
      by_cases c : r = x1
      · rw [if_pos c, if_pos (r20.mpr c)]; exact E2_some (fun _ => no)
      · rw [if_neg c, if_neg (fun q => c (r20.mp q))]; exact fin _
    · rw [if_neg (fun q => cp (x2p.mpr (tis.mp q).1)), if_neg cp, if_neg cp]
      refine E2_bd (e_room (b := 0) (xb := 0) (by decide) (by decide) hp2 hS hg.1 hN.2.1 hN.2.2.1.2.2.2.2 (by omega) hi hii) (fun r1 r1' hr1 => ?_)
      obtain ⟨rfl, _⟩ := hr1
      exact E2_it Iff.rfl (fun _ _ => E2_some (fun _ => no)) (fun _ _ => fin _)
  exact main jv u v eu ev rfl
