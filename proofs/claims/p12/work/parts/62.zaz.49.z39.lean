/-! turned by call -/
theorem cnt_e0 {f : Nat → Bool} : ∀ {n : Nat}, cnt f n = 0 → ∀ k, k < n → f k = false
  | 0, _, k, hk => absurd hk (by omega)
  | n + 1, h, k, hk => by
    have h : cnt f n + (bif f n then 1 else 0) = 0 := h
    by_cases c : k = n
    · subst c
      cases e : f k with
      | false => rfl
      | true =>
        rw [e] at h
        have : (bif true then (1 : Nat) else 0) = 1 := rfl
        omega
    · exact cnt_e0 (n := n) (by omega) k (by omega)
/-- none changed: all as it was -/
theorem tov_0 {b p n : Nat} {S T T1 : Tr} (hS : rI b S) (hpl : plc b T S p n) (o : oI b S T T1 p n n) (h0 : chg (kyS S) (gOf T p) n n = 0) : T1 = T := by
  obtain ⟨o1, o2, o3, o4⟩ := o
  have z := cnt_e0 h0
  funext a j
  by_cases c : a = 16 ∧ 10 * p ≤ j ∧ j < 10 * p + n
  · obtain ⟨rfl, c1, c2⟩ := c
    obtain ⟨k, rfl⟩ : ∃ k, j = 10 * p + k := ⟨j - 10 * p, by omega⟩
    have hk : k < n := by omega
    obtain ⟨⟨i, i1, i2⟩, rk⟩ := ins_end o1 hk
    have zi : rnk (kyS S) (gOf T p) n (gOf T p i) = i := Decidable.byContradiction (fun q => by have := of_decide_eq_false (z i i1); exact this q)
    rw [i2, zi] at rk
    subst rk
    obtain ⟨j', j1', j2'⟩ := o3 i hk
    have := hpl.2.2.2.1 j' j1'
    have gi := plc_g hpl hk
    refine Int32.toInt_inj.mp ?_
    have e : (T1 16 (10 * p + i)).toInt = gOf T1 p i := by unfold gOf; rw [j2']; omega
    rw [e, i2, gi.1]
  · exact o4 a j c
def tuQ (P : Tr) (L : Lo) (q : Int32 × Tr × Tr × Tr × Nat) (q' : Int32 × Tr) : Prop := q.1 = q'.1 ∧ Nw P q.2.1 q'.2 L ∧ uR P q.2.2.2.1 q'.2
theorem e_X7turn {P Tn Tv C S : Tr} {L : Lo} {pa qa : Nat → Nat} {q0 q3 q4 : Nat} {x1 : Int32} (h : Nw P Tn S L) (hu : uR P C S) (hj : jR S) : E2 (f_X7_turn pa qa P Tn Tv C q0 q3 q4 x1) (f_X8_turn S x1) (tuQ P L) := by
  have hD := D_to (R_turn S x1 hj)
  intro u v eu ev
  have jv := (hD v ev).1
  have main : jR v.2 → E2 (f_X7_turn pa qa P Tn Tv C q0 q3 q4 x1) (f_X8_turn S x1) (fun q q' => q' = v → tuQ P L q q') := fun jv => by
    unfold f_X7_turn f_X8_turn
    refine E2_ltr (fun S1 e1 => ?_)
    have hN : Nw P Tn S1 L := by rw [e1]; exact Nw_2 h
    have hU : uR P C S1 := by rw [e1]; exact uR_2 hu
    have hj1 : jR S1 := by rw [e1]; exact jR_thr hj
    obtain ⟨hS, hpI, hg⟩ := hN.1
    have b12 : 0 ≤ (S1 0 12).toInt ∧ (S1 0 12).toInt ≤ 5 := hS 0 12
    refine E2_bd (e_isPl hN.2.1.1.1) (fun r r' hr => ?_)
    obtain ⟨rfl, hr⟩ := hr
    refine E2_it Iff.rfl (fun _ _ => E2_some (fun _ => ⟨rfl, hN, hU⟩)) (fun n _ => ?_)
    obtain ⟨_, z0, z12⟩ := hr.resolve_left n
    obtain ⟨p, hp⟩ : ∃ p : Nat, x1.toInt = p := ⟨x1.toInt.toNat, by omega⟩
    refine E2_bl (e_cpA Tv Tn q3 q0) (fun qv hv => E2_ltl (fun Tv5 ev5 => E2_ltl (fun n6 _ => E2_ckl (fun _ => ?_))))
    rw [← ev5] at hv
    refine E2_br (Ep_and (e_layT S1) (D_to (t_X8_layTried S1 hS hg hpI))) (fun S6 h6 => ?_)
    obtain ⟨⟨hc6, hp6, hf6⟩, r1, rg, r2, r3, _⟩ := h6
    have rI6 : rI 1 S6 := ⟨r1, r3, r2⟩
    have g6 : ∀ a j, a ≤ 52 → ¬ (a = 0 ∧ 64 ≤ j) → S6 a j = S1 a j := fun a j h n => hf6 a j (by omega) (by omega) (by omega) (by omega) (by omega) (by omega) (by omega)
    have hK6 : pK P S6 := pK_o hN.2.1 (fun j h1 h2 => g6 0 j (by omega) (by omega)) (fun a j h1 h2 => g6 a j (by omega) (by omega))
    have cpr : cpA Tn Tn Tn := ⟨fun _ _ => rfl, fun _ _ => ⟨rfl, rfl, rfl, rfl⟩, fun _ _ => ⟨rfl, rfl, rfl⟩, fun _ _ => rfl, fun _ _ => ⟨rfl, rfl⟩, fun _ _ => rfl⟩
    have d6 : dyn 1 P Tn S6 := dyn_cp hS hN.2.2.1 cpr hc6 hf6
    obtain ⟨m, hpl, h56, h55⟩ := plc_of rI6 d6.2.2.2.2 (p := p) (by omega)
    have trn6 := e_trn (xb := 1) rI6 hK6 d6.2.2.2.2 (by decide) (by decide) hp (by omega)
    have tov6 := e_tov rI6 hK6 hpl hp
    have dT := D_to (t_X8_turns S6 1 x1 r1 (by rw [show (1 : Int32).toNatClampNeg = 1 by decide]; exact r2) (by decide) ⟨by omega, by omega⟩)
    -- the class's turn of the train that is now, the reference's of the trial
    intro u' v' eu' ev'
    obtain ⟨qc, hqc, eu'⟩ := tx_bd eu'
    obtain ⟨qr, hqr, ev'⟩ := tx_bd ev'
    have t6 := trn6 qc qr hqc hqr
    have o6 := tov6 qc hqc
    have d10 := dT qr hqr
    rw [show (1 : Int32).toNatClampNeg = 1 by decide] at d10
    obtain ⟨q1, q2, q3', q4', q5', q6', q7'⟩ := t6
    obtain ⟨S10, hS10⟩ : ∃ S10, S10 = qr.2 := ⟨_, rfl⟩
    have h0c10 : ∀ a j, h0c a j → S10 a j = S1 a j := fun a j hc => by
      have hc2 := hc
      unfold h0c at hc2
      rw [hS10]
      by_cases g : a = 55
      · subst g
        rw [q6' j (by omega)]
        exact hf6 55 j (by omega) (by omega) (by omega) (by omega) (by omega) (by omega) (by omega)
      · rw [q5' a j g (by omega)]
        exact hf6 a j (by omega) (by omega) (by omega) (by omega) (by omega) (by omega) (by omega)
    have aG10 : aG 1 S1 S10 := by rw [hS10]; exact aG_tr rg d10.2.2.1
    have B10 : iR BM S10 := by rw [hS10]; exact d10.1
    have hj10 : jR S10 := jR_1 hj1 B10 aG10
    have s65 : S10 0 65 = 0 := by rw [hS10, q5' 0 65 (by omega) (by omega)]; exact hp6.2.1 65 (by omega) (by omega)
    have N10 : Nw P Tn S10 L := Nw_of hN ⟨hj10.1, hj10.2.1, hj10.2.2.1⟩ h0c10 s65 rfl
    have z84 : ∀ j, S10 84 j = S1 84 j := fun j => by
      rw [hS10, q5' 84 j (by omega) (by omega)]
      exact hf6 84 j (by omega) (by omega) (by omega) (by omega) (by omega) (by omega) (by omega)
    have z82 : S10 0 82 = S1 0 82 := by
      rw [hS10, q5' 0 82 (by omega) (by omega)]
      exact hf6 0 82 (by omega) (by omega) (by omega) (by omega) (by omega) (by omega) (by omega)
    have U10 : uR P C S10 := uR_o hU z82 (fun j a1 a2 => h0c10 0 j (Or.inl ⟨rfl, a1, by omega⟩)) z84
    have eu' : (if qc.1 ≤ 0 then (some (qc.1, qc.2, Tv5, C, n6)) else (bd (f_X0_save_x_va0 pa qa Tv5 C) fun C_15 => some (qc.1, qc.2, Tv5, C_15, n6))) = some u' := eu'
    have ev' : (if qr.1 = 0 then (some (0, S10)) else (bd (f_X8_remember S10) fun S_14 => bd (f_X8_turns S_14 (0 : Int32) x1) fun q => lt q.1 fun r17 => lt q.2 fun S_18 => some (r17, S_18))) = some v' := by rw [hS10]; exact ev'
    by_cases c : qr.1 = 0
    · rw [if_pos c] at ev'
      rw [q1, c, if_pos (by decide)] at eu'
      have ev' := tx_1 ev'
      have eu' := tx_1 eu'
      rw [← eu', ← ev']
      have z : chg (kyS S6) (gOf Tn p) m m = 0 := by
        have := o6.1
        rw [q1, c, show (0 : Int32).toInt = 0 by decide] at this
        omega
      have eT := tov_0 rI6 hpl o6.2 z
      intro _
      exact ⟨rfl, by show Nw P qc.2 S10 L; rw [eT]; exact N10, U10⟩
    · rw [if_neg c] at ev'
      rw [if_neg (fun g => c (by
        have := tq_le (x := qc.1) (y := 0) (b := 0) rfl (by decide) g
        rw [← q1]
        exact Int32.toInt_inj.mp (by rw [show (0 : Int32).toInt = 0 by decide]; omega)))] at eu'
      obtain ⟨C15, hC, eu'⟩ := tx_bd eu'
      obtain ⟨S14, hS14, ev'⟩ := tx_bd ev'
      obtain ⟨q18, hq18, ev'⟩ := tx_bd ev'
      have ev' : (q18.1, q18.2) = v' := tx_1 ev'
      have eu' := tx_1 eu'
      obtain ⟨h0, m1, n1, m20, n20, hm, hn, hr⟩ := id U10
      have sv := k_sav_va pa qa Tv5 C hm (by omega) C15 hC
      obtain ⟨v1, v2, v3, v4, v5, _⟩ := hv
      have sv : svQ Tn C C15 m1 := by
        obtain ⟨s1, s2, s3, s4, s5, s6⟩ := sv
        exact ⟨fun j hj => (s1 j hj).trans (v4 j hj), fun j hj => (s2 j hj).trans (v5 j hj).1, fun j hj => (s3 j hj).trans (v5 j hj).2, fun j hj => (s4 j hj).trans (v3 j hj).2.2, fun j hj => (s5 j hj).trans (v2 j hj).2.1, s6⟩
      have rm := k_rem hn n20 S14 hS14
      have jrem := D_to (jR_rem hj10) S14 hS14
      have N14 : Nw P Tn S14 L := Nw_rem N10 rm ⟨jrem.1.1, jrem.1.2.1, jrem.1.2.2.1⟩
      have U14 : uR P C15 S14 := uR_rem U10 N10 hm hn sv rm
      have f13 : S14 0 13 = S1 0 13 := (rm.2.2 0 13 (by decide) (by omega)).trans (h0c10 0 13 (Or.inl ⟨rfl, by omega, by omega⟩))
      have t14 := e_trn (xb := 0) N14.1 N14.2.1 N14.2.2.1.2.2.2.2 (by decide) (by decide) hp (by omega) qc q18 hqc hq18
      obtain ⟨y1, _, y3, y4, y5, y6, y7⟩ := t14
      intro evv
      rw [← evv, ← ev'] at jv
      rw [← eu', ← ev']
      refine ⟨y1, Nw_mv N14 ⟨jv.1, jv.2.1, jv.2.2.1⟩ (fun a j q => y4 a j (by omega)) (fun a j _ n2 _ _ n5 _ _ => y5 a j n2 n5) (fun p' hp' => ?_) (fun i hi => ?_) y3, uR_o U14 (y5 0 82 (by decide) (by decide)) (fun j _ _ => y5 0 j (by decide) (by decide)) (fun j => y5 84 j (by decide) (by decide))⟩
      · show qc.2 10 p' = q18.2 58 p'
        rw [y4 10 p' (by omega), y5 58 p' (by omega) (by omega)]; exact (N14.2.2.2.2.1 p' hp').2
      · show qc.2 15 i = q18.2 54 i ∧ (q18.2 54 i).toInt < (S14 0 12).toInt
        rw [y4 15 i (by omega), y5 54 i (by omega) (by omega)]
        have x := (N14.2.2.1.2.2.2.1 i hi).2
        have y := (N14.2.2.2.1.1 i hi).2.2
        rw [show 10 * 0 + i = i by omega] at x y
        exact ⟨x, y⟩
  exact main jv u v eu ev rfl
