/-! a text from its start -/
theorem e_c59 (N : Nat) : ∀ (n : Nat) (x1 : Int32) (P P0 : Tr), x1.toInt = n → n ≤ 3 → (∀ k, k < n → P (30 + 3 * k) 1 = 0) → (∀ a i, a < 30 → P a i = P0 a i) → Ep (lpF (fun _ _ => none) fB_X2_clear_L59 N x1 P) (fun q => (∀ a i, a < 30 → q a i = P0 a i) ∧ ∀ k, k < 3 → q (30 + 3 * k) 1 = 0) := by
  induction N with
  | zero => intro n x1 P P0 _ _ _ _; exact Ep_none
  | succ N ih =>
    intro n x1 P P0 hx hn hk h0
    show Ep (fB_X2_clear_L59 (lpF (fun _ _ => none) fB_X2_clear_L59 N) x1 P) _
    generalize lpF (fun _ _ => none) fB_X2_clear_L59 N = k at ih ⊢
    unfold fB_X2_clear_L59
    refine Ep_ite (fun c => Ep_some ⟨h0, fun i hi => hk i ?_⟩) (fun c => ?_)
    · have := tq_le (a := 3) (by decide) hx c
      omega
    · have c := tq_len (a := 3) (by decide) hx c
      rw [i_cn hx]
      refine Ep_ck (Ep_lt (fun P1 e1 => Ep_lt (fun y ey => ih (n + 1) y P1 P0 (by rw [ey, i_addK hx (y := 1) (by decide) (by omega) (by omega)]; omega) (by omega) (fun i hi => ?_) (fun a i ha => by rw [e1, st_no (by omega), h0 a i ha]))))
      by_cases q : i = n
      · rw [e1, q, st_same]
      · rw [e1, st_no (by omega)]; exact hk i (by omega)
theorem e_c37 (N : Nat) : ∀ (n : Nat) (x1 : Int32) (P P0 : Tr), x1.toInt = n → n ≤ 21 → (∀ t, t < n → P 18 t = 60) → (∀ i, P 0 i = P0 0 i) → Ep (lpF (fun _ _ => none) fB_X2_clear_L37 N x1 P) (fun q => (∀ i, q 0 i = P0 0 i) ∧ (∀ t, t < 21 → q 18 t = 60) ∧ ∀ k, k < 3 → q (30 + 3 * k) 1 = 0) := by
  induction N with
  | zero => intro n x1 P P0 _ _ _ _; exact Ep_none
  | succ N ih =>
    intro n x1 P P0 hx hn hk h0
    show Ep (fB_X2_clear_L37 (lpF (fun _ _ => none) fB_X2_clear_L37 N) x1 P) _
    generalize lpF (fun _ _ => none) fB_X2_clear_L37 N = k at ih ⊢
    unfold fB_X2_clear_L37
    refine Ep_ite (fun c => ?_) (fun c => ?_)
    · have c := tq_lt (a := 20) (by decide) hx c
      refine Ep_mono (e_c59 2000 0 0 P P (by decide) (by omega) (fun i hi => absurd hi (Nat.not_lt_zero i)) (fun _ _ _ => rfl)) (fun q hq => ⟨fun i => by rw [hq.1 0 i (by omega), h0 i], fun t ht => by rw [hq.1 18 t (by omega)]; exact hk t (by omega), hq.2⟩)
    · have c := tq_ltn (a := 20) (by decide) hx c
      rw [i_cn hx]
      refine Ep_ck (Ep_lt (fun P1 e1 => Ep_lt (fun y ey => ih (n + 1) y P1 P0 (by rw [ey, i_addK hx (y := 1) (by decide) (by omega) (by omega)]; omega) (by omega) (fun t ht => ?_) (fun i => by rw [e1, st_no (by omega), h0 i]))))
      by_cases q : t = n
      · rw [e1, q, st_same]
      · rw [e1, st_no (by omega)]; exact hk t (by omega)
theorem e_clr (P : Tr) : Ep (f_X2_clear P) (fun q => (∀ i, i ≤ 6 → q 0 i = 0) ∧ (∀ t, t < 21 → q 18 t = 60) ∧ ∀ k, k < 3 → q (30 + 3 * k) 1 = 0) := by
  unfold f_X2_clear
  refine Ep_lt (fun P1 e1 => Ep_lt (fun P2 e2 => Ep_lt (fun P3 e3 => Ep_lt (fun P4 e4 => Ep_lt (fun P5 e5 => Ep_lt (fun P6 e6 => Ep_lt (fun P7 e7 => ?_)))))))
  refine Ep_mono (e_c37 2000 0 0 P7 P7 (by decide) (by omega) (fun i hi => absurd hi (Nat.not_lt_zero i)) (fun _ => rfl)) (fun q hq => ⟨fun i hi => ?_, hq.2.1, hq.2.2⟩)
  rw [hq.1 i]
  rcases (by omega : i = 0 ∨ i = 1 ∨ i = 2 ∨ i = 3 ∨ i = 4 ∨ i = 5 ∨ i = 6) with rfl | rfl | rfl | rfl | rfl | rfl | rfl
  · rw [e7, st_ne (by decide), e6, st_ne (by decide), e5, st_ne (by decide), e4, st_ne (by decide), e3, st_ne (by decide), e2, st_ne (by decide), e1, st_same]
  · rw [e7, st_ne (by decide), e6, st_ne (by decide), e5, st_ne (by decide), e4, st_ne (by decide), e3, st_ne (by decide), e2, st_same]
  · rw [e7, st_ne (by decide), e6, st_ne (by decide), e5, st_ne (by decide), e4, st_ne (by decide), e3, st_same]
  · rw [e7, st_ne (by decide), e6, st_ne (by decide), e5, st_ne (by decide), e4, st_same]
  · rw [e7, st_ne (by decide), e6, st_ne (by decide), e5, st_same]
  · rw [e7, st_ne (by decide), e6, st_same]
  · rw [e7, st_same]
def plF (S q : Tr) : Prop := ∀ a i, ¬ ((a = 0 ∧ ((16 ≤ i ∧ i ≤ 20) ∨ i = 46)) ∨ a = 22 ∨ a = 23 ∨ (34 ≤ a ∧ a ≤ 36)) → q a i = S a i
theorem e_p70 (N : Nat) : ∀ (n : Nat) (x1 : Int32) (S S0 : Tr), x1.toInt = n → n ≤ 21 → (∀ t, t < n → S 34 (21 + t) = 60 ∧ S 35 t = 0) → (∀ a i, ¬ (a = 34 ∨ a = 35) → S a i = S0 a i) → Ep (lpF (fun _ _ => none) fB_X8_plain_L70 N x1 S) (fun q => (∀ t, t < 21 → q 34 (21 + t) = 60 ∧ q 35 t = 0) ∧ ∀ a i, ¬ (a = 34 ∨ a = 35) → q a i = S0 a i) := by
  induction N with
  | zero => intro n x1 S S0 _ _ _ _; exact Ep_none
  | succ N ih =>
    intro n x1 S S0 hx hn hk h0
    show Ep (fB_X8_plain_L70 (lpF (fun _ _ => none) fB_X8_plain_L70 N) x1 S) _
    generalize lpF (fun _ _ => none) fB_X8_plain_L70 N = k at ih ⊢
    unfold fB_X8_plain_L70
    refine Ep_ite (fun c => Ep_some ⟨fun t ht => hk t ?_, h0⟩) (fun c => ?_)
    · have := tq_le (a := 21) (by decide) hx c
      omega
    · have c := tq_len (a := 21) (by decide) hx c
      have c21 : ((21 : Int32) + x1).toNatClampNeg = 21 + n := i_cn (by rw [i_addK (x := 21) (y := n) (by decide) hx (by omega) (by omega)]; omega)
      rw [c21, i_cn hx, nar0]
      refine Ep_ck (Ep_lt (fun S1 e1 => Ep_ck (Ep_lt (fun S2 e2 => Ep_lt (fun y ey => ih (n + 1) y S2 S0 (by rw [ey, i_addK hx (y := 1) (by decide) (by omega) (by omega)]; omega) (by omega) (fun t ht => ?_) (fun a i ha => by rw [e2, st_no (by omega), e1, st_no (by omega), h0 a i ha]))))))
      by_cases q : t = n
      · rw [q, e2, st_no (by omega), e1, st_same, st_same]; exact ⟨rfl, rfl⟩
      · rw [e2, st_no (by omega), e1, st_no (by omega), st_no (by omega), st_no (by omega)]; exact hk t (by omega)
theorem e_p32 (N : Nat) : ∀ (n : Nat) (x1 : Int32) (S S0 : Tr), x1.toInt = n → n ≤ 3 → (∀ k, k < n → S 22 k = 0 ∧ S 23 (3 + k) = 0 ∧ S 36 (3 + k) = 0) → (∀ a i, ¬ (a = 22 ∨ a = 23 ∨ (34 ≤ a ∧ a ≤ 36)) → S a i = S0 a i) → Ep (lpF (fun _ _ => none) fB_X8_plain_L32 N x1 S) (fun q => (∀ t, t < 21 → q 34 (21 + t) = 60 ∧ q 35 t = 0) ∧ (∀ k, k < 3 → q 22 k = 0 ∧ q 23 (3 + k) = 0 ∧ q 36 (3 + k) = 0) ∧ ∀ a i, ¬ (a = 22 ∨ a = 23 ∨ (34 ≤ a ∧ a ≤ 36)) → q a i = S0 a i) := by
  induction N with
  | zero => intro n x1 S S0 _ _ _ _; exact Ep_none
  | succ N ih =>
    intro n x1 S S0 hx hn hk h0
    show Ep (fB_X8_plain_L32 (lpF (fun _ _ => none) fB_X8_plain_L32 N) x1 S) _
    generalize lpF (fun _ _ => none) fB_X8_plain_L32 N = k at ih ⊢
    unfold fB_X8_plain_L32
    refine Ep_ite (fun c => ?_) (fun c => ?_)
    · have c := tq_le (a := 3) (by decide) hx c
      refine Ep_mono (e_p70 2000 0 0 S S (by decide) (by omega) (fun i hi => absurd hi (Nat.not_lt_zero i)) (fun _ _ _ => rfl)) (fun q hq => ⟨hq.1, fun i hi => ?_, fun a i ha => by rw [hq.2 a i (by omega), h0 a i ha]⟩)
      rw [hq.2 22 _ (by omega), hq.2 23 _ (by omega), hq.2 36 _ (by omega)]
      exact hk i (by omega)
    · have c := tq_len (a := 3) (by decide) hx c
      have c3 : ((3 : Int32) + x1).toNatClampNeg = 3 + n := i_cn (by rw [i_addK (x := 3) (y := n) (by decide) hx (by omega) (by omega)]; omega)
      rw [c3, i_cn hx, nar0]
      refine Ep_ck (Ep_lt (fun S1 e1 => Ep_ck (Ep_lt (fun S2 e2 => Ep_lt (fun S3 e3 => Ep_lt (fun y ey => ih (n + 1) y S3 S0 (by rw [ey, i_addK hx (y := 1) (by decide) (by omega) (by omega)]; omega) (by omega) (fun t ht => ?_) (fun a i ha => by rw [e3, st_no (by omega), e2, st_no (by omega), e1, st_no (by omega), h0 a i ha])))))))
      by_cases q : t = n
      · rw [q, e3, st_no (by omega), st_no (by omega), st_same, e2, st_no (by omega), st_same, e1, st_same]; exact ⟨rfl, rfl, rfl⟩
      · rw [e3, st_no (by omega), st_no (by omega), st_no (by omega), e2, st_no (by omega), st_no (by omega), st_no (by omega), e1, st_no (by omega), st_no (by omega), st_no (by omega)]; exact hk t (by omega)
theorem e_plain (S : Tr) : Ep (f_X8_plain S) (fun q => (∀ t, t < 21 → q 34 (21 + t) = 60 ∧ q 35 t = 0) ∧ (∀ k, k < 3 → q 22 k = 0 ∧ q 23 (3 + k) = 0 ∧ q 36 (3 + k) = 0) ∧ (∀ i, (16 ≤ i ∧ i ≤ 20) ∨ i = 46 → q 0 i = 0) ∧ plF S q) := by
  unfold f_X8_plain
  refine Ep_lt (fun S1 e1 => Ep_lt (fun S2 e2 => Ep_lt (fun S3 e3 => Ep_lt (fun S4 e4 => Ep_lt (fun S5 e5 => Ep_lt (fun S6 e6 => ?_))))))
  refine Ep_mono (e_p32 2000 0 0 S6 S6 (by decide) (by omega) (fun i hi => absurd hi (Nat.not_lt_zero i)) (fun _ _ _ => rfl)) (fun q hq => ⟨hq.1, hq.2.1, fun i hi => ?_, fun a i hn => ?_⟩)
  · rw [hq.2.2 0 i (by omega)]
    rcases (by omega : i = 16 ∨ i = 17 ∨ i = 18 ∨ i = 19 ∨ i = 20 ∨ i = 46) with rfl | rfl | rfl | rfl | rfl | rfl
    · rw [e6, st_ne (by decide), e5, st_ne (by decide), e4, st_ne (by decide), e3, st_ne (by decide), e2, st_ne (by decide), e1, st_same]
    · rw [e6, st_ne (by decide), e5, st_ne (by decide), e4, st_ne (by decide), e3, st_ne (by decide), e2, st_same]
    · rw [e6, st_ne (by decide), e5, st_ne (by decide), e4, st_ne (by decide), e3, st_same]
    · rw [e6, st_ne (by decide), e5, st_ne (by decide), e4, st_same]
    · rw [e6, st_ne (by decide), e5, st_same]
    · rw [e6, st_same]
  · rw [hq.2.2 a i (by omega), e6, st_no (by omega), e5, st_no (by omega), e4, st_no (by omega), e3, st_no (by omega), e2, st_no (by omega), e1, st_no (by omega)]
theorem RD_0 {R P T : Tr} (p0 : ∀ i, i ≤ 6 → P 0 i = 0) (p18 : ∀ t, t < 21 → P 18 t = 60) (p30 : ∀ k, k < 3 → P (30 + 3 * k) 1 = 0) (r5 : R 0 5 = 0) (r6 : R 0 6 = 0) (t34 : ∀ t, t < 21 → T 34 (21 + t) = 60 ∧ T 35 t = 0) (t22 : ∀ k, k < 3 → T 22 k = 0 ∧ T 23 (3 + k) = 0 ∧ T 36 (3 + k) = 0) (t0 : ∀ i, (16 ≤ i ∧ i ≤ 20) ∨ i = 46 → T 0 i = 0) : RD R P T := by
  have z0 : (0 : Int32).toInt = 0 := by decide
  refine ⟨⟨?_, ?_, fun i hi => ?_⟩, ⟨?_, ?_, fun i hi => ?_⟩, ⟨?_, ?_, fun i hi => ?_⟩, ⟨?_, ?_, ?_, fun t ht => ?_, fun t ht => ?_⟩, ⟨?_, ?_, ?_, ?_, ?_, ?_, ?_⟩, ?_, ?_, ?_, ?_, ?_, ?_⟩
  · rw [p0 0 (by omega), t0 16 (by omega)]
  · rw [t0 16 (by omega), z0]; omega
  · rw [t0 16 (by omega), z0] at hi; omega
  · rw [p0 1 (by omega), t0 17 (by omega)]
  · rw [t0 17 (by omega), z0]; omega
  · rw [t0 17 (by omega), z0] at hi; omega
  · rw [p0 2 (by omega), t0 18 (by omega)]
  · rw [t0 18 (by omega), z0]; omega
  · rw [t0 18 (by omega), z0] at hi; omega
  · rw [r6, z0]; omega
  · rw [r6, t0 20 (by omega), (bc_n (x := 0) (n := 0) z0 (by omega)).1, z0]; decide
  · rw [t0 20 (by omega), z0]; omega
  · rw [r6, (t34 t (by omega)).2, bit_n (x := 0) (n := 0) z0 ht]; simp
  · rw [p18 t ht, (t34 t ht).1]
  · rw [r5, z0]; omega
  · rw [r5, (t22 0 (by omega)).1]; decide
  · rw [r5, (t22 1 (by omega)).1]; decide
  · rw [r5, (t22 2 (by omega)).1]; decide
  · rw [p0 4 (by omega), (t22 0 (by omega)).2.1]
  · rw [p0 5 (by omega), (t22 1 (by omega)).2.1]
  · rw [p0 6 (by omega), (t22 2 (by omega)).2.1]
  · rw [p0 3 (by omega), t0 46 (by omega)]
  · rw [t0 19 (by omega), t0 46 (by omega)]
  · rw [t0 46 (by omega), z0]; omega
  · exact Or.inl ⟨p30 0 (by omega), (t22 0 (by omega)).2.2⟩
  · exact Or.inl ⟨p30 1 (by omega), (t22 1 (by omega)).2.2⟩
  · exact Or.inl ⟨p30 2 (by omega), (t22 2 (by omega)).2.2⟩
/-- what holds of tapes and words between calls -/
def relT (K S : Tr) : Prop := tR K S ∧ wC K ∧ wT S
theorem e_rt {K R P S8 : Tr} {L : Lo} {x1 : Int32} (hC : wC K) (hT : wT S8) (h0 : 0 ≤ x1.toInt) (h7 : x1.toInt ≤ 700) (s6 : S8 0 6 = x1) (s7 : S8 0 7 = 0) (tape : ∀ j : Nat, (j : Int) < x1.toInt → K 5 j &&& 255 = S8 1 j) : E2 (f_X3_readText K R P x1) (bd (f_X8_plain S8) fun S_9 => bd (f_X8_token S_9) fun S_12 => fL_X8_text_L55 L 0 S_12) (txQ L (st (st K 0 6 x1) 0 7 0)) := by
  unfold f_X3_readText f_X5_begin fL_X3_readText_L42 fL_X8_text_L55
  refine E2_bl (e_clr P) (fun P1 hP => E2_ltl (fun R4 r4 => E2_ltl (fun R5 r5 => E2_ltl (fun R6 r6 => E2_ltl (fun R7 r7 => E2_ltl (fun R8 r8 => E2_br (e_plain S8) (fun S9 hS => ?_)))))))
  obtain ⟨q34, q22, q0, qf⟩ := hS
  simp only [bd_lt]
  refine E2_ltl (fun K1 e1 => E2_ltl (fun K2 e2 => ?_))
  rw [← e1, ← e2]
  have z0 : (0 : Int32).toInt = 0 := by decide
  have k6 : K2 0 6 = x1 := by rw [e2, st_ne (by decide), e1, st_same]
  have k7 : K2 0 7 = 0 := by rw [e2, st_same]
  have kf : ∀ a i, ¬ (a = 0 ∧ (i = 6 ∨ i = 7)) → K2 a i = K a i := fun a i hn => by rw [e2, st_no (by omega), e1, st_no (by omega)]
  have u6 : S9 0 6 = x1 := by rw [qf 0 6 (by omega)]; exact s6
  have u7 : S9 0 7 = 0 := by rw [qf 0 7 (by omega)]; exact s7
  have kt : kT K2 S9 := ⟨by rw [k6, u6], by rw [k7, u7], by rw [u7, u6, z0]; omega, fun j hj => by rw [u6] at hj; rw [kf 5 j (by omega), qf 1 j (by omega)]; exact tape j hj⟩
  rw [bd_bd]
  refine E2_bd (e_adv (fun j hj => by rw [kf 6 j (by omega)]; exact hC j hj) (fun j hj => by rw [qf 4 j (by omega)]; exact hT j hj) kt) (fun K3 T3 h3 => ?_)
  obtain ⟨k3, k3f, t3f, k3p⟩ := h3
  have rs : ∀ i, (i = 5 ∨ i = 6 ∨ i = 1 ∨ i = 3) → R8 0 i = 0 := fun i hi => by
    rcases hi with rfl | rfl | rfl | rfl
    · rw [r8, st_ne (by decide), r7, st_same]
    · rw [r8, st_same]
    · rw [r8, st_ne (by decide), r7, st_ne (by decide), r6, st_ne (by decide), r5, st_ne (by decide), r4, st_same]
    · rw [r8, st_ne (by decide), r7, st_ne (by decide), r6, st_same]
  have rd : RD R8 P1 T3 := RD_0 hP.1 hP.2.1 hP.2.2 (rs 5 (by omega)) (rs 6 (by omega)) (fun t ht => by rw [t3f 34 _ (by omega), t3f 35 _ (by omega)]; exact q34 t ht) (fun k hk => by rw [t3f 22 _ (by omega), t3f 23 _ (by omega), t3f 36 _ (by omega)]; exact q22 k hk) (fun i hi => by rw [t3f 0 i (by omega)]; exact q0 i hi)
  show E2 (lpF (fun _ _ _ _ => none) fB_X3_readText_L42 2000 0 K3 R8 P1) _ _
  exact E2_mono (e_text L 2000 0 K3 R8 P1 T3 k3 rd (rs 1 (by omega)) (rs 3 (by omega)) (by decide) (by rw [z0]; exact k3.2.2.2.2.2.2.2.1)) (fun a b h => tx_mono k3f h)
