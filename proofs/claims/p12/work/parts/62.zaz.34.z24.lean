/-! a trial is begun -/
def cpH (S q : Tr) : Prop := (∀ j, j < 10 → q 53 (10 + j) = S 53 j ∧ q 54 (10 + j) = S 54 j) ∧ (∀ j, j < 50 → q 55 (50 + j) = S 55 j) ∧ (∀ j, j < 5 → q 56 (5 + j) = S 56 j) ∧ (∀ j, j < 6 → q 57 (6 + j) = S 57 j ∧ q 58 (6 + j) = S 58 j ∧ q 59 (6 + j) = S 59 j ∧ q 60 (6 + j) = S 60 j) ∧ q 61 1 = S 61 0 ∧ q 62 1 = S 62 0 ∧ q 63 1 = 0
def plT (S q : Tr) : Prop := q 0 64 = S 23 0 ∧ (∀ j, 65 ≤ j → j ≤ 70 → q 0 j = 0) ∧ ∀ i, i < 10 → q 72 i = -1
def hF0 (S q : Tr) : Prop := ∀ a j, ¬ ((a = 53 ∨ a = 54) ∧ 10 ≤ j) → ¬ (a = 55 ∧ 50 ≤ j) → ¬ (a = 56 ∧ 5 ≤ j) → ¬ (57 ≤ a ∧ a ≤ 60 ∧ 6 ≤ j) → ¬ (61 ≤ a ∧ a ≤ 63 ∧ 1 ≤ j) → ¬ (a = 0 ∧ 64 ≤ j ∧ j ≤ 70) → ¬ a = 72 → q a j = S a j
theorem jh {c x : Int32} {k n : Nat} (hc : c.toInt = k) (hx : x.toInt = n) (h : k + n ≤ 100000) : (c + x).toNatClampNeg = k + n := i_cn (by rw [i_addK hc hx (by omega) (by omega)]; omega)
theorem e_plnT (S : Tr) : Ep (f_X8_plainTried S) (fun q => plT S q ∧ ∀ a j, ¬ (a = 0 ∧ 64 ≤ j ∧ j ≤ 70) → ¬ a = 72 → q a j = S a j) := by
  unfold f_X8_plainTried
  refine Ep_lt (fun S1 e1 => Ep_lt (fun S2 e2 => Ep_lt (fun S3 e3 => Ep_lt (fun S4 e4 => Ep_lt (fun S5 e5 => Ep_lt (fun S6 e6 => Ep_lt (fun S7 e7 => ?_)))))))
  have h64 : S7 0 64 = S 23 0 := by rw [e7, st_ne (by omega), e6, st_ne (by omega), e5, st_ne (by omega), e4, st_ne (by omega), e3, st_ne (by omega), e2, st_ne (by omega), e1, st_same]
  have h65 : S7 0 65 = 0 := by rw [e7, st_ne (by omega), e6, st_ne (by omega), e5, st_ne (by omega), e4, st_ne (by omega), e3, st_ne (by omega), e2, st_same]
  have h66 : S7 0 66 = 0 := by rw [e7, st_ne (by omega), e6, st_ne (by omega), e5, st_ne (by omega), e4, st_ne (by omega), e3, st_same]
  have h67 : S7 0 67 = 0 := by rw [e7, st_ne (by omega), e6, st_ne (by omega), e5, st_ne (by omega), e4, st_same]
  have h68 : S7 0 68 = 0 := by rw [e7, st_ne (by omega), e6, st_ne (by omega), e5, st_same]
  have h69 : S7 0 69 = 0 := by rw [e7, st_ne (by omega), e6, st_same]
  have h70 : S7 0 70 = 0 := by rw [e7, st_same]
  have hf : ∀ a j, ¬ (a = 0 ∧ 64 ≤ j ∧ j ≤ 70) → S7 a j = S a j := fun a j n => by rw [e7, st_no (by omega), e6, st_no (by omega), e5, st_no (by omega), e4, st_no (by omega), e3, st_no (by omega), e2, st_no (by omega), e1, st_no (by omega)]
  have lp : ∀ (N n : Nat) (x : Int32) (S8 : Tr), x.toInt = n → n ≤ 10 → (∀ i, i < n → S8 72 i = -1) → (∀ a j, ¬ a = 72 → S8 a j = S7 a j) → Ep (lpF (fun _ _ => none) (fB_X8_plainTried_L42) N x S8) (fun q => (∀ i, i < 10 → q 72 i = -1) ∧ ∀ a j, ¬ a = 72 → q a j = S7 a j) := by
    intro N
    induction N with
    | zero => intro n x S8 _ _ _ _; exact Ep_none
    | succ N ih =>
      intro n x S8 hx hn hz ho
      show Ep (fB_X8_plainTried_L42 (lpF (fun _ _ => none) (fB_X8_plainTried_L42) N) x S8) _
      generalize lpF (fun _ _ => none) (fB_X8_plainTried_L42) N = k at ih ⊢
      unfold fB_X8_plainTried_L42
      refine Ep_ite (fun c => ?_) (fun c => ?_)
      · have := tq_le (a := 10) (by decide) hx c
        exact Ep_some ⟨fun i hi => hz i (by omega), ho⟩
      · have := tq_len (b := n) (a := 10) (by decide) hx c
        refine Ep_ck (Ep_lt (fun S9 e9 => Ep_lt (fun y ey => ?_)))
        rw [i_cn hx] at e9
        refine ih (n + 1) y S9 (by rw [ey]; exact i_p1 hx (by omega)) (by omega) (fun i hi => ?_) (fun a j na => by rw [e9, st_oth na]; exact ho a j na)
        rcases (by omega : i < n ∨ i = n) with g | rfl
        · rw [e9, st_ne (by omega)]; exact hz i g
        · rw [e9, st_same]
  unfold fL_X8_plainTried_L42
  refine Ep_mono (lp 2000 0 0 S7 (by decide) (by omega) (fun i hi => absurd hi (by omega)) (fun _ _ _ => rfl)) (fun q hq => ?_)
  obtain ⟨q1, q2⟩ := hq
  refine ⟨⟨(q2 0 64 (by omega)).trans h64, fun j h1 h2 => ?_, q1⟩, fun a j n1 n2 => (q2 a j n2).trans (hf a j n1)⟩
  rw [q2 0 j (by omega)]
  rcases (by omega : j = 65 ∨ j = 66 ∨ j = 67 ∨ j = 68 ∨ j = 69 ∨ j = 70) with rfl | rfl | rfl | rfl | rfl | rfl
  · exact h65
  · exact h66
  · exact h67
  · exact h68
  · exact h69
  · exact h70
theorem e_layT (S : Tr) : Ep (f_X8_layTried S) (fun q => cpH S q ∧ plT S q ∧ hF0 S q) := by
  have j174 : ∀ S1 : Tr, (∀ j, j < 10 → S1 53 (10 + j) = S 53 j ∧ S1 54 (10 + j) = S 54 j) → (∀ j, j < 50 → S1 55 (50 + j) = S 55 j) → (∀ j, j < 5 → S1 56 (5 + j) = S 56 j) → (∀ j, j < 6 → S1 57 (6 + j) = S 57 j ∧ S1 58 (6 + j) = S 58 j ∧ S1 59 (6 + j) = S 59 j ∧ S1 60 (6 + j) = S 60 j) → hF0 S S1 → Ep (fJ_X8_layTried_J174 S1) (fun q => cpH S q ∧ plT S q ∧ hF0 S q) := by
    intro S1 h1 h2 h3 h4 hf
    unfold fJ_X8_layTried_J174
    refine Ep_lt (fun S5 e5 => Ep_lt (fun S6 e6 => Ep_lt (fun S7 e7 => Ep_bd (e_plnT S7) (fun q hq => Ep_some ?_))))
    obtain ⟨⟨p1, p2, p3⟩, p4⟩ := hq
    have f7 : ∀ a j, ¬ (61 ≤ a ∧ a ≤ 63) → S7 a j = S1 a j := fun a j n => by rw [e7, st_no (by omega), e6, st_no (by omega), e5, st_no (by omega)]
    have g : ∀ a j, ¬ (61 ≤ a ∧ a ≤ 63) → ¬ (a = 0 ∧ 64 ≤ j ∧ j ≤ 70) → ¬ a = 72 → q a j = S1 a j := fun a j n1 n2 n3 => (p4 a j n2 n3).trans (f7 a j n1)
    have a61 : S1 61 0 = S 61 0 := hf 61 0 (by omega) (by omega) (by omega) (by omega) (by omega) (by omega) (by omega)
    have a62 : S1 62 0 = S 62 0 := hf 62 0 (by omega) (by omega) (by omega) (by omega) (by omega) (by omega) (by omega)
    have a23 : S7 23 0 = S 23 0 := (f7 23 0 (by omega)).trans (hf 23 0 (by omega) (by omega) (by omega) (by omega) (by omega) (by omega) (by omega))
    refine ⟨⟨fun j hj => ?_, fun j hj => ?_, fun j hj => ?_, fun j hj => ?_, ?_, ?_, ?_⟩, ⟨p1.trans a23, p2, p3⟩, fun a j n1 n2 n3 n4 n5 n6 n7 => ?_⟩
    · rw [g 53 _ (by omega) (by omega) (by omega), g 54 _ (by omega) (by omega) (by omega)]; exact h1 j hj
    · rw [g 55 _ (by omega) (by omega) (by omega)]; exact h2 j hj
    · rw [g 56 _ (by omega) (by omega) (by omega)]; exact h3 j hj
    · rw [g 57 _ (by omega) (by omega) (by omega), g 58 _ (by omega) (by omega) (by omega), g 59 _ (by omega) (by omega) (by omega), g 60 _ (by omega) (by omega) (by omega)]; exact h4 j hj
    · rw [p4 61 1 (by omega) (by omega), e7, st_oth (by omega), e6, st_oth (by omega), e5, st_same, a61]
    · rw [p4 62 1 (by omega) (by omega), e7, st_oth (by omega), e6, st_same, e5, st_oth (by omega), a62]
    · rw [p4 63 1 (by omega) (by omega), e7, st_same]
    · rw [p4 a j n6 n7, e7, st_no (by omega), e6, st_no (by omega), e5, st_no (by omega)]
      exact hf a j n1 n2 n3 n4 n5 n6 n7
  have l102 : ∀ (N n : Nat) (x : Int32) (S1 : Tr), x.toInt = n → n ≤ 6 → (∀ j, j < 10 → S1 53 (10 + j) = S 53 j ∧ S1 54 (10 + j) = S 54 j) → (∀ j, j < 50 → S1 55 (50 + j) = S 55 j) → (∀ j, j < 5 → S1 56 (5 + j) = S 56 j) → (∀ j, j < n → S1 57 (6 + j) = S 57 j ∧ S1 58 (6 + j) = S 58 j ∧ S1 59 (6 + j) = S 59 j ∧ S1 60 (6 + j) = S 60 j) → hF0 S S1 → Ep (lpF (fun _ _ => none) (fB_X8_layTried_L102) N x S1) (fun q => cpH S q ∧ plT S q ∧ hF0 S q) := by
    intro N
    induction N with
    | zero => intro n x S1 _ _ _ _ _ _ _; exact Ep_none
    | succ N ih =>
      intro n x S1 hx hn h1 h2 h3 h4 hf
      show Ep (fB_X8_layTried_L102 (lpF (fun _ _ => none) (fB_X8_layTried_L102) N) x S1) _
      generalize lpF (fun _ _ => none) (fB_X8_layTried_L102) N = k at ih ⊢
      unfold fB_X8_layTried_L102
      refine Ep_ite (fun c => ?_) (fun c => ?_)
      · have := tq_le (a := 6) (by decide) hx c
        exact j174 S1 h1 h2 h3 (fun j hj => h4 j (by omega)) hf
      · have := tq_len (b := n) (a := 6) (by decide) hx c
        have j6 : ((6 : Int32) + x).toNatClampNeg = 6 + n := jh (by decide) hx (by omega)
        rw [j6, i_cn hx]
        refine Ep_ck (Ep_ck (Ep_lt (fun S13 e13 => Ep_lt (fun S14 e14 => Ep_lt (fun S15 e15 => Ep_lt (fun S16 e16 => Ep_lt (fun y ey => ?_)))))))
        have g : ∀ a j, ¬ (57 ≤ a ∧ a ≤ 60 ∧ j = 6 + n) → S16 a j = S1 a j := fun a j q => by rw [e16, st_no (by omega), e15, st_no (by omega), e14, st_no (by omega), e13, st_no (by omega)]
        have z : ∀ a, 57 ≤ a → a ≤ 60 → S1 a n = S a n := fun a a1 a2 => hf a n (by omega) (by omega) (by omega) (by omega) (by omega) (by omega) (by omega)
        refine ih (n + 1) y S16 (by rw [ey]; exact i_p1 hx (by omega)) (by omega) (fun j hj => ?_) (fun j hj => ?_) (fun j hj => ?_) (fun j hj => ?_) (fun a j n1 n2 n3 n4 n5 n6 n7 => ?_)
        · rw [g 53 _ (by omega), g 54 _ (by omega)]; exact h1 j hj
        · rw [g 55 _ (by omega)]; exact h2 j hj
        · rw [g 56 _ (by omega)]; exact h3 j hj
        · rcases (by omega : j < n ∨ j = n) with q | rfl
          · rw [g 57 _ (by omega), g 58 _ (by omega), g 59 _ (by omega), g 60 _ (by omega)]; exact h4 j q
          · refine ⟨?_, ?_, ?_, ?_⟩
            · rw [e16, st_oth (by omega), e15, st_oth (by omega), e14, st_oth (by omega), e13, st_same]; exact z 57 (by omega) (by omega)
            · rw [e16, st_oth (by omega), e15, st_oth (by omega), e14, st_same, e13, st_oth (by omega)]; exact z 58 (by omega) (by omega)
            · rw [e16, st_oth (by omega), e15, st_same, e14, st_oth (by omega), e13, st_oth (by omega)]; exact z 59 (by omega) (by omega)
            · rw [e16, st_same, e15, st_oth (by omega), e14, st_oth (by omega), e13, st_oth (by omega)]; exact z 60 (by omega) (by omega)
        · rw [g a j (by omega)]; exact hf a j n1 n2 n3 n4 n5 n6 n7
  have l75 : ∀ (N n : Nat) (x : Int32) (S1 : Tr), x.toInt = n → n ≤ 5 → (∀ j, j < 10 → S1 53 (10 + j) = S 53 j ∧ S1 54 (10 + j) = S 54 j) → (∀ j, j < 50 → S1 55 (50 + j) = S 55 j) → (∀ j, j < n → S1 56 (5 + j) = S 56 j) → hF0 S S1 → Ep (lpF (fun _ _ => none) (fB_X8_layTried_L75) N x S1) (fun q => cpH S q ∧ plT S q ∧ hF0 S q) := by
    intro N
    induction N with
    | zero => intro n x S1 _ _ _ _ _ _; exact Ep_none
    | succ N ih =>
      intro n x S1 hx hn h1 h2 h3 hf
      show Ep (fB_X8_layTried_L75 (lpF (fun _ _ => none) (fB_X8_layTried_L75) N) x S1) _
      generalize lpF (fun _ _ => none) (fB_X8_layTried_L75) N = k at ih ⊢
      unfold fB_X8_layTried_L75
      refine Ep_ite (fun c => ?_) (fun c => ?_)
      · have := tq_le (a := 5) (by decide) hx c
        unfold fL_X8_layTried_L102
        exact l102 2000 0 0 S1 (by decide) (by omega) h1 h2 (fun j hj => h3 j (by omega)) (fun j hj => absurd hj (by omega)) hf
      · have := tq_len (b := n) (a := 5) (by decide) hx c
        have j6 : ((5 : Int32) + x).toNatClampNeg = 5 + n := jh (by decide) hx (by omega)
        rw [j6, i_cn hx]
        refine Ep_ck (Ep_ck (Ep_lt (fun S20 e20 => Ep_lt (fun y ey => ?_))))
        have g : ∀ a j, ¬ (a = 56 ∧ j = 5 + n) → S20 a j = S1 a j := fun a j q => by rw [e20, st_no q]
        refine ih (n + 1) y S20 (by rw [ey]; exact i_p1 hx (by omega)) (by omega) (fun j hj => ?_) (fun j hj => ?_) (fun j hj => ?_) (fun a j n1 n2 n3 n4 n5 n6 n7 => ?_)
        · rw [g 53 _ (by omega), g 54 _ (by omega)]; exact h1 j hj
        · rw [g 55 _ (by omega)]; exact h2 j hj
        · rcases (by omega : j < n ∨ j = n) with q | rfl
          · rw [g 56 _ (by omega)]; exact h3 j q
          · rw [e20, st_same]; exact hf 56 j (by omega) (by omega) (by omega) (by omega) (by omega) (by omega) (by omega)
        · rw [g a j (by omega)]; exact hf a j n1 n2 n3 n4 n5 n6 n7
  have l46 : ∀ (N n : Nat) (x : Int32) (S1 : Tr), x.toInt = n → n ≤ 50 → (∀ j, j < 10 → S1 53 (10 + j) = S 53 j ∧ S1 54 (10 + j) = S 54 j) → (∀ j, j < n → S1 55 (50 + j) = S 55 j) → hF0 S S1 → Ep (lpF (fun _ _ => none) (fB_X8_layTried_L46) N x S1) (fun q => cpH S q ∧ plT S q ∧ hF0 S q) := by
    intro N
    induction N with
    | zero => intro n x S1 _ _ _ _ _; exact Ep_none
    | succ N ih =>
      intro n x S1 hx hn h1 h2 hf
      show Ep (fB_X8_layTried_L46 (lpF (fun _ _ => none) (fB_X8_layTried_L46) N) x S1) _
      generalize lpF (fun _ _ => none) (fB_X8_layTried_L46) N = k at ih ⊢
      unfold fB_X8_layTried_L46
      refine Ep_ite (fun c => ?_) (fun c => ?_)
      · have := tq_le (a := 50) (by decide) hx c
        unfold fL_X8_layTried_L75
        exact l75 2000 0 0 S1 (by decide) (by omega) h1 (fun j hj => h2 j (by omega)) (fun j hj => absurd hj (by omega)) hf
      · have := tq_len (b := n) (a := 50) (by decide) hx c
        have j6 : ((50 : Int32) + x).toNatClampNeg = 50 + n := jh (by decide) hx (by omega)
        rw [j6, i_cn hx]
        refine Ep_ck (Ep_ck (Ep_lt (fun S20 e20 => Ep_lt (fun y ey => ?_))))
        have g : ∀ a j, ¬ (a = 55 ∧ j = 50 + n) → S20 a j = S1 a j := fun a j q => by rw [e20, st_no q]
        refine ih (n + 1) y S20 (by rw [ey]; exact i_p1 hx (by omega)) (by omega) (fun j hj => ?_) (fun j hj => ?_) (fun a j n1 n2 n3 n4 n5 n6 n7 => ?_)
        · rw [g 53 _ (by omega), g 54 _ (by omega)]; exact h1 j hj
        · rcases (by omega : j < n ∨ j = n) with q | rfl
          · rw [g 55 _ (by omega)]; exact h2 j q
          · rw [e20, st_same]; exact hf 55 j (by omega) (by omega) (by omega) (by omega) (by omega) (by omega) (by omega)
        · rw [g a j (by omega)]; exact hf a j n1 n2 n3 n4 n5 n6 n7
  have l2 : ∀ (N n : Nat) (x : Int32) (S1 : Tr), x.toInt = n → n ≤ 10 → (∀ j, j < n → S1 53 (10 + j) = S 53 j ∧ S1 54 (10 + j) = S 54 j) → hF0 S S1 → Ep (lpF (fun _ _ => none) (fB_X8_layTried_L2) N x S1) (fun q => cpH S q ∧ plT S q ∧ hF0 S q) := by
    intro N
    induction N with
    | zero => intro n x S1 _ _ _ _; exact Ep_none
    | succ N ih =>
      intro n x S1 hx hn h1 hf
      show Ep (fB_X8_layTried_L2 (lpF (fun _ _ => none) (fB_X8_layTried_L2) N) x S1) _
      generalize lpF (fun _ _ => none) (fB_X8_layTried_L2) N = k at ih ⊢
      unfold fB_X8_layTried_L2
      refine Ep_ite (fun c => ?_) (fun c => ?_)
      · have := tq_le (a := 10) (by decide) hx c
        unfold fL_X8_layTried_L46
        exact l46 2000 0 0 S1 (by decide) (by omega) (fun j hj => h1 j (by omega)) (fun j hj => absurd hj (by omega)) hf
      · have := tq_len (b := n) (a := 10) (by decide) hx c
        have j6 : ((10 : Int32) + x).toNatClampNeg = 10 + n := jh (by decide) hx (by omega)
        rw [j6, i_cn hx]
        refine Ep_ck (Ep_ck (Ep_lt (fun S28 e28 => Ep_lt (fun S29 e29 => Ep_lt (fun y ey => ?_)))))
        have g : ∀ a j, ¬ ((a = 53 ∨ a = 54) ∧ j = 10 + n) → S29 a j = S1 a j := fun a j q => by rw [e29, st_no (by omega), e28, st_no (by omega)]
        have z : ∀ a, a = 53 ∨ a = 54 → S1 a n = S a n := fun a q => hf a n (by omega) (by omega) (by omega) (by omega) (by omega) (by omega) (by omega)
        refine ih (n + 1) y S29 (by rw [ey]; exact i_p1 hx (by omega)) (by omega) (fun j hj => ?_) (fun a j n1 n2 n3 n4 n5 n6 n7 => ?_)
        · rcases (by omega : j < n ∨ j = n) with q | rfl
          · rw [g 53 _ (by omega), g 54 _ (by omega)]; exact h1 j q
          · refine ⟨?_, ?_⟩
            · rw [e29, st_oth (by omega), e28, st_same]; exact z 53 (by omega)
            · rw [e29, st_same, e28, st_oth (by omega)]; exact z 54 (by omega)
        · rw [g a j (by omega)]; exact hf a j n1 n2 n3 n4 n5 n6 n7
  unfold f_X8_layTried fL_X8_layTried_L2
  exact l2 2000 0 0 S (by decide) (by omega) (fun j hj => absurd hj (by omega)) (fun _ _ _ _ _ _ _ _ _ => rfl)
