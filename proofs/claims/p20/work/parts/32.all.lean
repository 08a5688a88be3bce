set_option maxHeartbeats 1000000 in
set_option maxRecDepth 100000 in
theorem tl_X2_clear_L59     (N : Nat) : ∀ (x1 : Int32) (P : Tr), iR BP P → 0 ≤ x1.toInt ∧ x1.toInt ≤ 1000 → 1000 - x1.toInt < (N : Int) → D (lpF (fun _ _ => none) (fB_X2_clear_L59 ) N x1 P) (fun (q : Tr) => (iR BP q)) := by
  induction N with
  | zero =>
    intro x1 P hP hx1 hN
    exfalso
    omega
  | succ N59 ih =>
    intro x1 P hP hx1 hN
    have hk59 : ∀ (x1 : Int32) (P : Tr), iR BP P → 0 ≤ x1.toInt ∧ x1.toInt ≤ 1000 → 1000 - x1.toInt < (N59 : Int) → D (lpF (fun _ _ => none) (fB_X2_clear_L59 ) N59 x1 P) (fun (q : Tr) => (iR BP q)) := ih
    show D (fB_X2_clear_L59  (lpF (fun _ _ => none) (fB_X2_clear_L59 ) N59) x1 P) _
    generalize lpF (fun _ _ => none) (fB_X2_clear_L59 ) N59 = k59 at hk59 ⊢
    have hN59 : 1000 - x1.toInt < (N59 : Int) + 1 := by omega
    clear ih
    unfold fB_X2_clear_L59
    refine D_ite (fun c37 => ?_) (fun c37 => ?_)
    · have kc37 := tq_le (x := (3 : Int32)) (y := x1) (a := 3) (by decide) rfl c37
      exact D_some (show (iR BP P) from hP)
    · have kc37 := tq_len (x := (3 : Int32)) (y := x1) (a := 3) (by decide) rfl c37
      refine D_ck (okI_of (by omega) (by omega)) ?_
      have w38 : x1.toNatClampNeg < 3 := i_n (by omega) (by omega)
      have l0 : (0 : Int32).toInt = 0 := by decide
      refine D_lt (fun P_39 eP_39 => ?_)
      have hP_39 : iR BP P_39 := by rw [eP_39]; exact BP_lawset hP w38 (by clear hx1 hN59 hN kc37; omega) (by clear hx1 hN59 hN kc37; omega)
      have n41 : (x1 + 1).toInt = x1.toInt + 1 := i_addK rfl (by decide) (by omega) (by omega)
      refine D_lt (fun y40 ey40 => ?_)
      have hy40 : y40.toInt = (x1 + 1 : Int32).toInt := by rw [ey40]
      exact hk59 y40 P_39 hP_39 ⟨(by omega), (by omega)⟩ (by omega)
set_option maxHeartbeats 1000000 in
set_option maxRecDepth 100000 in
theorem tl_X2_clear_L37     (N : Nat) : ∀ (x1 : Int32) (P : Tr), iR BP P → 0 ≤ x1.toInt ∧ x1.toInt ≤ 1000 → 1000 - x1.toInt < (N : Int) → D (lpF (fun _ _ => none) (fB_X2_clear_L37 ) N x1 P) (fun (q : Tr) => (iR BP q)) := by
  induction N with
  | zero =>
    intro x1 P hP hx1 hN
    exfalso
    omega
  | succ N37 ih =>
    intro x1 P hP hx1 hN
    have hk37 : ∀ (x1 : Int32) (P : Tr), iR BP P → 0 ≤ x1.toInt ∧ x1.toInt ≤ 1000 → 1000 - x1.toInt < (N37 : Int) → D (lpF (fun _ _ => none) (fB_X2_clear_L37 ) N37 x1 P) (fun (q : Tr) => (iR BP q)) := ih
    show D (fB_X2_clear_L37  (lpF (fun _ _ => none) (fB_X2_clear_L37 ) N37) x1 P) _
    generalize lpF (fun _ _ => none) (fB_X2_clear_L37 ) N37 = k37 at hk37 ⊢
    have hN37 : 1000 - x1.toInt < (N37 : Int) + 1 := by omega
    clear ih
    unfold fB_X2_clear_L37
    refine D_ite (fun c36 => ?_) (fun c36 => ?_)
    · have kc36 := tq_lt (x := (20 : Int32)) (y := x1) (a := 20) (by decide) rfl c36
      have l0 : (0 : Int32).toInt = 0 := by decide
      exact tl_X2_clear_L59     2000 (0 : Int32) P hP ⟨(by clear hx1 hN37 hN kc36; omega), (by clear hx1 hN37 hN kc36; omega)⟩ (by clear hx1 hN37 hN kc36; omega)
    · have kc36 := tq_ltn (x := (20 : Int32)) (y := x1) (a := 20) (by decide) rfl c36
      refine D_ck (okI_of (by omega) (by omega)) ?_
      refine D_lt (fun P_42 eP_42 => ?_)
      have hP_42 : iR BP P_42 := by rw [eP_42]; exact iR_setU hP rfl
      have n44 : (x1 + 1).toInt = x1.toInt + 1 := i_addK rfl (by decide) (by omega) (by omega)
      refine D_lt (fun y43 ey43 => ?_)
      have hy43 : y43.toInt = (x1 + 1 : Int32).toInt := by rw [ey43]
      exact hk37 y43 P_42 hP_42 ⟨(by omega), (by omega)⟩ (by omega)
set_option maxHeartbeats 1000000 in
set_option maxRecDepth 100000 in
theorem t_X2_clear (P : Tr) (hP : iR BP P) : D (f_X2_clear P) (fun (q : Tr) => (iR BP q)) := by
  unfold f_X2_clear
  have l0 : (0 : Int32).toInt = 0 := by decide
  refine D_lt (fun P_1 eP_1 => ?_)
  have hP_1 : iR BP P_1 := by rw [eP_1]; exact iR_set hP (show (0 : Int) ≤ _ from (by omega)) (show _ ≤ (5 : Int) from (by omega))
  have n2 : (P_1 0 0).toInt = (0 : Int32).toInt := by rw [eP_1]; rfl
  refine D_lt (fun P_3 eP_3 => ?_)
  have hP_3 : iR BP P_3 := by rw [eP_3]; exact iR_set hP_1 (show (0 : Int) ≤ _ from (by omega)) (show _ ≤ (6 : Int) from (by omega))
  have n4 : (P_3 0 0).toInt = (P_1 0 0).toInt := by rw [eP_3]; rfl
  have n5 : (P_3 0 1).toInt = (0 : Int32).toInt := by rw [eP_3]; rfl
  refine D_lt (fun P_6 eP_6 => ?_)
  have hP_6 : iR BP P_6 := by rw [eP_6]; exact iR_set hP_3 (show (0 : Int) ≤ _ from (by clear n2 n4 n5; omega)) (show _ ≤ (10 : Int) from (by clear n2 n4 n5; omega))
  have n7 : (P_6 0 1).toInt = (P_3 0 1).toInt := by rw [eP_6]; rfl
  have n8 : (P_6 0 0).toInt = (P_3 0 0).toInt := by rw [eP_6]; rfl
  have n9 : (P_6 0 2).toInt = (0 : Int32).toInt := by rw [eP_6]; rfl
  refine D_lt (fun P_10 eP_10 => ?_)
  have hP_10 : iR BP P_10 := by rw [eP_10]; exact iR_set hP_6 (show (0 : Int) ≤ _ from (by clear n2 n4 n5 n7 n8 n9; omega)) (show _ ≤ (64 : Int) from (by clear n2 n4 n5 n7 n8 n9; omega))
  have n11 : (P_10 0 2).toInt = (P_6 0 2).toInt := by rw [eP_10]; rfl
  have n12 : (P_10 0 1).toInt = (P_6 0 1).toInt := by rw [eP_10]; rfl
  have n13 : (P_10 0 0).toInt = (P_6 0 0).toInt := by rw [eP_10]; rfl
  have n14 : (P_10 0 3).toInt = (0 : Int32).toInt := by rw [eP_10]; rfl
  refine D_lt (fun P_15 eP_15 => ?_)
  have hP_15 : iR BP P_15 := by rw [eP_15]; exact iR_setU hP_10 rfl
  have n16 : (P_15 0 3).toInt = (P_10 0 3).toInt := by rw [eP_15]; rfl
  have n17 : (P_15 0 2).toInt = (P_10 0 2).toInt := by rw [eP_15]; rfl
  have n18 : (P_15 0 1).toInt = (P_10 0 1).toInt := by rw [eP_15]; rfl
  have n19 : (P_15 0 0).toInt = (P_10 0 0).toInt := by rw [eP_15]; rfl
  have n20 : (P_15 0 4).toInt = (0 : Int32).toInt := by rw [eP_15]; rfl
  refine D_lt (fun P_21 eP_21 => ?_)
  have hP_21 : iR BP P_21 := by rw [eP_21]; exact iR_setU hP_15 rfl
  have n22 : (P_21 0 0).toInt = (P_15 0 0).toInt := by rw [eP_21]; rfl
  have n23 : (P_21 0 2).toInt = (P_15 0 2).toInt := by rw [eP_21]; rfl
  have n24 : (P_21 0 1).toInt = (P_15 0 1).toInt := by rw [eP_21]; rfl
  have n25 : (P_21 0 3).toInt = (P_15 0 3).toInt := by rw [eP_21]; rfl
  have n26 : (P_21 0 4).toInt = (P_15 0 4).toInt := by rw [eP_21]; rfl
  have n27 : (P_21 0 5).toInt = (0 : Int32).toInt := by rw [eP_21]; rfl
  refine D_lt (fun P_28 eP_28 => ?_)
  have hP_28 : iR BP P_28 := by rw [eP_28]; exact iR_setU hP_21 rfl
  have n29 : (P_28 0 5).toInt = (P_21 0 5).toInt := by rw [eP_28]; rfl
  have n30 : (P_28 0 0).toInt = (P_21 0 0).toInt := by rw [eP_28]; rfl
  have n31 : (P_28 0 1).toInt = (P_21 0 1).toInt := by rw [eP_28]; rfl
  have n32 : (P_28 0 3).toInt = (P_21 0 3).toInt := by rw [eP_28]; rfl
  have n33 : (P_28 0 4).toInt = (P_21 0 4).toInt := by rw [eP_28]; rfl
  have n34 : (P_28 0 2).toInt = (P_21 0 2).toInt := by rw [eP_28]; rfl
  have n35 : (P_28 0 6).toInt = (0 : Int32).toInt := by rw [eP_28]; rfl
  exact tl_X2_clear_L37     2000 (0 : Int32) P_28 hP_28 ⟨(by clear n2 n4 n5 n7 n8 n9 n11 n12 n13 n14 n16 n17 n18 n19 n20 n22 n23 n24 n25 n26 n27 n29 n30 n31 n32 n33 n34 n35; omega), (by clear n2 n4 n5 n7 n8 n9 n11 n12 n13 n14 n16 n17 n18 n19 n20 n22 n23 n24 n25 n26 n27 n29 n30 n31 n32 n33 n34 n35; omega)⟩ (by clear n2 n4 n5 n7 n8 n9 n11 n12 n13 n14 n16 n17 n18 n19 n20 n22 n23 n24 n25 n26 n27 n29 n30 n31 n32 n33 n34 n35; omega)
set_option maxHeartbeats 1000000 in
set_option maxRecDepth 100000 in
theorem t_X5_at (K : Tr) (x1 : Int32) (hK : iR BK K) : D (f_X5_at K x1) (fun (q : Int32) => ((-1) ≤ q.toInt ∧ q.toInt ≤ 255) ∧ (0 ≤ q.toInt → 0 ≤ x1.toInt ∧ x1.toInt < (K 0 6).toInt)) := by
  unfold f_X5_at
  have n2 := i_rng x1
  refine D_ite (fun c1 => ?_) (fun c1 => ?_)
  · have kc1 := tq_lt (x := x1) (y := (0 : Int32)) rfl (b := 0) (by decide) c1
    have lm1 : ((-1) : Int32).toInt = (-1) := by decide
    exact D_some (show ((-1) ≤ ((-1) : Int32).toInt ∧ ((-1) : Int32).toInt ≤ 255) ∧ (0 ≤ ((-1) : Int32).toInt → 0 ≤ x1.toInt ∧ x1.toInt < (K 0 6).toInt) from ⟨⟨(by omega), (by omega)⟩, (by omega)⟩)
  · have kc1 := tq_ltn (x := x1) (y := (0 : Int32)) rfl (b := 0) (by decide) c1
    have n4 : 0 ≤ (K 0 6).toInt ∧ (K 0 6).toInt ≤ 700 := hK 0 6
    refine D_ite (fun c3 => ?_) (fun c3 => ?_)
    · have kc3 := tq_le (x := (K 0 6)) (y := x1) rfl rfl c3
      have lm1 : ((-1) : Int32).toInt = (-1) := by decide
      exact D_some (show ((-1) ≤ ((-1) : Int32).toInt ∧ ((-1) : Int32).toInt ≤ 255) ∧ (0 ≤ ((-1) : Int32).toInt → 0 ≤ x1.toInt ∧ x1.toInt < (K 0 6).toInt) from ⟨⟨(by clear n2 kc1 n4 kc3; omega), (by clear n2 kc1 n4 kc3; omega)⟩, (by omega)⟩)
    · have kc3 := tq_len (x := (K 0 6)) (y := x1) rfl rfl c3
      refine D_ite (fun c5 => ?_) (fun c5 => ?_)
      · have kc5 := tq_le (x := (700 : Int32)) (y := x1) (a := 700) (by decide) rfl c5
        exfalso
        exact (by omega)
      · have kc5 := tq_len (x := (700 : Int32)) (y := x1) (a := 700) (by decide) rfl c5
        refine D_ck (okI_of (by omega) (by omega)) ?_
        have n6 : 0 ≤ ((K 5 x1.toNatClampNeg) &&& 255).toInt ∧ ((K 5 x1.toNatClampNeg) &&& 255).toInt ≤ 255 := i_and255 (K 5 x1.toNatClampNeg)
        exact D_some (show ((-1) ≤ ((K 5 x1.toNatClampNeg) &&& 255).toInt ∧ ((K 5 x1.toNatClampNeg) &&& 255).toInt ≤ 255) ∧ (0 ≤ ((K 5 x1.toNatClampNeg) &&& 255).toInt → 0 ≤ x1.toInt ∧ x1.toInt < (K 0 6).toInt) from ⟨⟨(by clear n2 kc1 n4 kc3 kc5; omega), (by clear n2 kc1 n4 kc3 kc5; omega)⟩, (by omega)⟩)
set_option maxHeartbeats 1000000 in
set_option maxRecDepth 100000 in
theorem t_X5_isBlank (x0 : Int32)  : D (f_X5_isBlank x0) (fun (q : Int32) => (0 ≤ q.toInt ∧ q.toInt ≤ 1)) := by
  unfold f_X5_isBlank
  have n2 := i_rng x0
  refine D_ite (fun c1 => ?_) (fun c1 => ?_)
  · have kc1 := tq_eq (x := x0) (y := (10 : Int32)) rfl (b := 10) (by decide) c1
    have l1 : (1 : Int32).toInt = 1 := by decide
    exact D_some (show (0 ≤ (1 : Int32).toInt ∧ (1 : Int32).toInt ≤ 1) from ⟨(by omega), (by omega)⟩)
  · skip
    refine D_ite (fun c3 => ?_) (fun c3 => ?_)
    · have kc3 := tq_eq (x := x0) (y := (32 : Int32)) rfl (b := 32) (by decide) c3
      have l1 : (1 : Int32).toInt = 1 := by decide
      exact D_some (show (0 ≤ (1 : Int32).toInt ∧ (1 : Int32).toInt ≤ 1) from ⟨(by omega), (by omega)⟩)
    · skip
      have l0 : (0 : Int32).toInt = 0 := by decide
      exact D_some (show (0 ≤ (0 : Int32).toInt ∧ (0 : Int32).toInt ≤ 1) from ⟨(by omega), (by omega)⟩)
set_option maxHeartbeats 1000000 in
set_option maxRecDepth 100000 in
theorem t_X5_isLetter (x0 : Int32)  : D (f_X5_isLetter x0) (fun (q : Int32) => (0 ≤ q.toInt ∧ q.toInt ≤ 1)) := by
  unfold f_X5_isLetter
  have n2 := i_rng x0
  refine D_ite (fun c1 => ?_) (fun c1 => ?_)
  · have kc1 := tq_lt (x := x0) (y := (97 : Int32)) rfl (b := 97) (by decide) c1
    have l0 : (0 : Int32).toInt = 0 := by decide
    exact D_some (show (0 ≤ (0 : Int32).toInt ∧ (0 : Int32).toInt ≤ 1) from ⟨(by omega), (by omega)⟩)
  · have kc1 := tq_ltn (x := x0) (y := (97 : Int32)) rfl (b := 97) (by decide) c1
    refine D_ite (fun c3 => ?_) (fun c3 => ?_)
    · have kc3 := tq_lt (x := (122 : Int32)) (y := x0) (a := 122) (by decide) rfl c3
      have l0 : (0 : Int32).toInt = 0 := by decide
      exact D_some (show (0 ≤ (0 : Int32).toInt ∧ (0 : Int32).toInt ≤ 1) from ⟨(by clear n2 kc1 kc3; omega), (by clear n2 kc1 kc3; omega)⟩)
    · have kc3 := tq_ltn (x := (122 : Int32)) (y := x0) (a := 122) (by decide) rfl c3
      have l1 : (1 : Int32).toInt = 1 := by decide
      exact D_some (show (0 ≤ (1 : Int32).toInt ∧ (1 : Int32).toInt ≤ 1) from ⟨(by clear n2 kc1 kc3; omega), (by clear n2 kc1 kc3; omega)⟩)
set_option maxHeartbeats 1000000 in
set_option maxRecDepth 100000 in
theorem tl_X5_readWord_L115     (N : Nat) : ∀ (x3 : Int32) (K : Tr), nK K → iR BK K → 0 ≤ x3.toInt ∧ x3.toInt ≤ 1000 → 1000 - x3.toInt < (N : Int) → D (lpF (fun _ _ => none) (fB_X5_readWord_L115 ) N x3 K) (fun (q : Tr) => (iR BK q) ∧ (nK q)) := by
  induction N with
  | zero =>
    intro x3 K dnK hK hx3 hN
    exfalso
    omega
  | succ N115 ih =>
    intro x3 K dnK hK hx3 hN
    have hk115 : ∀ (x3 : Int32) (K : Tr), nK K → iR BK K → 0 ≤ x3.toInt ∧ x3.toInt ≤ 1000 → 1000 - x3.toInt < (N115 : Int) → D (lpF (fun _ _ => none) (fB_X5_readWord_L115 ) N115 x3 K) (fun (q : Tr) => (iR BK q) ∧ (nK q)) := ih
    show D (fB_X5_readWord_L115  (lpF (fun _ _ => none) (fB_X5_readWord_L115 ) N115) x3 K) _
    generalize lpF (fun _ _ => none) (fB_X5_readWord_L115 ) N115 = k115 at hk115 ⊢
    have hN115 : 1000 - x3.toInt < (N115 : Int) + 1 := by omega
    clear ih
    unfold fB_X5_readWord_L115
    refine D_ite (fun c16 => ?_) (fun c16 => ?_)
    · have kc16 := tq_le (x := (29 : Int32)) (y := x3) (a := 29) (by decide) rfl c16
      exact D_some (show (iR BK K) ∧ (nK K) from ⟨hK, dnK⟩)
    · have kc16 := tq_len (x := (29 : Int32)) (y := x3) (a := 29) (by decide) rfl c16
      refine D_ck (okI_of (by omega) (by omega)) ?_
      have n18 := i_rng (K 6 x3.toNatClampNeg)
      have n19 := i_rng (K 0 3)
      refine D_ite (fun c17 => ?_) (fun c17 => ?_)
      · have kc17 := tq_eq (x := (K 6 x3.toNatClampNeg)) (y := (K 0 3)) rfl rfl c17
        refine D_lt (fun K_20 eK_20 => ?_)
        have hK_20 : iR BK K_20 := by rw [eK_20]; exact iR_set hK (show (0 : Int) ≤ _ from (by clear hN115 hN n18 n19 kc17; omega)) (show _ ≤ (45 : Int) from (by clear hN115 hN n18 n19 kc17; omega))
        have knK_t21 : nK K_20 := (by rw [eK_20]; intro hz; exact absurd (tq_eq (b := 42) rfl (by decide) (show x3 = 42 from hz)) (by omega))
        have n22 : (K_20 0 3).toInt = (K 0 3).toInt := by rw [eK_20]; rfl
        have n23 : (K_20 0 1).toInt = x3.toInt := by rw [eK_20]; rfl
        have n25 : (x3 + 1).toInt = x3.toInt + 1 := i_addK rfl (by decide) (by clear hN115 hN n18 n19 kc17 n22; omega) (by clear hN115 hN n18 n19 kc17 n22; omega)
        refine D_lt (fun y24 ey24 => ?_)
        have hy24 : y24.toInt = (x3 + 1 : Int32).toInt := by rw [ey24]
        exact hk115 y24 K_20 knK_t21 hK_20 ⟨(by clear hN115 hN n18 n19 kc17 n22; omega), (by clear hN115 hN n18 n19 kc17 n22; omega)⟩ (by clear n18 n19 kc17 n22; omega)
      · skip
        have n27 : (x3 + 1).toInt = x3.toInt + 1 := i_addK rfl (by decide) (by clear hN115 hN n18 n19; omega) (by clear hN115 hN n18 n19; omega)
        refine D_lt (fun y26 ey26 => ?_)
        have hy26 : y26.toInt = (x3 + 1 : Int32).toInt := by rw [ey26]
        exact hk115 y26 K dnK hK ⟨(by clear hN115 hN n18 n19; omega), (by clear hN115 hN n18 n19; omega)⟩ (by omega)
set_option maxHeartbeats 1000000 in
set_option maxRecDepth 100000 in
theorem tl_X5_readWord_L2     (N : Nat) : ∀ (x1 : Int32) (K : Tr), iR BK K → 1000 - (K 0 7).toInt < (N : Int) → D (lpF (fun _ _ => none) (fB_X5_readWord_L2 ) N x1 K) (fun (q : Tr) => (iR BK q) ∧ (nK q)) := by
  induction N with
  | zero =>
    intro x1 K hK hN
    exfalso
    have n80 : 0 ≤ (K 0 7).toInt ∧ (K 0 7).toInt ≤ 702 := hK 0 7
    omega
  | succ N2 ih =>
    intro x1 K hK hN
    have hk2 : ∀ (x1 : Int32) (K : Tr), iR BK K → 1000 - (K 0 7).toInt < (N2 : Int) → D (lpF (fun _ _ => none) (fB_X5_readWord_L2 ) N2 x1 K) (fun (q : Tr) => (iR BK q) ∧ (nK q)) := ih
    show D (fB_X5_readWord_L2  (lpF (fun _ _ => none) (fB_X5_readWord_L2 ) N2) x1 K) _
    generalize lpF (fun _ _ => none) (fB_X5_readWord_L2 ) N2 = k2 at hk2 ⊢
    have hN2 : 1000 - (K 0 7).toInt < (N2 : Int) + 1 := by omega
    clear ih
    unfold fB_X5_readWord_L2
    have n2 : 0 ≤ (K 0 7).toInt ∧ (K 0 7).toInt ≤ 702 := hK 0 7
    have n3 : 0 ≤ (K 0 6).toInt ∧ (K 0 6).toInt ≤ 700 := hK 0 6
    refine D_ite (fun c1 => ?_) (fun c1 => ?_)
    · have kc1 := tq_le (x := (K 0 6)) (y := (K 0 7)) rfl rfl c1
      unfold fJ_X5_readWord_J72
      refine D_lt (fun y4 ey4 => ?_)
      have n5 := i_rng ((K 0 7) - (K 0 2))
      have hy4 : y4.toInt = ((K 0 7) - (K 0 2)).toInt := by rw [ey4]
      refine D_ite (fun c6 => ?_) (fun c6 => ?_)
      · have kc6 := tq_le (x := y4) (y := (6 : Int32)) rfl (b := 6) (by decide) c6
        refine D_lt (fun K_7 eK_7 => ?_)
        have hK_7 : iR BK K_7 := by rw [eK_7]; exact iR_setU hK rfl
        have n9 : (K_7 0 6).toInt = (K 0 6).toInt := by rw [eK_7]; rfl
        have n10 : (K_7 0 7).toInt = (K 0 7).toInt := by rw [eK_7]; rfl
        have l43 : (43 : Int32).toInt = 43 := by decide
        refine D_lt (fun K_11 eK_11 => ?_)
        have hK_11 : iR BK K_11 := by rw [eK_11]; exact iR_set hK_7 (show (0 : Int) ≤ _ from (by clear hN2 hN n2 n3 kc1 n5 hy4 kc6 n9 n10; omega)) (show _ ≤ (45 : Int) from (by clear hN2 hN n2 n3 kc1 n5 hy4 kc6 n9 n10; omega))
        have knK_t12 : nK K_11 := (by rw [eK_11]; exact nK_lit (by decide))
        have n13 : (K_11 0 6).toInt = (K_7 0 6).toInt := by rw [eK_11]; rfl
        have n14 : (K_11 0 7).toInt = (K_7 0 7).toInt := by rw [eK_11]; rfl
        have n15 : (K_11 0 1).toInt = (43 : Int32).toInt := by rw [eK_11]; rfl
        have l0 : (0 : Int32).toInt = 0 := by decide
        exact tl_X5_readWord_L115     2000 (0 : Int32) K_11 knK_t12 hK_11 ⟨(by clear hN2 hN n2 n3 kc1 n5 hy4 kc6 n9 n10 n13 n14 n15; omega), (by clear hN2 hN n2 n3 kc1 n5 hy4 kc6 n9 n10 n13 n14 n15; omega)⟩ (by clear hN2 hN n2 n3 kc1 n5 hy4 kc6 n9 n10 n13 n14 n15; omega)
      · have kc6 := tq_len (x := y4) (y := (6 : Int32)) rfl (b := 6) (by decide) c6
        have l44 : (44 : Int32).toInt = 44 := by decide
        refine D_lt (fun K_28 eK_28 => ?_)
        have hK_28 : iR BK K_28 := by rw [eK_28]; exact iR_set hK (show (0 : Int) ≤ _ from (by clear hN2 hN n2 n3 kc1 n5 hy4 kc6; omega)) (show _ ≤ (45 : Int) from (by clear hN2 hN n2 n3 kc1 n5 hy4 kc6; omega))
        have knK_t29 : nK K_28 := (by rw [eK_28]; exact nK_lit (by decide))
        have n30 : (K_28 0 6).toInt = (K 0 6).toInt := by rw [eK_28]; rfl
        have n31 : (K_28 0 7).toInt = (K 0 7).toInt := by rw [eK_28]; rfl
        have n32 : (K_28 0 1).toInt = (44 : Int32).toInt := by rw [eK_28]; rfl
        exact D_some (show (iR BK K_28) ∧ (nK K_28) from ⟨hK_28, knK_t29⟩)
    · have kc1 := tq_len (x := (K 0 6)) (y := (K 0 7)) rfl rfl c1
      refine D_bd (t_X5_at K (K 0 7) hK) (fun r33 eq35 hq34 => ?_)
      obtain ⟨p36, p37⟩ : ((-1) ≤ r33.toInt ∧ r33.toInt ≤ 255) ∧ (0 ≤ r33.toInt → 0 ≤ (K 0 7).toInt ∧ (K 0 7).toInt < (K 0 6).toInt) := hq34
      refine D_bd (t_X5_isLetter r33 ) (fun r38 eq40 hq39 => ?_)
      have p41 : 0 ≤ r38.toInt ∧ r38.toInt ≤ 1 := hq39
      refine D_ite (fun c42 => ?_) (fun c42 => ?_)
      · have kc42 := tq_eq (x := r38) (y := (0 : Int32)) rfl (b := 0) (by decide) c42
        unfold fJ_X5_readWord_J72
        refine D_lt (fun y43 ey43 => ?_)
        have n44 := i_rng ((K 0 7) - (K 0 2))
        have hy43 : y43.toInt = ((K 0 7) - (K 0 2)).toInt := by rw [ey43]
        refine D_ite (fun c45 => ?_) (fun c45 => ?_)
        · have kc45 := tq_le (x := y43) (y := (6 : Int32)) rfl (b := 6) (by decide) c45
          refine D_lt (fun K_46 eK_46 => ?_)
          have hK_46 : iR BK K_46 := by rw [eK_46]; exact iR_setU hK rfl
          have n48 : (K_46 0 6).toInt = (K 0 6).toInt := by rw [eK_46]; rfl
          have n49 : (K_46 0 7).toInt = (K 0 7).toInt := by rw [eK_46]; rfl
          have l43 : (43 : Int32).toInt = 43 := by decide
          refine D_lt (fun K_50 eK_50 => ?_)
          have hK_50 : iR BK K_50 := by rw [eK_50]; exact iR_set hK_46 (show (0 : Int) ≤ _ from (by clear hN2 hN n2 n3 kc1 p36 p37 p41 kc42 n44 hy43 kc45 n48 n49; omega)) (show _ ≤ (45 : Int) from (by clear hN2 hN n2 n3 kc1 p36 p37 p41 kc42 n44 hy43 kc45 n48 n49; omega))
          have knK_t51 : nK K_50 := (by rw [eK_50]; exact nK_lit (by decide))
          have n52 : (K_50 0 6).toInt = (K_46 0 6).toInt := by rw [eK_50]; rfl
          have n53 : (K_50 0 7).toInt = (K_46 0 7).toInt := by rw [eK_50]; rfl
          have n54 : (K_50 0 1).toInt = (43 : Int32).toInt := by rw [eK_50]; rfl
          have l0 : (0 : Int32).toInt = 0 := by decide
          exact tl_X5_readWord_L115     2000 (0 : Int32) K_50 knK_t51 hK_50 ⟨(by clear hN2 hN n2 n3 kc1 p36 p37 p41 kc42 n44 hy43 kc45 n48 n49 n52 n53 n54; omega), (by clear hN2 hN n2 n3 kc1 p36 p37 p41 kc42 n44 hy43 kc45 n48 n49 n52 n53 n54; omega)⟩ (by clear hN2 hN n2 n3 kc1 p36 p37 p41 kc42 n44 hy43 kc45 n48 n49 n52 n53 n54; omega)
        · have kc45 := tq_len (x := y43) (y := (6 : Int32)) rfl (b := 6) (by decide) c45
          have l44 : (44 : Int32).toInt = 44 := by decide
          refine D_lt (fun K_55 eK_55 => ?_)
          have hK_55 : iR BK K_55 := by rw [eK_55]; exact iR_set hK (show (0 : Int) ≤ _ from (by clear hN2 hN n2 n3 kc1 p36 p37 p41 kc42 n44 hy43 kc45; omega)) (show _ ≤ (45 : Int) from (by clear hN2 hN n2 n3 kc1 p36 p37 p41 kc42 n44 hy43 kc45; omega))
          have knK_t56 : nK K_55 := (by rw [eK_55]; exact nK_lit (by decide))
          have n57 : (K_55 0 6).toInt = (K 0 6).toInt := by rw [eK_55]; rfl
          have n58 : (K_55 0 7).toInt = (K 0 7).toInt := by rw [eK_55]; rfl
          have n59 : (K_55 0 1).toInt = (44 : Int32).toInt := by rw [eK_55]; rfl
          exact D_some (show (iR BK K_55) ∧ (nK K_55) from ⟨hK_55, knK_t56⟩)
      · have kc420 := tq_eqn (x := r38) (y := (0 : Int32)) rfl (b := 0) (by decide) c42
        have kc42 : 1 ≤ r38.toInt := (by clear hN2 hN n2 n3 kc1 p36 p37; omega)
        clear kc420
        have n61 := i_rng ((K 0 7) - (K 0 2))
        refine D_ite (fun c60 => ?_) (fun c60 => ?_)
        · have kc60 := tq_le (x := (6 : Int32)) (y := ((K 0 7) - (K 0 2))) (a := 6) (by decide) rfl c60
          unfold fJ_X5_readWord_J59
          have n63 : ((K 0 7) + 1).toInt = (K 0 7).toInt + 1 := i_addK rfl (by decide) (by clear hN2 hN p41 kc42 n61 kc60; omega) (by clear hN2 hN p41 kc42 n61 kc60; omega)
          refine D_lt (fun K_62 eK_62 => ?_)
          have hK_62 : iR BK K_62 := by rw [eK_62]; exact iR_set hK (show (0 : Int) ≤ _ from (by clear hN2 hN p41 kc42 n61 kc60; omega)) (show _ ≤ (702 : Int) from (by clear hN2 hN p41 kc42 n61 kc60; omega))
          have n65 : (K_62 0 6).toInt = (K 0 6).toInt := by rw [eK_62]; rfl
          have n66 : (K_62 0 7).toInt = ((K 0 7) + 1).toInt := by rw [eK_62]; rfl
          have n67 := i_rng x1
          exact hk2 x1 K_62 hK_62 (by clear p41 kc42 n61 kc60 n67; omega)
        · have kc60 := tq_len (x := (6 : Int32)) (y := ((K 0 7) - (K 0 2))) (a := 6) (by decide) rfl c60
          refine D_bd (t_X5_at K (K 0 7) hK) (fun r68 eq70 hq69 => ?_)
          obtain ⟨p71, p72⟩ : ((-1) ≤ r68.toInt ∧ r68.toInt ≤ 255) ∧ (0 ≤ r68.toInt → 0 ≤ (K 0 7).toInt ∧ (K 0 7).toInt < (K 0 6).toInt) := hq69
          refine D_lt (fun y73 ey73 => ?_)
          have n74 := i_rng ((x1 <<< (5 &&& 31)) ||| ((r68 - 97) + 1))
          have hy73 : y73.toInt = ((x1 <<< (5 &&& 31)) ||| ((r68 - 97) + 1)).toInt := by rw [ey73]
          unfold fJ_X5_readWord_J59
          have n76 : ((K 0 7) + 1).toInt = (K 0 7).toInt + 1 := i_addK rfl (by decide) (by clear hN2 hN p41 kc42 n61 kc60 n74 hy73; omega) (by clear hN2 hN p41 kc42 n61 kc60 n74 hy73; omega)
          refine D_lt (fun K_75 eK_75 => ?_)
          have hK_75 : iR BK K_75 := by rw [eK_75]; exact iR_set hK (show (0 : Int) ≤ _ from (by clear hN2 hN p41 kc42 n61 kc60 n74 hy73; omega)) (show _ ≤ (702 : Int) from (by clear hN2 hN p41 kc42 n61 kc60 n74 hy73; omega))
          have n78 : (K_75 0 6).toInt = (K 0 6).toInt := by rw [eK_75]; rfl
          have n79 : (K_75 0 7).toInt = ((K 0 7) + 1).toInt := by rw [eK_75]; rfl
          exact hk2 y73 K_75 hK_75 (by clear p41 kc42 n61 kc60 n74 hy73; omega)
set_option maxHeartbeats 1000000 in
set_option maxRecDepth 100000 in
theorem t_X5_readWord (K : Tr) (hK : iR BK K) : D (f_X5_readWord K) (fun (q : Tr) => (iR BK q) ∧ (nK q)) := by
  unfold f_X5_readWord
  have l0 : (0 : Int32).toInt = 0 := by decide
  have n81 : 0 ≤ (K 0 7).toInt ∧ (K 0 7).toInt ≤ 702 := hK 0 7
  exact tl_X5_readWord_L2     2000 (0 : Int32) K hK (by omega)
set_option maxHeartbeats 1000000 in
set_option maxRecDepth 100000 in
theorem t_X5_isDigit (x0 : Int32)  : D (f_X5_isDigit x0) (fun (q : Int32) => (0 ≤ q.toInt ∧ q.toInt ≤ 1) ∧ (q.toInt = 1 → 48 ≤ x0.toInt ∧ x0.toInt ≤ 57)) := by
  unfold f_X5_isDigit
  have n2 := i_rng x0
  refine D_ite (fun c1 => ?_) (fun c1 => ?_)
  · have kc1 := tq_lt (x := x0) (y := (48 : Int32)) rfl (b := 48) (by decide) c1
    have l0 : (0 : Int32).toInt = 0 := by decide
    exact D_some (show (0 ≤ (0 : Int32).toInt ∧ (0 : Int32).toInt ≤ 1) ∧ ((0 : Int32).toInt = 1 → 48 ≤ x0.toInt ∧ x0.toInt ≤ 57) from ⟨⟨(by omega), (by omega)⟩, (by omega)⟩)
  · have kc1 := tq_ltn (x := x0) (y := (48 : Int32)) rfl (b := 48) (by decide) c1
    refine D_ite (fun c3 => ?_) (fun c3 => ?_)
    · have kc3 := tq_lt (x := (57 : Int32)) (y := x0) (a := 57) (by decide) rfl c3
      have l0 : (0 : Int32).toInt = 0 := by decide
      exact D_some (show (0 ≤ (0 : Int32).toInt ∧ (0 : Int32).toInt ≤ 1) ∧ ((0 : Int32).toInt = 1 → 48 ≤ x0.toInt ∧ x0.toInt ≤ 57) from ⟨⟨(by clear n2 kc1 kc3; omega), (by clear n2 kc1 kc3; omega)⟩, (by omega)⟩)
    · have kc3 := tq_ltn (x := (57 : Int32)) (y := x0) (a := 57) (by decide) rfl c3
      have l1 : (1 : Int32).toInt = 1 := by decide
      exact D_some (show (0 ≤ (1 : Int32).toInt ∧ (1 : Int32).toInt ≤ 1) ∧ ((1 : Int32).toInt = 1 → 48 ≤ x0.toInt ∧ x0.toInt ≤ 57) from ⟨⟨(by clear n2 kc1 kc3; omega), (by clear n2 kc1 kc3; omega)⟩, (by omega)⟩)
set_option maxHeartbeats 1000000 in
set_option maxRecDepth 100000 in
theorem tl_X5_readNumber_L5     (N : Nat) : ∀ (K : Tr), iR BK K → 0 ≤ (K 0 3).toInt ∧ (K 0 3).toInt ≤ 10000000 → 1000 - (K 0 7).toInt < (N : Int) → D (lpF (fun _ => none) (fB_X5_readNumber_L5 ) N K) (fun (q : Tr) => (iR BK q) ∧ (nK q)) := by
  induction N with
  | zero =>
    intro K hK hv hN
    exfalso
    have n56 : 0 ≤ (K 0 7).toInt ∧ (K 0 7).toInt ≤ 702 := hK 0 7
    omega
  | succ N5 ih =>
    intro K hK hv hN
    have hk5 : ∀ (K : Tr), iR BK K → 0 ≤ (K 0 3).toInt ∧ (K 0 3).toInt ≤ 10000000 → 1000 - (K 0 7).toInt < (N5 : Int) → D (lpF (fun _ => none) (fB_X5_readNumber_L5 ) N5 K) (fun (q : Tr) => (iR BK q) ∧ (nK q)) := ih
    show D (fB_X5_readNumber_L5  (lpF (fun _ => none) (fB_X5_readNumber_L5 ) N5) K) _
    generalize lpF (fun _ => none) (fB_X5_readNumber_L5 ) N5 = k5 at hk5 ⊢
    have hN5 : 1000 - (K 0 7).toInt < (N5 : Int) + 1 := by omega
    clear ih
    unfold fB_X5_readNumber_L5
    have n5 : 0 ≤ (K 0 7).toInt ∧ (K 0 7).toInt ≤ 702 := hK 0 7
    have n6 : 0 ≤ (K 0 6).toInt ∧ (K 0 6).toInt ≤ 700 := hK 0 6
    refine D_ite (fun c4 => ?_) (fun c4 => ?_)
    · have kc4 := tq_le (x := (K 0 6)) (y := (K 0 7)) rfl rfl c4
      unfold fJ_X5_readNumber_J75
      have l42 : (42 : Int32).toInt = 42 := by decide
      refine D_lt (fun K_7 eK_7 => ?_)
      have hK_7 : iR BK K_7 := by rw [eK_7]; exact iR_set hK (show (0 : Int) ≤ _ from (by clear hv hN5 hN n5 n6 kc4; omega)) (show _ ≤ (45 : Int) from (by clear hv hN5 hN n5 n6 kc4; omega))
      have knK_t8 : nK K_7 := (by rw [eK_7]; intro _; show 0 ≤ (K 0 3).toInt; omega)
      have n9 : (K_7 0 6).toInt = (K 0 6).toInt := by rw [eK_7]; rfl
      have n10 : (K_7 0 7).toInt = (K 0 7).toInt := by rw [eK_7]; rfl
      have n11 : (K_7 0 1).toInt = (42 : Int32).toInt := by rw [eK_7]; rfl
      exact D_some (show (iR BK K_7) ∧ (nK K_7) from ⟨hK_7, knK_t8⟩)
    · have kc4 := tq_len (x := (K 0 6)) (y := (K 0 7)) rfl rfl c4
      refine D_bd (t_X5_at K (K 0 7) hK) (fun r12 eq14 hq13 => ?_)
      obtain ⟨p15, p16⟩ : ((-1) ≤ r12.toInt ∧ r12.toInt ≤ 255) ∧ (0 ≤ r12.toInt → 0 ≤ (K 0 7).toInt ∧ (K 0 7).toInt < (K 0 6).toInt) := hq13
      refine D_bd (t_X5_isDigit r12 ) (fun r17 eq19 hq18 => ?_)
      obtain ⟨p20, p21⟩ : (0 ≤ r17.toInt ∧ r17.toInt ≤ 1) ∧ (r17.toInt = 1 → 48 ≤ r12.toInt ∧ r12.toInt ≤ 57) := hq18
      refine D_ite (fun c22 => ?_) (fun c22 => ?_)
      · have kc22 := tq_eq (x := r17) (y := (0 : Int32)) rfl (b := 0) (by decide) c22
        unfold fJ_X5_readNumber_J75
        have l42 : (42 : Int32).toInt = 42 := by decide
        refine D_lt (fun K_23 eK_23 => ?_)
        have hK_23 : iR BK K_23 := by rw [eK_23]; exact iR_set hK (show (0 : Int) ≤ _ from (by clear hv hN5 hN n5 n6 kc4 p15 p16 p20 p21 kc22; omega)) (show _ ≤ (45 : Int) from (by clear hv hN5 hN n5 n6 kc4 p15 p16 p20 p21 kc22; omega))
        have knK_t24 : nK K_23 := (by rw [eK_23]; intro _; show 0 ≤ (K 0 3).toInt; omega)
        have n25 : (K_23 0 6).toInt = (K 0 6).toInt := by rw [eK_23]; rfl
        have n26 : (K_23 0 7).toInt = (K 0 7).toInt := by rw [eK_23]; rfl
        have n27 : (K_23 0 1).toInt = (42 : Int32).toInt := by rw [eK_23]; rfl
        exact D_some (show (iR BK K_23) ∧ (nK K_23) from ⟨hK_23, knK_t24⟩)
      · have kc220 := tq_eqn (x := r17) (y := (0 : Int32)) rfl (b := 0) (by decide) c22
        have kc22 : 1 ≤ r17.toInt := (by clear hv hN5 hN; omega)
        clear kc220
        have n29 := i_rng (K 0 3)
        refine D_ite (fun c28 => ?_) (fun c28 => ?_)
        · have kc28 := tq_le (x := (1000000 : Int32)) (y := (K 0 3)) (a := 1000000) (by decide) rfl c28
          unfold fJ_X5_readNumber_J62
          have n31 : ((K 0 7) + 1).toInt = (K 0 7).toInt + 1 := i_addK rfl (by decide) (by clear hv hN5 hN n29 kc28; omega) (by clear hv hN5 hN n29 kc28; omega)
          refine D_lt (fun K_30 eK_30 => ?_)
          have hK_30 : iR BK K_30 := by rw [eK_30]; exact iR_set hK (show (0 : Int) ≤ _ from (by clear hv hN5 hN n29 kc28; omega)) (show _ ≤ (702 : Int) from (by clear hv hN5 hN n29 kc28; omega))
          have n33 : (K_30 0 6).toInt = (K 0 6).toInt := by rw [eK_30]; rfl
          have n34 : (K_30 0 3).toInt = (K 0 3).toInt := by rw [eK_30]; rfl
          have n35 : (K_30 0 7).toInt = ((K 0 7) + 1).toInt := by rw [eK_30]; rfl
          exact hk5 K_30 hK_30 (by clear hN5 hN n5 n6 kc4 p15 p16 p20 p21 kc22 n31 n33 n35; omega) (by clear hv n29 kc28 n34; omega)
        · have kc28 := tq_len (x := (1000000 : Int32)) (y := (K 0 3)) (a := 1000000) (by decide) rfl c28
          refine D_bd (t_X5_at K (K 0 7) hK) (fun r36 eq38 hq37 => ?_)
          obtain ⟨p39, p40⟩ : ((-1) ≤ r36.toInt ∧ r36.toInt ≤ 255) ∧ (0 ≤ r36.toInt → 0 ≤ (K 0 7).toInt ∧ (K 0 7).toInt < (K 0 6).toInt) := hq37
          have n41 : r36.toInt = r12.toInt := by have hz := eq38.symm.trans eq14; rw [Option.some.inj hz]
          refine D_lt (fun K_42 eK_42 => ?_)
          have hK_42 : iR BK K_42 := by rw [eK_42]; exact iR_setU hK rfl
          have n44 : (K_42 0 6).toInt = (K 0 6).toInt := by rw [eK_42]; rfl
          have n45 : (K_42 0 7).toInt = (K 0 7).toInt := by rw [eK_42]; rfl
          have n46 := i_mulR (a := (K 0 3)) (b := (10 : Int32)) 10 (by decide) (by clear hN5 hN n5 n6 kc4 p15 p16 p20 p21 kc22 p39 p40 n44 n45; omega) (by clear hN5 hN n5 n6 kc4 p15 p16 p20 p21 kc22 p39 p40 n44 n45; omega)
          have n47 : (((K 0 3) * 10) + r36).toInt = ((K 0 3) * 10).toInt + r36.toInt := i_addK rfl rfl (by omega) (by omega)
          have n48 : ((((K 0 3) * 10) + r36) - 48).toInt = (((K 0 3) * 10) + r36).toInt - 48 := i_subK rfl (by decide) (by omega) (by omega)
          have n49 : (K_42 0 3).toInt = ((((K 0 3) * 10) + r36) - 48).toInt := by rw [eK_42]; rfl
          unfold fJ_X5_readNumber_J62
          have n51 : ((K_42 0 7) + 1).toInt = (K_42 0 7).toInt + 1 := i_addK rfl (by decide) (by omega) (by omega)
          refine D_lt (fun K_50 eK_50 => ?_)
          have hK_50 : iR BK K_50 := by rw [eK_50]; exact iR_set hK_42 (show (0 : Int) ≤ _ from (by omega)) (show _ ≤ (702 : Int) from (by omega))
          have n53 : (K_50 0 3).toInt = (K_42 0 3).toInt := by rw [eK_50]; rfl
          have n54 : (K_50 0 6).toInt = (K_42 0 6).toInt := by rw [eK_50]; rfl
          have n55 : (K_50 0 7).toInt = ((K_42 0 7) + 1).toInt := by rw [eK_50]; rfl
          exact hk5 K_50 hK_50 (by omega) (by omega)
set_option maxHeartbeats 1000000 in
set_option maxRecDepth 100000 in
theorem t_X5_readNumber (K : Tr) (hK : iR BK K) : D (f_X5_readNumber K) (fun (q : Tr) => (iR BK q) ∧ (nK q)) := by
  unfold f_X5_readNumber
  refine D_lt (fun K_1 eK_1 => ?_)
  have hK_1 : iR BK K_1 := by rw [eK_1]; exact iR_setU hK rfl
  have l0 : (0 : Int32).toInt = 0 := by decide
  have n3 : (K_1 0 3).toInt = (0 : Int32).toInt := by rw [eK_1]; rfl
  have n57 : 0 ≤ (K_1 0 7).toInt ∧ (K_1 0 7).toInt ≤ 702 := hK_1 0 7
  exact tl_X5_readNumber_L5     2000 K_1 hK_1 (by omega) (by omega)
set_option maxHeartbeats 1000000 in
set_option maxRecDepth 100000 in
theorem t_X5_sign (x0 : Int32) (x1 : Int32)  : D (f_X5_sign x0 x1) (fun (q : Int32) => (29 ≤ q.toInt ∧ q.toInt ≤ 44) ∧ (q.toInt ≠ 42)) := by
  unfold f_X5_sign
  have n1 := i_rng x0
  refine D_ite (fun c2 => ?_) (fun c2 => ?_)
  · have kc2 := tq_eq (x := x0) (y := (40 : Int32)) rfl (b := 40) (by decide) c2
    have l39 : (39 : Int32).toInt = 39 := by decide
    exact D_some (show (29 ≤ (39 : Int32).toInt ∧ (39 : Int32).toInt ≤ 44) ∧ ((39 : Int32).toInt ≠ 42) from ⟨⟨(by omega), (by omega)⟩, (by omega)⟩)
  · skip
    refine D_ite (fun c3 => ?_) (fun c3 => ?_)
    · have kc3 := tq_eq (x := x0) (y := (41 : Int32)) rfl (b := 41) (by decide) c3
      have l40 : (40 : Int32).toInt = 40 := by decide
      exact D_some (show (29 ≤ (40 : Int32).toInt ∧ (40 : Int32).toInt ≤ 44) ∧ ((40 : Int32).toInt ≠ 42) from ⟨⟨(by omega), (by omega)⟩, (by omega)⟩)
    · skip
      refine D_ite (fun c4 => ?_) (fun c4 => ?_)
      · have kc4 := tq_eq (x := x0) (y := (42 : Int32)) rfl (b := 42) (by decide) c4
        have l37 : (37 : Int32).toInt = 37 := by decide
        exact D_some (show (29 ≤ (37 : Int32).toInt ∧ (37 : Int32).toInt ≤ 44) ∧ ((37 : Int32).toInt ≠ 42) from ⟨⟨(by omega), (by omega)⟩, (by omega)⟩)
      · skip
        refine D_ite (fun c5 => ?_) (fun c5 => ?_)
        · have kc5 := tq_eq (x := x0) (y := (43 : Int32)) rfl (b := 43) (by decide) c5
          have l35 : (35 : Int32).toInt = 35 := by decide
          exact D_some (show (29 ≤ (35 : Int32).toInt ∧ (35 : Int32).toInt ≤ 44) ∧ ((35 : Int32).toInt ≠ 42) from ⟨⟨(by omega), (by omega)⟩, (by omega)⟩)
        · skip
          refine D_ite (fun c6 => ?_) (fun c6 => ?_)
          · have kc6 := tq_eq (x := x0) (y := (45 : Int32)) rfl (b := 45) (by decide) c6
            have l36 : (36 : Int32).toInt = 36 := by decide
            exact D_some (show (29 ≤ (36 : Int32).toInt ∧ (36 : Int32).toInt ≤ 44) ∧ ((36 : Int32).toInt ≠ 42) from ⟨⟨(by omega), (by omega)⟩, (by omega)⟩)
          · skip
            refine D_ite (fun c7 => ?_) (fun c7 => ?_)
            · have kc7 := tq_eq (x := x0) (y := (47 : Int32)) rfl (b := 47) (by decide) c7
              have l38 : (38 : Int32).toInt = 38 := by decide
              exact D_some (show (29 ≤ (38 : Int32).toInt ∧ (38 : Int32).toInt ≤ 44) ∧ ((38 : Int32).toInt ≠ 42) from ⟨⟨(by omega), (by omega)⟩, (by omega)⟩)
            · skip
              refine D_ite (fun c8 => ?_) (fun c8 => ?_)
              · have kc8 := tq_eq (x := x0) (y := (59 : Int32)) rfl (b := 59) (by decide) c8
                have l41 : (41 : Int32).toInt = 41 := by decide
                exact D_some (show (29 ≤ (41 : Int32).toInt ∧ (41 : Int32).toInt ≤ 44) ∧ ((41 : Int32).toInt ≠ 42) from ⟨⟨(by omega), (by omega)⟩, (by omega)⟩)
              · skip
                refine D_ite (fun c9 => ?_) (fun c9 => ?_)
                · have kc9 := tq_eq (x := x0) (y := (60 : Int32)) rfl (b := 60) (by decide) c9
                  have n11 := i_rng x1
                  refine D_ite (fun c10 => ?_) (fun c10 => ?_)
                  · have kc10 := tq_eq (x := x1) (y := (61 : Int32)) rfl (b := 61) (by decide) c10
                    have l30 : (30 : Int32).toInt = 30 := by decide
                    exact D_some (show (29 ≤ (30 : Int32).toInt ∧ (30 : Int32).toInt ≤ 44) ∧ ((30 : Int32).toInt ≠ 42) from ⟨⟨(by clear n1 kc9 n11 kc10; omega), (by clear n1 kc9 n11 kc10; omega)⟩, (by clear n1 kc9 n11 kc10; omega)⟩)
                  · skip
                    refine D_ite (fun c12 => ?_) (fun c12 => ?_)
                    · have kc12 := tq_eq (x := x1) (y := (62 : Int32)) rfl (b := 62) (by decide) c12
                      have l32 : (32 : Int32).toInt = 32 := by decide
                      exact D_some (show (29 ≤ (32 : Int32).toInt ∧ (32 : Int32).toInt ≤ 44) ∧ ((32 : Int32).toInt ≠ 42) from ⟨⟨(by clear n1 kc9 n11 kc12; omega), (by clear n1 kc9 n11 kc12; omega)⟩, (by clear n1 kc9 n11 kc12; omega)⟩)
                    · skip
                      have l29 : (29 : Int32).toInt = 29 := by decide
                      exact D_some (show (29 ≤ (29 : Int32).toInt ∧ (29 : Int32).toInt ≤ 44) ∧ ((29 : Int32).toInt ≠ 42) from ⟨⟨(by clear n1 kc9 n11; omega), (by clear n1 kc9 n11; omega)⟩, (by clear n1 kc9 n11; omega)⟩)
                · skip
                  refine D_ite (fun c13 => ?_) (fun c13 => ?_)
                  · have kc13 := tq_eq (x := x0) (y := (61 : Int32)) rfl (b := 61) (by decide) c13
                    have l31 : (31 : Int32).toInt = 31 := by decide
                    exact D_some (show (29 ≤ (31 : Int32).toInt ∧ (31 : Int32).toInt ≤ 44) ∧ ((31 : Int32).toInt ≠ 42) from ⟨⟨(by omega), (by omega)⟩, (by omega)⟩)
                  · skip
                    refine D_ite (fun c14 => ?_) (fun c14 => ?_)
                    · have kc14 := tq_eq (x := x0) (y := (62 : Int32)) rfl (b := 62) (by decide) c14
                      have n16 := i_rng x1
                      refine D_ite (fun c15 => ?_) (fun c15 => ?_)
                      · have kc15 := tq_eq (x := x1) (y := (61 : Int32)) rfl (b := 61) (by decide) c15
                        have l33 : (33 : Int32).toInt = 33 := by decide
                        exact D_some (show (29 ≤ (33 : Int32).toInt ∧ (33 : Int32).toInt ≤ 44) ∧ ((33 : Int32).toInt ≠ 42) from ⟨⟨(by clear n1 kc14 n16 kc15; omega), (by clear n1 kc14 n16 kc15; omega)⟩, (by clear n1 kc14 n16 kc15; omega)⟩)
                      · skip
                        have l34 : (34 : Int32).toInt = 34 := by decide
                        exact D_some (show (29 ≤ (34 : Int32).toInt ∧ (34 : Int32).toInt ≤ 44) ∧ ((34 : Int32).toInt ≠ 42) from ⟨⟨(by clear n1 kc14 n16; omega), (by clear n1 kc14 n16; omega)⟩, (by clear n1 kc14 n16; omega)⟩)
                    · skip
                      have l44 : (44 : Int32).toInt = 44 := by decide
                      exact D_some (show (29 ≤ (44 : Int32).toInt ∧ (44 : Int32).toInt ≤ 44) ∧ ((44 : Int32).toInt ≠ 42) from ⟨⟨(by omega), (by omega)⟩, (by omega)⟩)
set_option maxHeartbeats 1000000 in
set_option maxRecDepth 100000 in
theorem tl_X5_advance_L0     (N : Nat) : ∀ (K : Tr), iR BK K → 1000 - (K 0 7).toInt < (N : Int) → D (lpF (fun _ => none) (fB_X5_advance_L0 ) N K) (fun (q : Tr) => (iR BK q) ∧ (nK q)) := by
  induction N with
  | zero =>
    intro K hK hN
    exfalso
    have n187 : 0 ≤ (K 0 7).toInt ∧ (K 0 7).toInt ≤ 702 := hK 0 7
    omega
  | succ N0 ih =>
    intro K hK hN
    have hk0 : ∀ (K : Tr), iR BK K → 1000 - (K 0 7).toInt < (N0 : Int) → D (lpF (fun _ => none) (fB_X5_advance_L0 ) N0 K) (fun (q : Tr) => (iR BK q) ∧ (nK q)) := ih
    show D (fB_X5_advance_L0  (lpF (fun _ => none) (fB_X5_advance_L0 ) N0) K) _
    generalize lpF (fun _ => none) (fB_X5_advance_L0 ) N0 = k0 at hk0 ⊢
    have hN0 : 1000 - (K 0 7).toInt < (N0 : Int) + 1 := by omega
    clear ih
    unfold fB_X5_advance_L0
    have n2 : 0 ≤ (K 0 7).toInt ∧ (K 0 7).toInt ≤ 702 := hK 0 7
    have n3 : 0 ≤ (K 0 6).toInt ∧ (K 0 6).toInt ≤ 700 := hK 0 6
    refine D_ite (fun c1 => ?_) (fun c1 => ?_)
    · have kc1 := tq_le (x := (K 0 6)) (y := (K 0 7)) rfl rfl c1
      unfold fJ_X5_advance_J38
      refine D_lt (fun K_4 eK_4 => ?_)
      have hK_4 : iR BK K_4 := by rw [eK_4]; exact iR_setU hK rfl
      have n6 : (K_4 0 6).toInt = (K 0 6).toInt := by rw [eK_4]; rfl
      have n7 : (K_4 0 7).toInt = (K 0 7).toInt := by rw [eK_4]; rfl
      have n8 : (K_4 0 2).toInt = (K 0 7).toInt := by rw [eK_4]; rfl
      refine D_bd (t_X5_at K_4 (K_4 0 7) hK_4) (fun r9 eq11 hq10 => ?_)
      obtain ⟨p12, p13⟩ : ((-1) ≤ r9.toInt ∧ r9.toInt ≤ 255) ∧ (0 ≤ r9.toInt → 0 ≤ (K_4 0 7).toInt ∧ (K_4 0 7).toInt < (K_4 0 6).toInt) := hq10
      refine D_ite (fun c14 => ?_) (fun c14 => ?_)
      · have kc14 := tq_le (x := (0 : Int32)) (y := r9) (a := 0) (by decide) rfl c14
        refine D_bd (t_X5_isLetter r9 ) (fun r15 eq17 hq16 => ?_)
        have p18 : 0 ≤ r15.toInt ∧ r15.toInt ≤ 1 := hq16
        refine D_ite (fun c19 => ?_) (fun c19 => ?_)
        · have kc19 := tq_eq (x := r15) (y := (0 : Int32)) rfl (b := 0) (by decide) c19
          refine D_bd (t_X5_isDigit r9 ) (fun r20 eq22 hq21 => ?_)
          obtain ⟨p23, p24⟩ : (0 ≤ r20.toInt ∧ r20.toInt ≤ 1) ∧ (r20.toInt = 1 → 48 ≤ r9.toInt ∧ r9.toInt ≤ 57) := hq21
          refine D_ite (fun c25 => ?_) (fun c25 => ?_)
          · have kc25 := tq_eq (x := r20) (y := (0 : Int32)) rfl (b := 0) (by decide) c25
            have n27 : ((K_4 0 7) + 1).toInt = (K_4 0 7).toInt + 1 := i_addK rfl (by decide) (by clear hN0 hN p18 kc19; omega) (by clear hN0 hN p18 kc19; omega)
            refine D_lt (fun K_26 eK_26 => ?_)
            have hK_26 : iR BK K_26 := by rw [eK_26]; exact iR_set hK_4 (show (0 : Int) ≤ _ from (by clear hN0 hN p18 kc19; omega)) (show _ ≤ (702 : Int) from (by clear hN0 hN p18 kc19; omega))
            have n29 : (K_26 0 6).toInt = (K_4 0 6).toInt := by rw [eK_26]; rfl
            have n30 : (K_26 0 2).toInt = (K_4 0 2).toInt := by rw [eK_26]; rfl
            have n31 : (K_26 0 7).toInt = ((K_4 0 7) + 1).toInt := by rw [eK_26]; rfl
            refine D_bd (t_X5_at K_26 (K_26 0 7) hK_26) (fun r32 eq34 hq33 => ?_)
            obtain ⟨p35, p36⟩ : ((-1) ≤ r32.toInt ∧ r32.toInt ≤ 255) ∧ (0 ≤ r32.toInt → 0 ≤ (K_26 0 7).toInt ∧ (K_26 0 7).toInt < (K_26 0 6).toInt) := hq33
            refine D_bd (t_X5_sign r9 r32 ) (fun r37 eq39 hq38 => ?_)
            obtain ⟨p40, p41⟩ : (29 ≤ r37.toInt ∧ r37.toInt ≤ 44) ∧ (r37.toInt ≠ 42) := hq38
            refine D_lt (fun K_42 eK_42 => ?_)
            have hK_42 : iR BK K_42 := by rw [eK_42]; exact iR_set hK_26 (show (0 : Int) ≤ _ from (by clear hN0 hN n2 n3 kc1 n6 n7 n8 p12 p13 kc14 p18 kc19 p23 p24 kc25 n27 n29 n30 n31 p35 p36; omega)) (show _ ≤ (45 : Int) from (by clear hN0 hN n2 n3 kc1 n6 n7 n8 p12 p13 kc14 p18 kc19 p23 p24 kc25 n27 n29 n30 n31 p35 p36; omega))
            have knK_t43 : nK K_42 := (by rw [eK_42]; intro hz; exact absurd (tq_eq (b := 42) rfl (by decide) (show r37 = 42 from hz)) (by omega))
            have n44 : (K_42 0 2).toInt = (K_26 0 2).toInt := by rw [eK_42]; rfl
            have n45 : (K_42 0 7).toInt = (K_26 0 7).toInt := by rw [eK_42]; rfl
            have n46 : (K_42 0 6).toInt = (K_26 0 6).toInt := by rw [eK_42]; rfl
            have n47 : (K_42 0 1).toInt = r37.toInt := by rw [eK_42]; rfl
            refine D_ite (fun c48 => ?_) (fun c48 => ?_)
            · have kc48 := tq_eq (x := (K_42 0 1)) (y := (30 : Int32)) rfl (b := 30) (by decide) c48
              unfold fJ_X5_advance_J149
              have n50 : ((K_42 0 7) + 1).toInt = (K_42 0 7).toInt + 1 := i_addK rfl (by decide) (by clear hN0 hN p18 kc19 p40 p41 n47 kc48; omega) (by clear hN0 hN p18 kc19 p40 p41 n47 kc48; omega)
              refine D_lt (fun K_49 eK_49 => ?_)
              have hK_49 : iR BK K_49 := by rw [eK_49]; exact iR_set hK_42 (show (0 : Int) ≤ _ from (by clear hN0 hN p18 kc19 p40 p41 n47 kc48; omega)) (show _ ≤ (702 : Int) from (by clear hN0 hN p18 kc19 p40 p41 n47 kc48; omega))
              have knK_t51 : nK K_49 := by rw [eK_49]; exact knK_t43
              have n52 : (K_49 0 6).toInt = (K_42 0 6).toInt := by rw [eK_49]; rfl
              have n53 : (K_49 0 1).toInt = (K_42 0 1).toInt := by rw [eK_49]; rfl
              have n54 : (K_49 0 2).toInt = (K_42 0 2).toInt := by rw [eK_49]; rfl
              have n55 : (K_49 0 7).toInt = ((K_42 0 7) + 1).toInt := by rw [eK_49]; rfl
              exact D_some (show (iR BK K_49) ∧ (nK K_49) from ⟨hK_49, knK_t51⟩)
            · skip
              refine D_ite (fun c56 => ?_) (fun c56 => ?_)
              · have kc56 := tq_eq (x := (K_42 0 1)) (y := (32 : Int32)) rfl (b := 32) (by decide) c56
                unfold fJ_X5_advance_J149
                have n58 : ((K_42 0 7) + 1).toInt = (K_42 0 7).toInt + 1 := i_addK rfl (by decide) (by clear hN0 hN p18 kc19 p40 p41 n47 kc56; omega) (by clear hN0 hN p18 kc19 p40 p41 n47 kc56; omega)
                refine D_lt (fun K_57 eK_57 => ?_)
                have hK_57 : iR BK K_57 := by rw [eK_57]; exact iR_set hK_42 (show (0 : Int) ≤ _ from (by clear hN0 hN p18 kc19 p40 p41 n47 kc56; omega)) (show _ ≤ (702 : Int) from (by clear hN0 hN p18 kc19 p40 p41 n47 kc56; omega))
                have knK_t59 : nK K_57 := by rw [eK_57]; exact knK_t43
                have n60 : (K_57 0 6).toInt = (K_42 0 6).toInt := by rw [eK_57]; rfl
                have n61 : (K_57 0 1).toInt = (K_42 0 1).toInt := by rw [eK_57]; rfl
                have n62 : (K_57 0 2).toInt = (K_42 0 2).toInt := by rw [eK_57]; rfl
                have n63 : (K_57 0 7).toInt = ((K_42 0 7) + 1).toInt := by rw [eK_57]; rfl
                exact D_some (show (iR BK K_57) ∧ (nK K_57) from ⟨hK_57, knK_t59⟩)
              · skip
                refine D_ite (fun c64 => ?_) (fun c64 => ?_)
                · have kc64 := tq_eq (x := (K_42 0 1)) (y := (33 : Int32)) rfl (b := 33) (by decide) c64
                  unfold fJ_X5_advance_J149
                  have n66 : ((K_42 0 7) + 1).toInt = (K_42 0 7).toInt + 1 := i_addK rfl (by decide) (by clear hN0 hN p18 kc19 p40 p41 n47 kc64; omega) (by clear hN0 hN p18 kc19 p40 p41 n47 kc64; omega)
                  refine D_lt (fun K_65 eK_65 => ?_)
                  have hK_65 : iR BK K_65 := by rw [eK_65]; exact iR_set hK_42 (show (0 : Int) ≤ _ from (by clear hN0 hN p18 kc19 p40 p41 n47 kc64; omega)) (show _ ≤ (702 : Int) from (by clear hN0 hN p18 kc19 p40 p41 n47 kc64; omega))
                  have knK_t67 : nK K_65 := by rw [eK_65]; exact knK_t43
                  have n68 : (K_65 0 6).toInt = (K_42 0 6).toInt := by rw [eK_65]; rfl
                  have n69 : (K_65 0 1).toInt = (K_42 0 1).toInt := by rw [eK_65]; rfl
                  have n70 : (K_65 0 2).toInt = (K_42 0 2).toInt := by rw [eK_65]; rfl
                  have n71 : (K_65 0 7).toInt = ((K_42 0 7) + 1).toInt := by rw [eK_65]; rfl
                  exact D_some (show (iR BK K_65) ∧ (nK K_65) from ⟨hK_65, knK_t67⟩)
                · skip
                  exact D_some (show (iR BK K_42) ∧ (nK K_42) from ⟨hK_42, knK_t43⟩)
          · have kc250 := tq_eqn (x := r20) (y := (0 : Int32)) rfl (b := 0) (by decide) c25
            have kc25 : 1 ≤ r20.toInt := (by clear hN0 hN p18 kc19; omega)
            clear kc250
            refine D_bd (t_X5_readNumber K_4 hK_4) (fun K_72 eq74 hq73 => ?_)
            obtain ⟨p75, p76⟩ : (iR BK K_72) ∧ (nK K_72) := hq73
            exact D_some (show (iR BK K_72) ∧ (nK K_72) from ⟨p75, p76⟩)
        · have kc190 := tq_eqn (x := r15) (y := (0 : Int32)) rfl (b := 0) (by decide) c19
          have kc19 : 1 ≤ r15.toInt := (by clear hN0 hN n2 n3 kc1 n6 n7 n8 p12 p13 kc14; omega)
          clear kc190
          refine D_bd (t_X5_readWord K_4 hK_4) (fun K_77 eq79 hq78 => ?_)
          obtain ⟨p80, p81⟩ : (iR BK K_77) ∧ (nK K_77) := hq78
          exact D_some (show (iR BK K_77) ∧ (nK K_77) from ⟨p80, p81⟩)
      · have kc14 := tq_len (x := (0 : Int32)) (y := r9) (a := 0) (by decide) rfl c14
        have l45 : (45 : Int32).toInt = 45 := by decide
        refine D_lt (fun K_82 eK_82 => ?_)
        have hK_82 : iR BK K_82 := by rw [eK_82]; exact iR_set hK_4 (show (0 : Int) ≤ _ from (by clear hN0 hN n2 n3 kc1 n6 n7 n8 p12 p13 kc14; omega)) (show _ ≤ (45 : Int) from (by clear hN0 hN n2 n3 kc1 n6 n7 n8 p12 p13 kc14; omega))
        have knK_t83 : nK K_82 := (by rw [eK_82]; exact nK_lit (by decide))
        have n84 : (K_82 0 7).toInt = (K_4 0 7).toInt := by rw [eK_82]; rfl
        have n85 : (K_82 0 6).toInt = (K_4 0 6).toInt := by rw [eK_82]; rfl
        have n86 : (K_82 0 2).toInt = (K_4 0 2).toInt := by rw [eK_82]; rfl
        have n87 : (K_82 0 1).toInt = (45 : Int32).toInt := by rw [eK_82]; rfl
        exact D_some (show (iR BK K_82) ∧ (nK K_82) from ⟨hK_82, knK_t83⟩)
    · have kc1 := tq_len (x := (K 0 6)) (y := (K 0 7)) rfl rfl c1
      refine D_bd (t_X5_at K (K 0 7) hK) (fun r88 eq90 hq89 => ?_)
      obtain ⟨p91, p92⟩ : ((-1) ≤ r88.toInt ∧ r88.toInt ≤ 255) ∧ (0 ≤ r88.toInt → 0 ≤ (K 0 7).toInt ∧ (K 0 7).toInt < (K 0 6).toInt) := hq89
      refine D_bd (t_X5_isBlank r88 ) (fun r93 eq95 hq94 => ?_)
      have p96 : 0 ≤ r93.toInt ∧ r93.toInt ≤ 1 := hq94
      refine D_ite (fun c97 => ?_) (fun c97 => ?_)
      · have kc97 := tq_eq (x := r93) (y := (0 : Int32)) rfl (b := 0) (by decide) c97
        unfold fJ_X5_advance_J38
        refine D_lt (fun K_98 eK_98 => ?_)
        have hK_98 : iR BK K_98 := by rw [eK_98]; exact iR_setU hK rfl
        have n100 : (K_98 0 6).toInt = (K 0 6).toInt := by rw [eK_98]; rfl
        have n101 : (K_98 0 7).toInt = (K 0 7).toInt := by rw [eK_98]; rfl
        have n102 : (K_98 0 2).toInt = (K 0 7).toInt := by rw [eK_98]; rfl
        refine D_bd (t_X5_at K_98 (K_98 0 7) hK_98) (fun r103 eq105 hq104 => ?_)
        obtain ⟨p106, p107⟩ : ((-1) ≤ r103.toInt ∧ r103.toInt ≤ 255) ∧ (0 ≤ r103.toInt → 0 ≤ (K_98 0 7).toInt ∧ (K_98 0 7).toInt < (K_98 0 6).toInt) := hq104
        refine D_ite (fun c108 => ?_) (fun c108 => ?_)
        · have kc108 := tq_le (x := (0 : Int32)) (y := r103) (a := 0) (by decide) rfl c108
          refine D_bd (t_X5_isLetter r103 ) (fun r109 eq111 hq110 => ?_)
          have p112 : 0 ≤ r109.toInt ∧ r109.toInt ≤ 1 := hq110
          refine D_ite (fun c113 => ?_) (fun c113 => ?_)
          · have kc113 := tq_eq (x := r109) (y := (0 : Int32)) rfl (b := 0) (by decide) c113
            refine D_bd (t_X5_isDigit r103 ) (fun r114 eq116 hq115 => ?_)
            obtain ⟨p117, p118⟩ : (0 ≤ r114.toInt ∧ r114.toInt ≤ 1) ∧ (r114.toInt = 1 → 48 ≤ r103.toInt ∧ r103.toInt ≤ 57) := hq115
            refine D_ite (fun c119 => ?_) (fun c119 => ?_)
            · have kc119 := tq_eq (x := r114) (y := (0 : Int32)) rfl (b := 0) (by decide) c119
              have n121 : ((K_98 0 7) + 1).toInt = (K_98 0 7).toInt + 1 := i_addK rfl (by decide) (by clear hN0 hN p96 kc97 p112 kc113; omega) (by clear hN0 hN p96 kc97 p112 kc113; omega)
              refine D_lt (fun K_120 eK_120 => ?_)
              have hK_120 : iR BK K_120 := by rw [eK_120]; exact iR_set hK_98 (show (0 : Int) ≤ _ from (by clear hN0 hN p96 kc97 p112 kc113; omega)) (show _ ≤ (702 : Int) from (by clear hN0 hN p96 kc97 p112 kc113; omega))
              have n123 : (K_120 0 2).toInt = (K_98 0 2).toInt := by rw [eK_120]; rfl
              have n124 : (K_120 0 6).toInt = (K_98 0 6).toInt := by rw [eK_120]; rfl
              have n125 : (K_120 0 7).toInt = ((K_98 0 7) + 1).toInt := by rw [eK_120]; rfl
              refine D_bd (t_X5_at K_120 (K_120 0 7) hK_120) (fun r126 eq128 hq127 => ?_)
              obtain ⟨p129, p130⟩ : ((-1) ≤ r126.toInt ∧ r126.toInt ≤ 255) ∧ (0 ≤ r126.toInt → 0 ≤ (K_120 0 7).toInt ∧ (K_120 0 7).toInt < (K_120 0 6).toInt) := hq127
              refine D_bd (t_X5_sign r103 r126 ) (fun r131 eq133 hq132 => ?_)
              obtain ⟨p134, p135⟩ : (29 ≤ r131.toInt ∧ r131.toInt ≤ 44) ∧ (r131.toInt ≠ 42) := hq132
              refine D_lt (fun K_136 eK_136 => ?_)
              have hK_136 : iR BK K_136 := by rw [eK_136]; exact iR_set hK_120 (show (0 : Int) ≤ _ from (by clear hN0 hN n2 n3 kc1 p91 p92 p96 kc97 n100 n101 n102 p106 p107 kc108 p112 kc113 p117 p118 kc119 n121 n123 n124 n125 p129 p130; omega)) (show _ ≤ (45 : Int) from (by clear hN0 hN n2 n3 kc1 p91 p92 p96 kc97 n100 n101 n102 p106 p107 kc108 p112 kc113 p117 p118 kc119 n121 n123 n124 n125 p129 p130; omega))
              have knK_t137 : nK K_136 := (by rw [eK_136]; intro hz; exact absurd (tq_eq (b := 42) rfl (by decide) (show r131 = 42 from hz)) (by omega))
              have n138 : (K_136 0 6).toInt = (K_120 0 6).toInt := by rw [eK_136]; rfl
              have n139 : (K_136 0 2).toInt = (K_120 0 2).toInt := by rw [eK_136]; rfl
              have n140 : (K_136 0 7).toInt = (K_120 0 7).toInt := by rw [eK_136]; rfl
              have n141 : (K_136 0 1).toInt = r131.toInt := by rw [eK_136]; rfl
              refine D_ite (fun c142 => ?_) (fun c142 => ?_)
              · have kc142 := tq_eq (x := (K_136 0 1)) (y := (30 : Int32)) rfl (b := 30) (by decide) c142
                unfold fJ_X5_advance_J149
                have n144 : ((K_136 0 7) + 1).toInt = (K_136 0 7).toInt + 1 := i_addK rfl (by decide) (by clear hN0 hN p96 kc97 p112 kc113 p134 p135 n141 kc142; omega) (by clear hN0 hN p96 kc97 p112 kc113 p134 p135 n141 kc142; omega)
                refine D_lt (fun K_143 eK_143 => ?_)
                have hK_143 : iR BK K_143 := by rw [eK_143]; exact iR_set hK_136 (show (0 : Int) ≤ _ from (by clear hN0 hN p96 kc97 p112 kc113 p134 p135 n141 kc142; omega)) (show _ ≤ (702 : Int) from (by clear hN0 hN p96 kc97 p112 kc113 p134 p135 n141 kc142; omega))
                have knK_t145 : nK K_143 := by rw [eK_143]; exact knK_t137
                have n146 : (K_143 0 1).toInt = (K_136 0 1).toInt := by rw [eK_143]; rfl
                have n147 : (K_143 0 2).toInt = (K_136 0 2).toInt := by rw [eK_143]; rfl
                have n148 : (K_143 0 6).toInt = (K_136 0 6).toInt := by rw [eK_143]; rfl
                have n149 : (K_143 0 7).toInt = ((K_136 0 7) + 1).toInt := by rw [eK_143]; rfl
                exact D_some (show (iR BK K_143) ∧ (nK K_143) from ⟨hK_143, knK_t145⟩)
              · skip
                refine D_ite (fun c150 => ?_) (fun c150 => ?_)
                · have kc150 := tq_eq (x := (K_136 0 1)) (y := (32 : Int32)) rfl (b := 32) (by decide) c150
                  unfold fJ_X5_advance_J149
                  have n152 : ((K_136 0 7) + 1).toInt = (K_136 0 7).toInt + 1 := i_addK rfl (by decide) (by clear hN0 hN p96 kc97 p112 kc113 p134 p135 n141 kc150; omega) (by clear hN0 hN p96 kc97 p112 kc113 p134 p135 n141 kc150; omega)
                  refine D_lt (fun K_151 eK_151 => ?_)
                  have hK_151 : iR BK K_151 := by rw [eK_151]; exact iR_set hK_136 (show (0 : Int) ≤ _ from (by clear hN0 hN p96 kc97 p112 kc113 p134 p135 n141 kc150; omega)) (show _ ≤ (702 : Int) from (by clear hN0 hN p96 kc97 p112 kc113 p134 p135 n141 kc150; omega))
                  have knK_t153 : nK K_151 := by rw [eK_151]; exact knK_t137
                  have n154 : (K_151 0 1).toInt = (K_136 0 1).toInt := by rw [eK_151]; rfl
                  have n155 : (K_151 0 2).toInt = (K_136 0 2).toInt := by rw [eK_151]; rfl
                  have n156 : (K_151 0 6).toInt = (K_136 0 6).toInt := by rw [eK_151]; rfl
                  have n157 : (K_151 0 7).toInt = ((K_136 0 7) + 1).toInt := by rw [eK_151]; rfl
                  exact D_some (show (iR BK K_151) ∧ (nK K_151) from ⟨hK_151, knK_t153⟩)
                · skip
                  refine D_ite (fun c158 => ?_) (fun c158 => ?_)
                  · have kc158 := tq_eq (x := (K_136 0 1)) (y := (33 : Int32)) rfl (b := 33) (by decide) c158
                    unfold fJ_X5_advance_J149
                    have n160 : ((K_136 0 7) + 1).toInt = (K_136 0 7).toInt + 1 := i_addK rfl (by decide) (by clear hN0 hN p96 kc97 p112 kc113 p134 p135 n141 kc158; omega) (by clear hN0 hN p96 kc97 p112 kc113 p134 p135 n141 kc158; omega)
                    refine D_lt (fun K_159 eK_159 => ?_)
                    have hK_159 : iR BK K_159 := by rw [eK_159]; exact iR_set hK_136 (show (0 : Int) ≤ _ from (by clear hN0 hN p96 kc97 p112 kc113 p134 p135 n141 kc158; omega)) (show _ ≤ (702 : Int) from (by clear hN0 hN p96 kc97 p112 kc113 p134 p135 n141 kc158; omega))
                    have knK_t161 : nK K_159 := by rw [eK_159]; exact knK_t137
                    have n162 : (K_159 0 1).toInt = (K_136 0 1).toInt := by rw [eK_159]; rfl
                    have n163 : (K_159 0 2).toInt = (K_136 0 2).toInt := by rw [eK_159]; rfl
                    have n164 : (K_159 0 6).toInt = (K_136 0 6).toInt := by rw [eK_159]; rfl
                    have n165 : (K_159 0 7).toInt = ((K_136 0 7) + 1).toInt := by rw [eK_159]; rfl
                    exact D_some (show (iR BK K_159) ∧ (nK K_159) from ⟨hK_159, knK_t161⟩)
                  · skip
                    exact D_some (show (iR BK K_136) ∧ (nK K_136) from ⟨hK_136, knK_t137⟩)
            · have kc1190 := tq_eqn (x := r114) (y := (0 : Int32)) rfl (b := 0) (by decide) c119
              have kc119 : 1 ≤ r114.toInt := (by clear hN0 hN p96 kc97 p112 kc113; omega)
              clear kc1190
              refine D_bd (t_X5_readNumber K_98 hK_98) (fun K_166 eq168 hq167 => ?_)
              obtain ⟨p169, p170⟩ : (iR BK K_166) ∧ (nK K_166) := hq167
              exact D_some (show (iR BK K_166) ∧ (nK K_166) from ⟨p169, p170⟩)
          · have kc1130 := tq_eqn (x := r109) (y := (0 : Int32)) rfl (b := 0) (by decide) c113
            have kc113 : 1 ≤ r109.toInt := (by clear hN0 hN n2 n3 kc1 p91 p92 p96 kc97 n100 n101 n102 p106 p107 kc108; omega)
            clear kc1130
            refine D_bd (t_X5_readWord K_98 hK_98) (fun K_171 eq173 hq172 => ?_)
            obtain ⟨p174, p175⟩ : (iR BK K_171) ∧ (nK K_171) := hq172
            exact D_some (show (iR BK K_171) ∧ (nK K_171) from ⟨p174, p175⟩)
        · have kc108 := tq_len (x := (0 : Int32)) (y := r103) (a := 0) (by decide) rfl c108
          have l45 : (45 : Int32).toInt = 45 := by decide
          refine D_lt (fun K_176 eK_176 => ?_)
          have hK_176 : iR BK K_176 := by rw [eK_176]; exact iR_set hK_98 (show (0 : Int) ≤ _ from (by clear hN0 hN n2 n3 kc1 p91 p92 p96 kc97 n100 n101 n102 p106 p107 kc108; omega)) (show _ ≤ (45 : Int) from (by clear hN0 hN n2 n3 kc1 p91 p92 p96 kc97 n100 n101 n102 p106 p107 kc108; omega))
          have knK_t177 : nK K_176 := (by rw [eK_176]; exact nK_lit (by decide))
          have n178 : (K_176 0 2).toInt = (K_98 0 2).toInt := by rw [eK_176]; rfl
          have n179 : (K_176 0 7).toInt = (K_98 0 7).toInt := by rw [eK_176]; rfl
          have n180 : (K_176 0 6).toInt = (K_98 0 6).toInt := by rw [eK_176]; rfl
          have n181 : (K_176 0 1).toInt = (45 : Int32).toInt := by rw [eK_176]; rfl
          exact D_some (show (iR BK K_176) ∧ (nK K_176) from ⟨hK_176, knK_t177⟩)
      · have kc970 := tq_eqn (x := r93) (y := (0 : Int32)) rfl (b := 0) (by decide) c97
        have kc97 : 1 ≤ r93.toInt := (by clear hN0 hN n2 n3 kc1 p91 p92; omega)
        clear kc970
        have n183 : ((K 0 7) + 1).toInt = (K 0 7).toInt + 1 := i_addK rfl (by decide) (by clear hN0 hN p96 kc97; omega) (by clear hN0 hN p96 kc97; omega)
        refine D_lt (fun K_182 eK_182 => ?_)
        have hK_182 : iR BK K_182 := by rw [eK_182]; exact iR_set hK (show (0 : Int) ≤ _ from (by clear hN0 hN p96 kc97; omega)) (show _ ≤ (702 : Int) from (by clear hN0 hN p96 kc97; omega))
        have n185 : (K_182 0 6).toInt = (K 0 6).toInt := by rw [eK_182]; rfl
        have n186 : (K_182 0 7).toInt = ((K 0 7) + 1).toInt := by rw [eK_182]; rfl
        exact hk0 K_182 hK_182 (by omega)
set_option maxHeartbeats 1000000 in
set_option maxRecDepth 100000 in
theorem t_X5_advance (K : Tr) (hK : iR BK K) : D (f_X5_advance K) (fun (q : Tr) => (iR BK q) ∧ (nK q)) := by
  unfold f_X5_advance
  have n188 : 0 ≤ (K 0 7).toInt ∧ (K 0 7).toInt ≤ 702 := hK 0 7
  exact tl_X5_advance_L0     2000 K hK (by omega)
set_option maxHeartbeats 1000000 in
set_option maxRecDepth 100000 in
theorem t_X5_begin (K : Tr) (x1 : Int32) (hK : iR BK K) (hx1 : 0 ≤ x1.toInt ∧ x1.toInt ≤ 700) : D (f_X5_begin K x1) (fun (q : Tr) => (iR BK q) ∧ (nK q)) := by
  unfold f_X5_begin
  refine D_lt (fun K_1 eK_1 => ?_)
  have hK_1 : iR BK K_1 := by rw [eK_1]; exact iR_set hK (show (0 : Int) ≤ _ from (by omega)) (show _ ≤ (700 : Int) from (by omega))
  have n3 : (K_1 0 6).toInt = x1.toInt := by rw [eK_1]; rfl
  have l0 : (0 : Int32).toInt = 0 := by decide
  refine D_lt (fun K_4 eK_4 => ?_)
  have hK_4 : iR BK K_4 := by rw [eK_4]; exact iR_set hK_1 (show (0 : Int) ≤ _ from (by omega)) (show _ ≤ (702 : Int) from (by omega))
  have n6 : (K_4 0 6).toInt = (K_1 0 6).toInt := by rw [eK_4]; rfl
  have n7 : (K_4 0 7).toInt = (0 : Int32).toInt := by rw [eK_4]; rfl
  refine D_bd (t_X5_advance K_4 hK_4) (fun K_8 eq10 hq9 => ?_)
  obtain ⟨p11, p12⟩ : (iR BK K_8) ∧ (nK K_8) := hq9
  exact D_some (show (iR BK K_8) ∧ (nK K_8) from ⟨p11, p12⟩)
set_option maxHeartbeats 1000000 in
set_option maxRecDepth 100000 in
theorem t_X3_expect (K : Tr) (R : Tr) (x1 : Int32) (x2 : Int32) (hK : iR BK K) (hR : iR BR R) (hx1 : 0 ≤ x1.toInt ∧ x1.toInt ≤ 1) : D (f_X3_expect K R x1 x2) (fun (q : Int32 × Tr) => (0 ≤ (q.1).toInt ∧ (q.1).toInt ≤ 1) ∧ (iR BR (q.2)) ∧ ((q.2) 0 8 = (R 0 8)) ∧ ((q.2) 0 9 = (R 0 9)) ∧ ((q.1).toInt = x1.toInt) ∧ ((q.2) 8 = R 8)) := by
  unfold f_X3_expect
  refine D_ite (fun c1 => ?_) (fun c1 => ?_)
  · have kc1 := tq_eq (x := x1) (y := (0 : Int32)) rfl (b := 0) (by decide) c1
    refine D_lt (fun R_2 eR_2 => ?_)
    have hR_2 : iR BR R_2 := by rw [eR_2]; exact iR_setU hR rfl
    have kR_0_8_t3 : R_2 0 8 = (R 0 8) := by rw [eR_2]; exact rfl
    have kR_0_9_t4 : R_2 0 9 = (R 0 9) := by rw [eR_2]; exact rfl
    have n5 := i_rng x2
    have n6 : (R_2 0 1).toInt = x2.toInt := by rw [eR_2]; rfl
    refine D_lt (fun R_7 eR_7 => ?_)
    have hR_7 : iR BR R_7 := by rw [eR_7]; exact iR_setU hR_2 rfl
    have kR_0_8_t8 : R_7 0 8 = (R 0 8) := by rw [eR_7]; exact kR_0_8_t3
    have kR_0_9_t9 : R_7 0 9 = (R 0 9) := by rw [eR_7]; exact kR_0_9_t4
    have n10 : (R_7 0 1).toInt = (R_2 0 1).toInt := by rw [eR_7]; rfl
    have n11 := i_rng (K 0 2)
    have n12 : (R_7 0 2).toInt = (K 0 2).toInt := by rw [eR_7]; rfl
    refine D_ck (okB_01 (by clear n5 n6 n10 n11 n12; omega)) ?_
    exact D_some (show (0 ≤ x1.toInt ∧ x1.toInt ≤ 1) ∧ (iR BR R_7) ∧ (R_7 0 8 = (R 0 8)) ∧ (R_7 0 9 = (R 0 9)) ∧ (x1.toInt = x1.toInt) ∧ (R_7 8 = R 8) from ⟨⟨(by clear n5 n6 n10 n11 n12; omega), (by clear n5 n6 n10 n11 n12; omega)⟩, hR_7, kR_0_8_t8, kR_0_9_t9, (by clear n5 n6 n10 n11 n12; omega), (by rw [eR_7, eR_2]; first | rfl | assumption)⟩)
  · have kc10 := tq_eqn (x := x1) (y := (0 : Int32)) rfl (b := 0) (by decide) c1
    have kc1 : 1 ≤ x1.toInt := (by omega)
    clear kc10
    refine D_ck (okB_01 (by omega)) ?_
    exact D_some (show (0 ≤ x1.toInt ∧ x1.toInt ≤ 1) ∧ (iR BR R) ∧ (R 0 8 = (R 0 8)) ∧ (R 0 9 = (R 0 9)) ∧ (x1.toInt = x1.toInt) ∧ (R 8 = R 8) from ⟨⟨(by omega), (by omega)⟩, hR, rfl, rfl, (by omega), rfl⟩)
set_option maxHeartbeats 1000000 in
set_option maxRecDepth 100000 in
theorem t_X3_openSign (R : Tr) (x1 : Int32) (hR : iR BR R) (hx1 : 0 ≤ x1.toInt ∧ x1.toInt ≤ 39) (hlt : (R 0 8).toInt ≤ 71) : D (f_X3_openSign R x1) (fun (q : Int32 × Tr) => (1 ≤ (q.1).toInt ∧ (q.1).toInt ≤ 1) ∧ (iR BR (q.2)) ∧ ((q.2) 0 9 = (R 0 9)) ∧ ((q.2) 8 = upd (R 8) (R 0 8).toNatClampNeg x1) ∧ (((q.2) 0 8).toInt = (R 0 8).toInt + 1)) := by
  unfold f_X3_openSign
  have n1 : 0 ≤ (R 0 8).toInt ∧ (R 0 8).toInt ≤ 72 := hR 0 8
  refine D_ite (fun c2 => ?_) (fun c2 => ?_)
  · have kc2 := tq_le (x := (72 : Int32)) (y := (R 0 8)) (a := 72) (by decide) rfl c2
    exfalso
    exact (by omega)
  · have kc2 := tq_len (x := (72 : Int32)) (y := (R 0 8)) (a := 72) (by decide) rfl c2
    refine D_ck (okI_of (by omega) (by omega)) ?_
    refine D_lt (fun R_3 eR_3 => ?_)
    have hR_3 : iR BR R_3 := by rw [eR_3]; exact iR_set hR (show (0 : Int) ≤ _ from (by clear hlt n1 kc2; omega)) (show _ ≤ (39 : Int) from (by clear hlt n1 kc2; omega))
    have kR_0_9_t4 : R_3 0 9 = (R 0 9) := by rw [eR_3]; exact rfl
    have n5 : (R_3 0 8).toInt = (R 0 8).toInt := by rw [eR_3]; rfl
    have n7 : ((R_3 0 8) + 1).toInt = (R_3 0 8).toInt + 1 := i_addK rfl (by decide) (by omega) (by omega)
    refine D_lt (fun R_6 eR_6 => ?_)
    have hR_6 : iR BR R_6 := by rw [eR_6]; exact iR_set hR_3 (show (0 : Int) ≤ _ from (by omega)) (show _ ≤ (72 : Int) from (by omega))
    have kR_0_9_t8 : R_6 0 9 = (R 0 9) := by rw [eR_6]; exact kR_0_9_t4
    have n9 : (R_6 0 8).toInt = ((R_3 0 8) + 1).toInt := by rw [eR_6]; rfl
    have l1 : (1 : Int32).toInt = 1 := by decide
    exact D_some (show (1 ≤ (1 : Int32).toInt ∧ (1 : Int32).toInt ≤ 1) ∧ (iR BR R_6) ∧ (R_6 0 9 = (R 0 9)) ∧ (R_6 8 = upd (R 8) (R 0 8).toNatClampNeg x1) ∧ ((R_6 0 8).toInt = (R 0 8).toInt + 1) from ⟨⟨(by clear hx1 hlt n1 kc2 n5 n7 n9; omega), (by clear hx1 hlt n1 kc2 n5 n7 n9; omega)⟩, hR_6, kR_0_9_t8, (by rw [eR_6, eR_3]; rfl), (by omega)⟩)
set_option maxHeartbeats 1000000 in
set_option maxRecDepth 100000 in
theorem t_X3_openBracket (R : Tr) (hR : iR BR R) (dgO : gO R) (hlt : (R 0 8).toInt ≤ 71) (hb : (R 0 9).toInt ≤ 7) : D (f_X3_openBracket R) (fun (q : Int32 × Tr) => (1 ≤ (q.1).toInt ∧ (q.1).toInt ≤ 1) ∧ (iR BR (q.2)) ∧ (gO (q.2)) ∧ (((q.2) 0 8).toInt = (R 0 8).toInt + 1) ∧ (((q.2) 0 9).toInt = (R 0 9).toInt + 1)) := by
  unfold f_X3_openBracket
  have n2 : 0 ≤ (R 0 9).toInt ∧ (R 0 9).toInt ≤ 8 := hR 0 9
  have n3 : ((R 0 9) + 1).toInt = (R 0 9).toInt + 1 := i_addK rfl (by decide) (by omega) (by omega)
  have n4 : 0 ≤ (R 0 8).toInt ∧ (R 0 8).toInt ≤ 72 := hR 0 8
  refine D_lt (fun R_1 eR_1 => ?_)
  have hR_1 : iR BR R_1 := by rw [eR_1]; exact iR_set hR (show (0 : Int) ≤ _ from (by omega)) (show _ ≤ (8 : Int) from (by omega))
  have n6 : (R_1 0 8).toInt = (R 0 8).toInt := by rw [eR_1]; rfl
  have n7 : (R_1 0 9).toInt = ((R 0 9) + 1).toInt := by rw [eR_1]; rfl
  have l39 : (39 : Int32).toInt = 39 := by decide
  refine D_bd2 (t_X3_openSign R_1 (39 : Int32) hR_1 ⟨(by clear hlt hb n2 n3 n4 n6 n7; omega), (by clear hlt hb n2 n3 n4 n6 n7; omega)⟩ (by first | assumption | exact (by clear hb n2 n3 n7; omega))) (fun r8 R_9 eq11 hq10 => ?_)
  refine D_lte (y := r8) rfl ?_
  refine D_lte (y := R_9) rfl ?_
  obtain ⟨p12, p13, p14, p15, p16⟩ : (1 ≤ r8.toInt ∧ r8.toInt ≤ 1) ∧ (iR BR R_9) ∧ (R_9 0 9 = (R_1 0 9)) ∧ (R_9 8 = upd (R_1 8) (R_1 0 8).toNatClampNeg (39 : Int32)) ∧ ((R_9 0 8).toInt = (R_1 0 8).toInt + 1) := hq10
  have kgO_t17 : gO R_9 := (gO_push (x := 39) (b := 0) (R := R) dgO (by omega) (by rw [p15, eR_1]; rfl) (by omega) (by rw [p14, eR_1]; show ((R 0 9) + 1).toInt = (R 0 9).toInt + 1; omega) (fun _ => rfl))
  refine D_ck (okB_01 (by clear hlt hb n2 n3 n4 n6 n7 p16; omega)) ?_
  exact D_some (show (1 ≤ r8.toInt ∧ r8.toInt ≤ 1) ∧ (iR BR R_9) ∧ (gO R_9) ∧ ((R_9 0 8).toInt = (R 0 8).toInt + 1) ∧ ((R_9 0 9).toInt = (R 0 9).toInt + 1) from ⟨⟨(by clear hlt hb n2 n3 n4 n6 n7 p16; omega), (by clear hlt hb n2 n3 n4 n6 n7 p16; omega)⟩, p13, kgO_t17, (by clear hb n2 n3 n7 p12; omega), (by rw [p14]; omega)⟩)
set_option maxHeartbeats 1000000 in
set_option maxRecDepth 100000 in
theorem t_X3_latestBinds (R : Tr) (hR : iR BR R) : D (f_X3_latestBinds R) (fun (q : Int32) => ((-1) ≤ q.toInt ∧ q.toInt ≤ 6) ∧ ((R 0 8).toInt = 0 ∨ q.toInt = (bindsF (R 8 ((R 0 8) - 1).toNatClampNeg).toNatClampNeg).toInt)) := by
  unfold f_X3_latestBinds
  have n2 : 0 ≤ (R 0 8).toInt ∧ (R 0 8).toInt ≤ 72 := hR 0 8
  refine D_ite (fun c1 => ?_) (fun c1 => ?_)
  · have kc1 := tq_eq (x := (R 0 8)) (y := (0 : Int32)) rfl (b := 0) (by decide) c1
    have lm1 : ((-1) : Int32).toInt = (-1) := by decide
    exact D_some (show ((-1) ≤ ((-1) : Int32).toInt ∧ ((-1) : Int32).toInt ≤ 6) ∧ ((R 0 8).toInt = 0 ∨ ((-1) : Int32).toInt = (bindsF (R 8 ((R 0 8) - 1).toNatClampNeg).toNatClampNeg).toInt) from ⟨⟨(by omega), (by omega)⟩, (Or.inl (by omega))⟩)
  · have kc10 := tq_eqn (x := (R 0 8)) (y := (0 : Int32)) rfl (b := 0) (by decide) c1
    have kc1 : 1 ≤ (R 0 8).toInt := (by omega)
    clear kc10
    have n3 : ((R 0 8) - 1).toInt = (R 0 8).toInt - 1 := i_subK rfl (by decide) (by omega) (by omega)
    refine D_ck (okI_of (by omega) (by omega)) ?_
    have n4 : 0 ≤ (R 8 ((R 0 8) - 1).toNatClampNeg).toInt ∧ (R 8 ((R 0 8) - 1).toNatClampNeg).toInt ≤ 39 := hR 8 (((R 0 8) - 1).toNatClampNeg)
    refine D_ck (okI_of (by clear n2 kc1 n3; omega) (by clear n2 kc1 n3; omega)) ?_
    have n5 : 0 ≤ (bindsF (R 8 ((R 0 8) - 1).toNatClampNeg).toNatClampNeg).toInt ∧ (bindsF (R 8 ((R 0 8) - 1).toNatClampNeg).toNatClampNeg).toInt ≤ 6 := bindsF_rng ((R 8 ((R 0 8) - 1).toNatClampNeg).toNatClampNeg)
    exact D_some (show ((-1) ≤ (bindsF (R 8 ((R 0 8) - 1).toNatClampNeg).toNatClampNeg).toInt ∧ (bindsF (R 8 ((R 0 8) - 1).toNatClampNeg).toNatClampNeg).toInt ≤ 6) ∧ ((R 0 8).toInt = 0 ∨ (bindsF (R 8 ((R 0 8) - 1).toNatClampNeg).toNatClampNeg).toInt = (bindsF (R 8 ((R 0 8) - 1).toNatClampNeg).toNatClampNeg).toInt) from ⟨⟨(by clear n2 kc1 n3 n4; omega), (by clear n2 kc1 n3 n4; omega)⟩, (Or.inr rfl)⟩)
set_option maxHeartbeats 1000000 in
set_option maxRecDepth 100000 in
theorem t_X3_countKnot (K : Tr) (R : Tr) (P : Tr) (hK : iR BK K) (hR : iR BR R) (hP : iR BP P) : D (f_X3_countKnot K R P) (fun (q : Int32 × Tr × Tr) => (0 ≤ (q.1).toInt ∧ (q.1).toInt ≤ 1) ∧ (iR BR (q.2.1)) ∧ (iR BP (q.2.2)) ∧ ((q.2.1) 0 8 = (R 0 8)) ∧ ((q.2.1) 0 9 = (R 0 9)) ∧ ((q.2.1) 8 = R 8) ∧ (((q.2.2) 0 3).toInt = (P 0 3).toInt + (q.1).toInt)) := by
  unfold f_X3_countKnot
  have n2 : 0 ≤ (P 0 3).toInt ∧ (P 0 3).toInt ≤ 64 := hP 0 3
  refine D_ite (fun c1 => ?_) (fun c1 => ?_)
  · have kc1 := tq_le (x := (64 : Int32)) (y := (P 0 3)) (a := 64) (by decide) rfl c1
    unfold fJ_X3_countKnot_J18
    have l0 : (0 : Int32).toInt = 0 := by decide
    have l2 : (2 : Int32).toInt = 2 := by decide
    refine D_bd2 (t_X3_expect K R (0 : Int32) (2 : Int32) hK hR ⟨(by omega), (by omega)⟩) (fun r3 R_4 eq6 hq5 => ?_)
    refine D_lte (y := r3) rfl ?_
    refine D_lte (y := R_4) rfl ?_
    obtain ⟨p7, p8, p9, p10, p11, p12⟩ : (0 ≤ r3.toInt ∧ r3.toInt ≤ 1) ∧ (iR BR R_4) ∧ (R_4 0 8 = (R 0 8)) ∧ (R_4 0 9 = (R 0 9)) ∧ (r3.toInt = (0 : Int32).toInt) ∧ (R_4 8 = R 8) := hq5
    have k13 : R_4 0 8 = (R 0 8) := p9
    have k14 : R_4 0 9 = (R 0 9) := p10
    refine D_ite (fun c15 => ?_) (fun c15 => ?_)
    · have kc15 := tq_eq (x := r3) (y := (0 : Int32)) rfl (b := 0) (by decide) c15
      exact D_some (show (0 ≤ (0 : Int32).toInt ∧ (0 : Int32).toInt ≤ 1) ∧ (iR BR R_4) ∧ (iR BP P) ∧ (R_4 0 8 = (R 0 8)) ∧ (R_4 0 9 = (R 0 9)) ∧ (R_4 8 = R 8) ∧ ((P 0 3).toInt = (P 0 3).toInt + (0 : Int32).toInt) from ⟨⟨(by clear n2 kc1 p7 p11 kc15; omega), (by clear n2 kc1 p7 p11 kc15; omega)⟩, p8, hP, k13, k14, (by assumption), (by omega)⟩)
    · have kc150 := tq_eqn (x := r3) (y := (0 : Int32)) rfl (b := 0) (by decide) c15
      have kc15 : 1 ≤ r3.toInt := (by omega)
      clear kc150
      exfalso
      exact (by omega)
  · have kc1 := tq_len (x := (64 : Int32)) (y := (P 0 3)) (a := 64) (by decide) rfl c1
    unfold fJ_X3_countKnot_J18
    have l1 : (1 : Int32).toInt = 1 := by decide
    have l2 : (2 : Int32).toInt = 2 := by decide
    refine D_bd2 (t_X3_expect K R (1 : Int32) (2 : Int32) hK hR ⟨(by omega), (by omega)⟩) (fun r16 R_17 eq19 hq18 => ?_)
    refine D_lte (y := r16) rfl ?_
    refine D_lte (y := R_17) rfl ?_
    obtain ⟨p20, p21, p22, p23, p24, p25⟩ : (0 ≤ r16.toInt ∧ r16.toInt ≤ 1) ∧ (iR BR R_17) ∧ (R_17 0 8 = (R 0 8)) ∧ (R_17 0 9 = (R 0 9)) ∧ (r16.toInt = (1 : Int32).toInt) ∧ (R_17 8 = R 8) := hq18
    have k26 : R_17 0 8 = (R 0 8) := p22
    have k27 : R_17 0 9 = (R 0 9) := p23
    refine D_ite (fun c28 => ?_) (fun c28 => ?_)
    · have kc28 := tq_eq (x := r16) (y := (0 : Int32)) rfl (b := 0) (by decide) c28
      exfalso
      exact (by omega)
    · skip
      have n30 : ((P 0 3) + 1).toInt = (P 0 3).toInt + 1 := i_addK rfl (by decide) (by omega) (by omega)
      refine D_lt (fun P_29 eP_29 => ?_)
      have hP_29 : iR BP P_29 := by rw [eP_29]; exact iR_set hP (show (0 : Int) ≤ _ from (by omega)) (show _ ≤ (64 : Int) from (by omega))
      have n31 : (P_29 0 3).toInt = ((P 0 3) + 1).toInt := by rw [eP_29]; rfl
      exact D_some (show (0 ≤ (1 : Int32).toInt ∧ (1 : Int32).toInt ≤ 1) ∧ (iR BR R_17) ∧ (iR BP P_29) ∧ (R_17 0 8 = (R 0 8)) ∧ (R_17 0 9 = (R 0 9)) ∧ (R_17 8 = R 8) ∧ ((P_29 0 3).toInt = (P 0 3).toInt + (1 : Int32).toInt) from ⟨⟨(by clear n2 kc1 p20 p24 n30 n31; omega), (by clear n2 kc1 p20 p24 n30 n31; omega)⟩, p21, hP_29, k26, k27, (by assumption), (by omega)⟩)
set_option maxHeartbeats 1000000 in
set_option maxRecDepth 100000 in
theorem t_X1_append (j : Nat) (P : Tr) (x1 : Int32) (hP : iR BP P) (hj : j < 3) : D (f_X1_append j P x1) (fun (q : Tr) => (iR BP q) ∧ (q 0 3 = (P 0 3))) := by
  unfold f_X1_append
  have n2 : 0 ≤ (P (30 + 3 * j) 1).toInt ∧ (P (30 + 3 * j) 1).toInt ≤ 64 := BP_law hP hj
  refine D_ite (fun c1 => ?_) (fun c1 => ?_)
  · have kc1 := tq_le (x := (64 : Int32)) (y := (P (30 + 3 * j) 1)) (a := 64) (by decide) rfl c1
    exact D_some (show (iR BP P) ∧ (P 0 3 = (P 0 3)) from ⟨hP, rfl⟩)
  · have kc1 := tq_len (x := (64 : Int32)) (y := (P (30 + 3 * j) 1)) (a := 64) (by decide) rfl c1
    refine D_ck (okI_of (by omega) (by omega)) ?_
    refine D_lt (fun P_3 eP_3 => ?_)
    have hP_3 : iR BP P_3 := by rw [eP_3]; exact BP_knotset hP hj
    have kP_0_3_t4 : P_3 0 3 = (P 0 3) := by rw [eP_3, st_oth (by omega)]; first | done | exact rfl
    have n5 : (P_3 (30 + 3 * j) 1).toInt = (P (30 + 3 * j) 1).toInt := by rw [eP_3, st_oth (by omega)]
    have n7 : ((P_3 (30 + 3 * j) 1) + 1).toInt = (P_3 (30 + 3 * j) 1).toInt + 1 := i_addK rfl (by decide) (by omega) (by omega)
    refine D_lt (fun P_6 eP_6 => ?_)
    have hP_6 : iR BP P_6 := by rw [eP_6]; exact BP_lawset hP_3 hj (by omega) (by omega)
    have kP_0_3_t8 : P_6 0 3 = (P 0 3) := by rw [eP_6, st_oth (by omega)]; first | done | exact kP_0_3_t4
    exact D_some (show (iR BP P_6) ∧ (P_6 0 3 = (P 0 3)) from ⟨hP_6, kP_0_3_t8⟩)
set_option maxHeartbeats 1000000 in
set_option maxRecDepth 100000 in
theorem t_X3_put (j : Nat) (P : Tr) (x1 : Int32) (hP : iR BP P) (hj : j < 3) : D (f_X3_put j P x1) (fun (q : Int32 × Tr) => (0 ≤ (q.1).toInt ∧ (q.1).toInt ≤ 1) ∧ (iR BP (q.2)) ∧ ((q.2) 0 3 = (P 0 3))) := by
  unfold f_X3_put
  have n1 := i_rng x1
  refine D_bd (t_X1_append j P x1 hP hj) (fun P_2 eq4 hq3 => ?_)
  obtain ⟨p5, p6⟩ : (iR BP P_2) ∧ (P_2 0 3 = (P 0 3)) := hq3
  have k7 : P_2 0 3 = (P 0 3) := p6
  have l1 : (1 : Int32).toInt = 1 := by decide
  exact D_some (show (0 ≤ (1 : Int32).toInt ∧ (1 : Int32).toInt ≤ 1) ∧ (iR BP P_2) ∧ (P_2 0 3 = (P 0 3)) from ⟨⟨(by omega), (by omega)⟩, p5, k7⟩)
set_option maxHeartbeats 1000000 in
set_option maxRecDepth 100000 in
theorem t_X3_isFact (x0 : Int32)  : D (f_X3_isFact x0) (fun (q : Int32) => (0 ≤ q.toInt ∧ q.toInt ≤ 1)) := by
  unfold f_X3_isFact
  have n2 := i_rng x0
  refine D_ite (fun c1 => ?_) (fun c1 => ?_)
  · have kc1 := tq_lt (x := x0) (y := (22 : Int32)) rfl (b := 22) (by decide) c1
    have l0 : (0 : Int32).toInt = 0 := by decide
    exact D_some (show (0 ≤ (0 : Int32).toInt ∧ (0 : Int32).toInt ≤ 1) from ⟨(by omega), (by omega)⟩)
  · have kc1 := tq_ltn (x := x0) (y := (22 : Int32)) rfl (b := 22) (by decide) c1
    refine D_ite (fun c3 => ?_) (fun c3 => ?_)
    · have kc3 := tq_lt (x := (28 : Int32)) (y := x0) (a := 28) (by decide) rfl c3
      have l0 : (0 : Int32).toInt = 0 := by decide
      exact D_some (show (0 ≤ (0 : Int32).toInt ∧ (0 : Int32).toInt ≤ 1) from ⟨(by clear n2 kc1 kc3; omega), (by clear n2 kc1 kc3; omega)⟩)
    · have kc3 := tq_ltn (x := (28 : Int32)) (y := x0) (a := 28) (by decide) rfl c3
      have l1 : (1 : Int32).toInt = 1 := by decide
      exact D_some (show (0 ≤ (1 : Int32).toInt ∧ (1 : Int32).toInt ≤ 1) from ⟨(by clear n2 kc1 kc3; omega), (by clear n2 kc1 kc3; omega)⟩)
set_option maxHeartbeats 1000000 in
set_option maxRecDepth 100000 in
theorem t_X3_readOperand (j : Nat) (K : Tr) (R : Tr) (P : Tr) (hK : iR BK K) (hR : iR BR R) (hP : iR BP P) (dnK : nK K) (dgO : gO R) (hj : j < 3) (hk : (R 0 8).toInt ≤ (R 0 9).toInt + (P 0 3).toInt) : D (f_X3_readOperand j K R P) (fun (q : Int32 × Tr × Tr) => (0 ≤ (q.1).toInt ∧ (q.1).toInt ≤ 1) ∧ (iR BR (q.2.1)) ∧ (iR BP (q.2.2)) ∧ (gO (q.2.1)) ∧ (((q.2.1) 0 8).toInt ≤ ((q.2.1) 0 9).toInt + ((q.2.2) 0 3).toInt)) := by
  unfold f_X3_readOperand
  have n1 : 0 ≤ (R 0 8).toInt ∧ (R 0 8).toInt ≤ 72 := hR 0 8
  have n2 : 0 ≤ (R 0 9).toInt ∧ (R 0 9).toInt ≤ 8 := hR 0 9
  have n3 : 0 ≤ (P 0 3).toInt ∧ (P 0 3).toInt ≤ 64 := hP 0 3
  refine D_lt (fun y4 ey4 => ?_)
  have n5 : 0 ≤ (K 0 1).toInt ∧ (K 0 1).toInt ≤ 45 := hK 0 1
  have hy4 : y4.toInt = (K 0 1).toInt := by rw [ey4]
  refine D_ite (fun c6 => ?_) (fun c6 => ?_)
  · have kc6 := tq_eq (x := y4) (y := (39 : Int32)) rfl (b := 39) (by decide) c6
    refine D_ite (fun c7 => ?_) (fun c7 => ?_)
    · have kc7 := tq_le (x := (8 : Int32)) (y := (R 0 9)) (a := 8) (by decide) rfl c7
      unfold fJ_X3_readOperand_J29
      have l0 : (0 : Int32).toInt = 0 := by decide
      have l2 : (2 : Int32).toInt = 2 := by decide
      refine D_bd2 (t_X3_expect K R (0 : Int32) (2 : Int32) hK hR ⟨(by clear hk n1 n2 n3 n5 hy4 kc6 kc7; omega), (by clear hk n1 n2 n3 n5 hy4 kc6 kc7; omega)⟩) (fun r8 R_9 eq11 hq10 => ?_)
      refine D_lte (y := r8) rfl ?_
      refine D_lte (y := R_9) rfl ?_
      obtain ⟨p12, p13, p14, p15, p16, p17⟩ : (0 ≤ r8.toInt ∧ r8.toInt ≤ 1) ∧ (iR BR R_9) ∧ (R_9 0 8 = (R 0 8)) ∧ (R_9 0 9 = (R 0 9)) ∧ (r8.toInt = (0 : Int32).toInt) ∧ (R_9 8 = R 8) := hq10
      have kgO_t18 : gO R_9 := (gO_congr dgO p17 p14 p15)
      have n19 : 0 ≤ (R_9 0 8).toInt ∧ (R_9 0 8).toInt ≤ 72 := p13 0 8
      have kz20 : (R_9 0 8).toInt = (R 0 8).toInt := congrArg Int32.toInt p14
      have n21 : 0 ≤ (R_9 0 9).toInt ∧ (R_9 0 9).toInt ≤ 8 := p13 0 9
      have kz22 : (R_9 0 9).toInt = (R 0 9).toInt := congrArg Int32.toInt p15
      refine D_ite (fun c23 => ?_) (fun c23 => ?_)
      · have kc23 := tq_eq (x := r8) (y := (0 : Int32)) rfl (b := 0) (by decide) c23
        exact D_some (show (0 ≤ (0 : Int32).toInt ∧ (0 : Int32).toInt ≤ 1) ∧ (iR BR R_9) ∧ (iR BP P) ∧ (gO R_9) ∧ ((R_9 0 8).toInt ≤ (R_9 0 9).toInt + (P 0 3).toInt) from ⟨⟨(by clear hk n1 n2 n3 n5 hy4 kc6 kc7 p12 p16 n19 kz20 n21 kz22 kc23; omega), (by clear hk n1 n2 n3 n5 hy4 kc6 kc7 p12 p16 n19 kz20 n21 kz22 kc23; omega)⟩, p13, hP, kgO_t18, (by clear n5 hy4 kc6 p12 p16 kc23; omega)⟩)
      · have kc230 := tq_eqn (x := r8) (y := (0 : Int32)) rfl (b := 0) (by decide) c23
        have kc23 : 1 ≤ r8.toInt := (by clear hk n1 n2 n3 n5 hy4 kc6 kc7 n19 kz20 n21 kz22; omega)
        clear kc230
        exfalso
        exact (by clear hk n1 n2 n3 n5 hy4 kc6 kc7 n19 kz20 n21 kz22; omega)
    · have kc7 := tq_len (x := (8 : Int32)) (y := (R 0 9)) (a := 8) (by decide) rfl c7
      unfold fJ_X3_readOperand_J29
      have l1 : (1 : Int32).toInt = 1 := by decide
      have l2 : (2 : Int32).toInt = 2 := by decide
      refine D_bd2 (t_X3_expect K R (1 : Int32) (2 : Int32) hK hR ⟨(by clear hk n1 n2 n3 n5 hy4 kc6 kc7; omega), (by clear hk n1 n2 n3 n5 hy4 kc6 kc7; omega)⟩) (fun r24 R_25 eq27 hq26 => ?_)
      refine D_lte (y := r24) rfl ?_
      refine D_lte (y := R_25) rfl ?_
      obtain ⟨p28, p29, p30, p31, p32, p33⟩ : (0 ≤ r24.toInt ∧ r24.toInt ≤ 1) ∧ (iR BR R_25) ∧ (R_25 0 8 = (R 0 8)) ∧ (R_25 0 9 = (R 0 9)) ∧ (r24.toInt = (1 : Int32).toInt) ∧ (R_25 8 = R 8) := hq26
      have kgO_t34 : gO R_25 := (gO_congr dgO p33 p30 p31)
      have n35 : 0 ≤ (R_25 0 8).toInt ∧ (R_25 0 8).toInt ≤ 72 := p29 0 8
      have kz36 : (R_25 0 8).toInt = (R 0 8).toInt := congrArg Int32.toInt p30
      have n37 : 0 ≤ (R_25 0 9).toInt ∧ (R_25 0 9).toInt ≤ 8 := p29 0 9
      have kz38 : (R_25 0 9).toInt = (R 0 9).toInt := congrArg Int32.toInt p31
      refine D_ite (fun c39 => ?_) (fun c39 => ?_)
      · have kc39 := tq_eq (x := r24) (y := (0 : Int32)) rfl (b := 0) (by decide) c39
        exfalso
        exact (by clear hk n1 n2 n3 n5 hy4 kc6 kc7 n35 kz36 n37 kz38; omega)
      · skip
        refine D_bd2 (t_X3_openBracket R_25 p29 kgO_t34 (by first | assumption | exact (by clear n5 hy4 kc6 p28 p32; omega)) (by first | assumption | exact (by clear n5 hy4 kc6 p28 p32; omega))) (fun r40 R_41 eq43 hq42 => ?_)
        refine D_lte (y := r40) rfl ?_
        refine D_lte (y := R_41) rfl ?_
        obtain ⟨p44, p45, p46, p47, p48⟩ : (1 ≤ r40.toInt ∧ r40.toInt ≤ 1) ∧ (iR BR R_41) ∧ (gO R_41) ∧ ((R_41 0 8).toInt = (R_25 0 8).toInt + 1) ∧ ((R_41 0 9).toInt = (R_25 0 9).toInt + 1) := hq42
        have n49 : 0 ≤ (R_41 0 8).toInt ∧ (R_41 0 8).toInt ≤ 72 := p45 0 8
        have n50 : 0 ≤ (R_41 0 9).toInt ∧ (R_41 0 9).toInt ≤ 8 := p45 0 9
        refine D_ite (fun c51 => ?_) (fun c51 => ?_)
        · have kc51 := tq_eq (x := r40) (y := (0 : Int32)) rfl (b := 0) (by decide) c51
          exfalso
          exact (by clear hk n1 n2 n3 n5 hy4 kc6 kc7 p28 p32 n35 kz36 n37 kz38 p47 p48 n49 n50; omega)
        · skip
          exact D_some (show (0 ≤ (1 : Int32).toInt ∧ (1 : Int32).toInt ≤ 1) ∧ (iR BR R_41) ∧ (iR BP P) ∧ (gO R_41) ∧ ((R_41 0 8).toInt ≤ (R_41 0 9).toInt + (P 0 3).toInt) from ⟨⟨(by clear hk n1 n2 n3 n5 hy4 kc6 kc7 p28 p32 n35 kz36 n37 kz38 p44 p47 p48 n49 n50; omega), (by clear hk n1 n2 n3 n5 hy4 kc6 kc7 p28 p32 n35 kz36 n37 kz38 p44 p47 p48 n49 n50; omega)⟩, p45, hP, p46, (by clear n5 hy4 kc6 p28 p32 p44; omega)⟩)
  · skip
    refine D_ite (fun c52 => ?_) (fun c52 => ?_)
    · have kc52 := tq_eq (x := y4) (y := (21 : Int32)) rfl (b := 21) (by decide) c52
      refine D_bd (t_X3_latestBinds R hR) (fun r53 eq55 hq54 => ?_)
      obtain ⟨p56, p57⟩ : ((-1) ≤ r53.toInt ∧ r53.toInt ≤ 6) ∧ ((R 0 8).toInt = 0 ∨ r53.toInt = (bindsF (R 8 ((R 0 8) - 1).toNatClampNeg).toNatClampNeg).toInt) := hq54
      refine D_ck (okI_of (by clear hk n1 n2 n3 p56 p57; omega) (by clear hk n1 n2 n3 p56 p57; omega)) ?_
      have n59 : 0 ≤ (bindsF y4.toNatClampNeg).toInt ∧ (bindsF y4.toNatClampNeg).toInt ≤ 6 := bindsF_rng y4.toNatClampNeg
      refine D_ite (fun c58 => ?_) (fun c58 => ?_)
      · have kc58 := tq_lt (x := (bindsF y4.toNatClampNeg)) (y := r53) rfl rfl c58
        unfold fJ_X3_readOperand_J73
        have l0 : (0 : Int32).toInt = 0 := by decide
        have l1 : (1 : Int32).toInt = 1 := by decide
        refine D_bd2 (t_X3_expect K R (0 : Int32) (1 : Int32) hK hR ⟨(by clear hk n1 n2 n3 n5 hy4 kc52 p56 p57 n59 kc58; omega), (by clear hk n1 n2 n3 n5 hy4 kc52 p56 p57 n59 kc58; omega)⟩) (fun r60 R_61 eq63 hq62 => ?_)
        refine D_lte (y := r60) rfl ?_
        refine D_lte (y := R_61) rfl ?_
        obtain ⟨p64, p65, p66, p67, p68, p69⟩ : (0 ≤ r60.toInt ∧ r60.toInt ≤ 1) ∧ (iR BR R_61) ∧ (R_61 0 8 = (R 0 8)) ∧ (R_61 0 9 = (R 0 9)) ∧ (r60.toInt = (0 : Int32).toInt) ∧ (R_61 8 = R 8) := hq62
        have kgO_t70 : gO R_61 := (gO_congr dgO p69 p66 p67)
        have n71 : 0 ≤ (R_61 0 8).toInt ∧ (R_61 0 8).toInt ≤ 72 := p65 0 8
        have kz72 : (R_61 0 8).toInt = (R 0 8).toInt := congrArg Int32.toInt p66
        have n73 : 0 ≤ (R_61 0 9).toInt ∧ (R_61 0 9).toInt ≤ 8 := p65 0 9
        have kz74 : (R_61 0 9).toInt = (R 0 9).toInt := congrArg Int32.toInt p67
        refine D_ite (fun c75 => ?_) (fun c75 => ?_)
        · have kc75 := tq_eq (x := r60) (y := (0 : Int32)) rfl (b := 0) (by decide) c75
          exact D_some (show (0 ≤ (0 : Int32).toInt ∧ (0 : Int32).toInt ≤ 1) ∧ (iR BR R_61) ∧ (iR BP P) ∧ (gO R_61) ∧ ((R_61 0 8).toInt ≤ (R_61 0 9).toInt + (P 0 3).toInt) from ⟨⟨(by clear hk n1 n2 n3 n5 hy4 kc52 p56 p57 n59 kc58 p64 p68 n71 kz72 n73 kz74 kc75; omega), (by clear hk n1 n2 n3 n5 hy4 kc52 p56 p57 n59 kc58 p64 p68 n71 kz72 n73 kz74 kc75; omega)⟩, p65, hP, kgO_t70, (by clear n5 hy4 kc52 p64 p68 kc75; omega)⟩)
        · have kc750 := tq_eqn (x := r60) (y := (0 : Int32)) rfl (b := 0) (by decide) c75
          have kc75 : 1 ≤ r60.toInt := (by clear hk n1 n2 n3 n5 hy4 kc52 p56 p57 n59 kc58 n71 kz72 n73 kz74; omega)
          clear kc750
          exfalso
          exact (by clear hk n1 n2 n3 n5 hy4 kc52 p56 p57 n59 kc58 n71 kz72 n73 kz74; omega)
      · have kc58 := tq_ltn (x := (bindsF y4.toNatClampNeg)) (y := r53) rfl rfl c58
        unfold fJ_X3_readOperand_J73
        have l1 : (1 : Int32).toInt = 1 := by decide
        refine D_bd2 (t_X3_expect K R (1 : Int32) (1 : Int32) hK hR ⟨(by clear hk n1 n2 n3 n5 hy4 kc52 p56 p57 n59 kc58; omega), (by clear hk n1 n2 n3 n5 hy4 kc52 p56 p57 n59 kc58; omega)⟩) (fun r76 R_77 eq79 hq78 => ?_)
        refine D_lte (y := r76) rfl ?_
        refine D_lte (y := R_77) rfl ?_
        obtain ⟨p80, p81, p82, p83, p84, p85⟩ : (0 ≤ r76.toInt ∧ r76.toInt ≤ 1) ∧ (iR BR R_77) ∧ (R_77 0 8 = (R 0 8)) ∧ (R_77 0 9 = (R 0 9)) ∧ (r76.toInt = (1 : Int32).toInt) ∧ (R_77 8 = R 8) := hq78
        have kgO_t86 : gO R_77 := (gO_congr dgO p85 p82 p83)
        have n87 : 0 ≤ (R_77 0 8).toInt ∧ (R_77 0 8).toInt ≤ 72 := p81 0 8
        have kz88 : (R_77 0 8).toInt = (R 0 8).toInt := congrArg Int32.toInt p82
        have n89 : 0 ≤ (R_77 0 9).toInt ∧ (R_77 0 9).toInt ≤ 8 := p81 0 9
        have kz90 : (R_77 0 9).toInt = (R 0 9).toInt := congrArg Int32.toInt p83
        refine D_ite (fun c91 => ?_) (fun c91 => ?_)
        · have kc91 := tq_eq (x := r76) (y := (0 : Int32)) rfl (b := 0) (by decide) c91
          exfalso
          exact (by clear hk n1 n2 n3 n5 hy4 kc52 p56 p57 n59 kc58 n87 kz88 n89 kz90; omega)
        · skip
          refine D_bd3 (t_X3_countKnot K R_77 P hK p81 hP) (fun r92 R_93 P_94 eq96 hq95 => ?_)
          refine D_lte (y := r92) rfl ?_
          refine D_lte (y := R_93) rfl ?_
          refine D_lte (y := P_94) rfl ?_
          obtain ⟨p97, p98, p99, p100, p101, p102, p103⟩ : (0 ≤ r92.toInt ∧ r92.toInt ≤ 1) ∧ (iR BR R_93) ∧ (iR BP P_94) ∧ (R_93 0 8 = (R_77 0 8)) ∧ (R_93 0 9 = (R_77 0 9)) ∧ (R_93 8 = R_77 8) ∧ ((P_94 0 3).toInt = (P 0 3).toInt + r92.toInt) := hq95
          have kgO_t104 : gO R_93 := (gO_congr kgO_t86 p102 p100 p101)
          have n105 : 0 ≤ (R_93 0 8).toInt ∧ (R_93 0 8).toInt ≤ 72 := p98 0 8
          have kz106 : (R_93 0 8).toInt = (R_77 0 8).toInt := congrArg Int32.toInt p100
          have n107 : 0 ≤ (R_93 0 9).toInt ∧ (R_93 0 9).toInt ≤ 8 := p98 0 9
          have kz108 : (R_93 0 9).toInt = (R_77 0 9).toInt := congrArg Int32.toInt p101
          have n109 : 0 ≤ (P_94 0 3).toInt ∧ (P_94 0 3).toInt ≤ 64 := p99 0 3
          refine D_ite (fun c110 => ?_) (fun c110 => ?_)
          · have kc110 := tq_eq (x := r92) (y := (0 : Int32)) rfl (b := 0) (by decide) c110
            have l0 : (0 : Int32).toInt = 0 := by decide
            exact D_some (show (0 ≤ (0 : Int32).toInt ∧ (0 : Int32).toInt ≤ 1) ∧ (iR BR R_93) ∧ (iR BP P_94) ∧ (gO R_93) ∧ ((R_93 0 8).toInt ≤ (R_93 0 9).toInt + (P_94 0 3).toInt) from ⟨⟨(by clear hk n1 n2 n3 n5 hy4 kc52 p56 p57 n59 kc58 p80 p84 n87 kz88 n89 kz90 p97 p103 n105 kz106 n107 kz108 n109 kc110; omega), (by clear hk n1 n2 n3 n5 hy4 kc52 p56 p57 n59 kc58 p80 p84 n87 kz88 n89 kz90 p97 p103 n105 kz106 n107 kz108 n109 kc110; omega)⟩, p98, p99, kgO_t104, (by clear n5 hy4 kc52 p80 p84; omega)⟩)
          · have kc1100 := tq_eqn (x := r92) (y := (0 : Int32)) rfl (b := 0) (by decide) c110
            have kc110 : 1 ≤ r92.toInt := (by clear n5 hy4 kc52 p80 p84; omega)
            clear kc1100
            refine D_bd2 (t_X3_openSign R_93 y4 p98 ⟨(by clear hk n1 n2 n3 p56 p57 n59 kc58 p80 p84 n87 kz88 n89 kz90 p97 p103 n105 kz106 n107 kz108 n109 kc110; omega), (by clear hk n1 n2 n3 p56 p57 n59 kc58 p80 p84 n87 kz88 n89 kz90 p97 p103 n105 kz106 n107 kz108 n109 kc110; omega)⟩ (by first | assumption | exact (by clear n5 hy4 kc52 p80 p84; omega))) (fun r111 R_112 eq114 hq113 => ?_)
            refine D_lte (y := r111) rfl ?_
            refine D_lte (y := R_112) rfl ?_
            obtain ⟨p115, p116, p117, p118, p119⟩ : (1 ≤ r111.toInt ∧ r111.toInt ≤ 1) ∧ (iR BR R_112) ∧ (R_112 0 9 = (R_93 0 9)) ∧ (R_112 8 = upd (R_93 8) (R_93 0 8).toNatClampNeg y4) ∧ ((R_112 0 8).toInt = (R_93 0 8).toInt + 1) := hq113
            have kgO_t120 : gO R_112 := (gO_push (b := 0) kgO_t104 (by omega) p118 p119 (by rw [p117, ne39 (by rw [show y4 = 21 by assumption]; decide)]; simp) (bindJ39 (by rw [show y4 = 21 by assumption]; decide)))
            have n121 : 0 ≤ (R_112 0 9).toInt ∧ (R_112 0 9).toInt ≤ 8 := p116 0 9
            have kz122 : (R_112 0 9).toInt = (R_93 0 9).toInt := congrArg Int32.toInt p117
            have n123 : 0 ≤ (R_112 0 8).toInt ∧ (R_112 0 8).toInt ≤ 72 := p116 0 8
            refine D_ite (fun c124 => ?_) (fun c124 => ?_)
            · have kc124 := tq_eq (x := r111) (y := (0 : Int32)) rfl (b := 0) (by decide) c124
              exfalso
              exact (by clear hk n1 n2 n3 n5 hy4 kc52 p56 p57 n59 kc58 p80 p84 n87 kz88 n89 kz90 p97 p103 n105 kz106 n107 kz108 n109 kc110 p119 n121 kz122 n123; omega)
            · skip
              exact D_some (show (0 ≤ (1 : Int32).toInt ∧ (1 : Int32).toInt ≤ 1) ∧ (iR BR R_112) ∧ (iR BP P_94) ∧ (gO R_112) ∧ ((R_112 0 8).toInt ≤ (R_112 0 9).toInt + (P_94 0 3).toInt) from ⟨⟨(by clear hk n1 n2 n3 n5 hy4 kc52 p56 p57 n59 kc58 p80 p84 n87 kz88 n89 kz90 p97 p103 n105 kz106 n107 kz108 n109 kc110 p115 p119 n121 kz122 n123; omega), (by clear hk n1 n2 n3 n5 hy4 kc52 p56 p57 n59 kc58 p80 p84 n87 kz88 n89 kz90 p97 p103 n105 kz106 n107 kz108 n109 kc110 p115 p119 n121 kz122 n123; omega)⟩, p116, p99, kgO_t120, (by clear n5 hy4 kc52 p80 p84 p115; omega)⟩)
    · skip
      refine D_ite (fun c125 => ?_) (fun c125 => ?_)
      · have kc125 := tq_eq (x := y4) (y := (42 : Int32)) rfl (b := 42) (by decide) c125
        have n127 := i_rng (K 0 3)
        refine D_ite (fun c126 => ?_) (fun c126 => ?_)
        · have kc126 := tq_le (x := (10000 : Int32)) (y := (K 0 3)) (a := 10000) (by decide) rfl c126
          unfold fJ_X3_readOperand_J126
          have l0 : (0 : Int32).toInt = 0 := by decide
          have l2 : (2 : Int32).toInt = 2 := by decide
          refine D_bd2 (t_X3_expect K R (0 : Int32) (2 : Int32) hK hR ⟨(by clear hk n1 n2 n3 n5 hy4 kc125 n127 kc126; omega), (by clear hk n1 n2 n3 n5 hy4 kc125 n127 kc126; omega)⟩) (fun r128 R_129 eq131 hq130 => ?_)
          refine D_lte (y := r128) rfl ?_
          refine D_lte (y := R_129) rfl ?_
          obtain ⟨p132, p133, p134, p135, p136, p137⟩ : (0 ≤ r128.toInt ∧ r128.toInt ≤ 1) ∧ (iR BR R_129) ∧ (R_129 0 8 = (R 0 8)) ∧ (R_129 0 9 = (R 0 9)) ∧ (r128.toInt = (0 : Int32).toInt) ∧ (R_129 8 = R 8) := hq130
          have kgO_t138 : gO R_129 := (gO_congr dgO p137 p134 p135)
          have n139 : 0 ≤ (R_129 0 8).toInt ∧ (R_129 0 8).toInt ≤ 72 := p133 0 8
          have kz140 : (R_129 0 8).toInt = (R 0 8).toInt := congrArg Int32.toInt p134
          have n141 : 0 ≤ (R_129 0 9).toInt ∧ (R_129 0 9).toInt ≤ 8 := p133 0 9
          have kz142 : (R_129 0 9).toInt = (R 0 9).toInt := congrArg Int32.toInt p135
          refine D_ite (fun c143 => ?_) (fun c143 => ?_)
          · have kc143 := tq_eq (x := r128) (y := (0 : Int32)) rfl (b := 0) (by decide) c143
            exact D_some (show (0 ≤ (0 : Int32).toInt ∧ (0 : Int32).toInt ≤ 1) ∧ (iR BR R_129) ∧ (iR BP P) ∧ (gO R_129) ∧ ((R_129 0 8).toInt ≤ (R_129 0 9).toInt + (P 0 3).toInt) from ⟨⟨(by clear hk n1 n2 n3 n5 hy4 kc125 n127 kc126 p132 p136 n139 kz140 n141 kz142 kc143; omega), (by clear hk n1 n2 n3 n5 hy4 kc125 n127 kc126 p132 p136 n139 kz140 n141 kz142 kc143; omega)⟩, p133, hP, kgO_t138, (by clear n5 hy4 kc125 n127 kc126 p132 p136 kc143; omega)⟩)
          · have kc1430 := tq_eqn (x := r128) (y := (0 : Int32)) rfl (b := 0) (by decide) c143
            have kc143 : 1 ≤ r128.toInt := (by clear hk n1 n2 n3 n5 hy4 kc125 n127 kc126 n139 kz140 n141 kz142; omega)
            clear kc1430
            exfalso
            exact (by clear hk n1 n2 n3 n5 hy4 kc125 n127 kc126 n139 kz140 n141 kz142; omega)
        · have kc126 := tq_len (x := (10000 : Int32)) (y := (K 0 3)) (a := 10000) (by decide) rfl c126
          unfold fJ_X3_readOperand_J126
          have l1 : (1 : Int32).toInt = 1 := by decide
          have l2 : (2 : Int32).toInt = 2 := by decide
          refine D_bd2 (t_X3_expect K R (1 : Int32) (2 : Int32) hK hR ⟨(by clear hk n1 n2 n3 n5 hy4 kc125 n127 kc126; omega), (by clear hk n1 n2 n3 n5 hy4 kc125 n127 kc126; omega)⟩) (fun r144 R_145 eq147 hq146 => ?_)
          refine D_lte (y := r144) rfl ?_
          refine D_lte (y := R_145) rfl ?_
          obtain ⟨p148, p149, p150, p151, p152, p153⟩ : (0 ≤ r144.toInt ∧ r144.toInt ≤ 1) ∧ (iR BR R_145) ∧ (R_145 0 8 = (R 0 8)) ∧ (R_145 0 9 = (R 0 9)) ∧ (r144.toInt = (1 : Int32).toInt) ∧ (R_145 8 = R 8) := hq146
          have kgO_t154 : gO R_145 := (gO_congr dgO p153 p150 p151)
          have n155 : 0 ≤ (R_145 0 8).toInt ∧ (R_145 0 8).toInt ≤ 72 := p149 0 8
          have kz156 : (R_145 0 8).toInt = (R 0 8).toInt := congrArg Int32.toInt p150
          have n157 : 0 ≤ (R_145 0 9).toInt ∧ (R_145 0 9).toInt ≤ 8 := p149 0 9
          have kz158 : (R_145 0 9).toInt = (R 0 9).toInt := congrArg Int32.toInt p151
          refine D_ite (fun c159 => ?_) (fun c159 => ?_)
          · have kc159 := tq_eq (x := r144) (y := (0 : Int32)) rfl (b := 0) (by decide) c159
            exfalso
            exact (by clear hk n1 n2 n3 n5 hy4 kc125 n127 kc126 n155 kz156 n157 kz158; omega)
          · skip
            refine D_bd3 (t_X3_countKnot K R_145 P hK p149 hP) (fun r160 R_161 P_162 eq164 hq163 => ?_)
            refine D_lte (y := r160) rfl ?_
            refine D_lte (y := R_161) rfl ?_
            refine D_lte (y := P_162) rfl ?_
            obtain ⟨p165, p166, p167, p168, p169, p170, p171⟩ : (0 ≤ r160.toInt ∧ r160.toInt ≤ 1) ∧ (iR BR R_161) ∧ (iR BP P_162) ∧ (R_161 0 8 = (R_145 0 8)) ∧ (R_161 0 9 = (R_145 0 9)) ∧ (R_161 8 = R_145 8) ∧ ((P_162 0 3).toInt = (P 0 3).toInt + r160.toInt) := hq163
            have kgO_t172 : gO R_161 := (gO_congr kgO_t154 p170 p168 p169)
            have n173 : 0 ≤ (R_161 0 8).toInt ∧ (R_161 0 8).toInt ≤ 72 := p166 0 8
            have kz174 : (R_161 0 8).toInt = (R_145 0 8).toInt := congrArg Int32.toInt p168
            have n175 : 0 ≤ (R_161 0 9).toInt ∧ (R_161 0 9).toInt ≤ 8 := p166 0 9
            have kz176 : (R_161 0 9).toInt = (R_145 0 9).toInt := congrArg Int32.toInt p169
            have n177 : 0 ≤ (P_162 0 3).toInt ∧ (P_162 0 3).toInt ≤ 64 := p167 0 3
            refine D_ite (fun c178 => ?_) (fun c178 => ?_)
            · have kc178 := tq_eq (x := r160) (y := (0 : Int32)) rfl (b := 0) (by decide) c178
              have l0 : (0 : Int32).toInt = 0 := by decide
              exact D_some (show (0 ≤ (0 : Int32).toInt ∧ (0 : Int32).toInt ≤ 1) ∧ (iR BR R_161) ∧ (iR BP P_162) ∧ (gO R_161) ∧ ((R_161 0 8).toInt ≤ (R_161 0 9).toInt + (P_162 0 3).toInt) from ⟨⟨(by clear hk n1 n2 n3 n5 hy4 kc125 n127 kc126 p148 p152 n155 kz156 n157 kz158 p165 p171 n173 kz174 n175 kz176 n177 kc178; omega), (by clear hk n1 n2 n3 n5 hy4 kc125 n127 kc126 p148 p152 n155 kz156 n157 kz158 p165 p171 n173 kz174 n175 kz176 n177 kc178; omega)⟩, p166, p167, kgO_t172, (by clear n5 hy4 kc125 n127 kc126 p148 p152; omega)⟩)
            · have kc1780 := tq_eqn (x := r160) (y := (0 : Int32)) rfl (b := 0) (by decide) c178
              have kc178 : 1 ≤ r160.toInt := (by clear n5 hy4 kc125 n127 kc126 p148 p152; omega)
              clear kc1780
              refine D_bd2 (t_X3_put j P_162 (K 0 3) p167 hj) (fun r179 P_180 eq182 hq181 => ?_)
              refine D_lte (y := r179) rfl ?_
              refine D_lte (y := P_180) rfl ?_
              obtain ⟨p183, p184, p185⟩ : (0 ≤ r179.toInt ∧ r179.toInt ≤ 1) ∧ (iR BP P_180) ∧ (P_180 0 3 = (P_162 0 3)) := hq181
              have n186 : 0 ≤ (P_180 0 3).toInt ∧ (P_180 0 3).toInt ≤ 64 := p184 0 3
              have kz187 : (P_180 0 3).toInt = (P_162 0 3).toInt := congrArg Int32.toInt p185
              refine D_ite (fun c188 => ?_) (fun c188 => ?_)
              · have kc188 := tq_eq (x := r179) (y := (0 : Int32)) rfl (b := 0) (by decide) c188
                have l0 : (0 : Int32).toInt = 0 := by decide
                exact D_some (show (0 ≤ (0 : Int32).toInt ∧ (0 : Int32).toInt ≤ 1) ∧ (iR BR R_161) ∧ (iR BP P_180) ∧ (gO R_161) ∧ ((R_161 0 8).toInt ≤ (R_161 0 9).toInt + (P_180 0 3).toInt) from ⟨⟨(by clear hk n1 n2 n3 n5 hy4 kc125 n127 kc126 p148 p152 n155 kz156 n157 kz158 p165 p171 n173 kz174 n175 kz176 n177 kc178 p183 n186 kz187 kc188; omega), (by clear hk n1 n2 n3 n5 hy4 kc125 n127 kc126 p148 p152 n155 kz156 n157 kz158 p165 p171 n173 kz174 n175 kz176 n177 kc178 p183 n186 kz187 kc188; omega)⟩, p166, p184, kgO_t172, (by clear n5 hy4 kc125 n127 kc126 p148 p152 p183 kc188; omega)⟩)
              · have kc1880 := tq_eqn (x := r179) (y := (0 : Int32)) rfl (b := 0) (by decide) c188
                have kc188 : 1 ≤ r179.toInt := (by clear hk n1 n2 n3 n5 hy4 kc125 n127 kc126 p148 p152 n155 kz156 n157 kz158 p165 p171 n173 kz174 n175 kz176 n177 kc178 n186 kz187; omega)
                clear kc1880
                exact D_some (show (0 ≤ (1 : Int32).toInt ∧ (1 : Int32).toInt ≤ 1) ∧ (iR BR R_161) ∧ (iR BP P_180) ∧ (gO R_161) ∧ ((R_161 0 8).toInt ≤ (R_161 0 9).toInt + (P_180 0 3).toInt) from ⟨⟨(by clear hk n1 n2 n3 n5 hy4 kc125 n127 kc126 p148 p152 n155 kz156 n157 kz158 p165 p171 n173 kz174 n175 kz176 n177 kc178 p183 n186 kz187 kc188; omega), (by clear hk n1 n2 n3 n5 hy4 kc125 n127 kc126 p148 p152 n155 kz156 n157 kz158 p165 p171 n173 kz174 n175 kz176 n177 kc178 p183 n186 kz187 kc188; omega)⟩, p166, p184, kgO_t172, (by clear n5 hy4 kc125 n127 kc126 p148 p152 p183 kc188; omega)⟩)
      · skip
        refine D_bd (t_X3_isFact y4 ) (fun r189 eq191 hq190 => ?_)
        have p192 : 0 ≤ r189.toInt ∧ r189.toInt ≤ 1 := hq190
        have l1 : (1 : Int32).toInt = 1 := by decide
        refine D_bd2 (t_X3_expect K R r189 (1 : Int32) hK hR ⟨(by clear hk n1 n2 n3 n5 hy4; omega), (by clear hk n1 n2 n3 n5 hy4; omega)⟩) (fun r193 R_194 eq196 hq195 => ?_)
        refine D_lte (y := r193) rfl ?_
        refine D_lte (y := R_194) rfl ?_
        obtain ⟨p197, p198, p199, p200, p201, p202⟩ : (0 ≤ r193.toInt ∧ r193.toInt ≤ 1) ∧ (iR BR R_194) ∧ (R_194 0 8 = (R 0 8)) ∧ (R_194 0 9 = (R 0 9)) ∧ (r193.toInt = r189.toInt) ∧ (R_194 8 = R 8) := hq195
        have kgO_t203 : gO R_194 := (gO_congr dgO p202 p199 p200)
        have n204 : 0 ≤ (R_194 0 8).toInt ∧ (R_194 0 8).toInt ≤ 72 := p198 0 8
        have kz205 : (R_194 0 8).toInt = (R 0 8).toInt := congrArg Int32.toInt p199
        have n206 : 0 ≤ (R_194 0 9).toInt ∧ (R_194 0 9).toInt ≤ 8 := p198 0 9
        have kz207 : (R_194 0 9).toInt = (R 0 9).toInt := congrArg Int32.toInt p200
        refine D_ite (fun c208 => ?_) (fun c208 => ?_)
        · have kc208 := tq_eq (x := r193) (y := (0 : Int32)) rfl (b := 0) (by decide) c208
          have l0 : (0 : Int32).toInt = 0 := by decide
          exact D_some (show (0 ≤ (0 : Int32).toInt ∧ (0 : Int32).toInt ≤ 1) ∧ (iR BR R_194) ∧ (iR BP P) ∧ (gO R_194) ∧ ((R_194 0 8).toInt ≤ (R_194 0 9).toInt + (P 0 3).toInt) from ⟨⟨(by clear hk n1 n2 n3 n5 hy4 p192 p197 p201 n204 kz205 n206 kz207 kc208; omega), (by clear hk n1 n2 n3 n5 hy4 p192 p197 p201 n204 kz205 n206 kz207 kc208; omega)⟩, p198, hP, kgO_t203, (by clear n5 hy4 p192 p197 p201 kc208; omega)⟩)
        · have kc2080 := tq_eqn (x := r193) (y := (0 : Int32)) rfl (b := 0) (by decide) c208
          have kc208 : 1 ≤ r193.toInt := (by clear hk n1 n2 n3 n5 hy4 n204 kz205 n206 kz207; omega)
          clear kc2080
          refine D_bd3 (t_X3_countKnot K R_194 P hK p198 hP) (fun r209 R_210 P_211 eq213 hq212 => ?_)
          refine D_lte (y := r209) rfl ?_
          refine D_lte (y := R_210) rfl ?_
          refine D_lte (y := P_211) rfl ?_
          obtain ⟨p214, p215, p216, p217, p218, p219, p220⟩ : (0 ≤ r209.toInt ∧ r209.toInt ≤ 1) ∧ (iR BR R_210) ∧ (iR BP P_211) ∧ (R_210 0 8 = (R_194 0 8)) ∧ (R_210 0 9 = (R_194 0 9)) ∧ (R_210 8 = R_194 8) ∧ ((P_211 0 3).toInt = (P 0 3).toInt + r209.toInt) := hq212
          have kgO_t221 : gO R_210 := (gO_congr kgO_t203 p219 p217 p218)
          have n222 : 0 ≤ (R_210 0 8).toInt ∧ (R_210 0 8).toInt ≤ 72 := p215 0 8
          have kz223 : (R_210 0 8).toInt = (R_194 0 8).toInt := congrArg Int32.toInt p217
          have n224 : 0 ≤ (R_210 0 9).toInt ∧ (R_210 0 9).toInt ≤ 8 := p215 0 9
          have kz225 : (R_210 0 9).toInt = (R_194 0 9).toInt := congrArg Int32.toInt p218
          have n226 : 0 ≤ (P_211 0 3).toInt ∧ (P_211 0 3).toInt ≤ 64 := p216 0 3
          refine D_ite (fun c227 => ?_) (fun c227 => ?_)
          · have kc227 := tq_eq (x := r209) (y := (0 : Int32)) rfl (b := 0) (by decide) c227
            have l0 : (0 : Int32).toInt = 0 := by decide
            exact D_some (show (0 ≤ (0 : Int32).toInt ∧ (0 : Int32).toInt ≤ 1) ∧ (iR BR R_210) ∧ (iR BP P_211) ∧ (gO R_210) ∧ ((R_210 0 8).toInt ≤ (R_210 0 9).toInt + (P_211 0 3).toInt) from ⟨⟨(by clear hk n1 n2 n3 n5 hy4 p192 p197 p201 n204 kz205 n206 kz207 kc208 p214 p220 n222 kz223 n224 kz225 n226 kc227; omega), (by clear hk n1 n2 n3 n5 hy4 p192 p197 p201 n204 kz205 n206 kz207 kc208 p214 p220 n222 kz223 n224 kz225 n226 kc227; omega)⟩, p215, p216, kgO_t221, (by clear n5 hy4 p192 p197 p201 kc208; omega)⟩)
          · have kc2270 := tq_eqn (x := r209) (y := (0 : Int32)) rfl (b := 0) (by decide) c227
            have kc227 : 1 ≤ r209.toInt := (by clear n5 hy4 p192 p197 p201 kc208; omega)
            clear kc2270
            have n228 : ((10000 : Int32) + y4).toInt = 10000 + y4.toInt := i_addK (by decide) rfl (by clear hk n1 n2 n3 p192 p197 p201 n204 kz205 n206 kz207 kc208 p214 p220 n222 kz223 n224 kz225 n226 kc227; omega) (by clear hk n1 n2 n3 p192 p197 p201 n204 kz205 n206 kz207 kc208 p214 p220 n222 kz223 n224 kz225 n226 kc227; omega)
            refine D_bd2 (t_X3_put j P_211 ((10000 : Int32) + y4) p216 hj) (fun r229 P_230 eq232 hq231 => ?_)
            refine D_lte (y := r229) rfl ?_
            refine D_lte (y := P_230) rfl ?_
            obtain ⟨p233, p234, p235⟩ : (0 ≤ r229.toInt ∧ r229.toInt ≤ 1) ∧ (iR BP P_230) ∧ (P_230 0 3 = (P_211 0 3)) := hq231
            have n236 : 0 ≤ (P_230 0 3).toInt ∧ (P_230 0 3).toInt ≤ 64 := p234 0 3
            have kz237 : (P_230 0 3).toInt = (P_211 0 3).toInt := congrArg Int32.toInt p235
            refine D_ite (fun c238 => ?_) (fun c238 => ?_)
            · have kc238 := tq_eq (x := r229) (y := (0 : Int32)) rfl (b := 0) (by decide) c238
              have l0 : (0 : Int32).toInt = 0 := by decide
              exact D_some (show (0 ≤ (0 : Int32).toInt ∧ (0 : Int32).toInt ≤ 1) ∧ (iR BR R_210) ∧ (iR BP P_230) ∧ (gO R_210) ∧ ((R_210 0 8).toInt ≤ (R_210 0 9).toInt + (P_230 0 3).toInt) from ⟨⟨(by clear hk n1 n2 n3 n5 hy4 p192 p197 p201 n204 kz205 n206 kz207 kc208 p214 p220 n222 kz223 n224 kz225 n226 kc227 n228 p233 n236 kz237 kc238; omega), (by clear hk n1 n2 n3 n5 hy4 p192 p197 p201 n204 kz205 n206 kz207 kc208 p214 p220 n222 kz223 n224 kz225 n226 kc227 n228 p233 n236 kz237 kc238; omega)⟩, p215, p234, kgO_t221, (by clear n5 hy4 p192 p197 p201 kc208 n228 p233 kc238; omega)⟩)
            · have kc2380 := tq_eqn (x := r229) (y := (0 : Int32)) rfl (b := 0) (by decide) c238
              have kc238 : 1 ≤ r229.toInt := (by clear hk n1 n2 n3 n5 hy4 p192 p197 p201 n204 kz205 n206 kz207 kc208 p214 p220 n222 kz223 n224 kz225 n226 kc227 n228 n236 kz237; omega)
              clear kc2380
              exact D_some (show (0 ≤ (1 : Int32).toInt ∧ (1 : Int32).toInt ≤ 1) ∧ (iR BR R_210) ∧ (iR BP P_230) ∧ (gO R_210) ∧ ((R_210 0 8).toInt ≤ (R_210 0 9).toInt + (P_230 0 3).toInt) from ⟨⟨(by clear hk n1 n2 n3 n5 hy4 p192 p197 p201 n204 kz205 n206 kz207 kc208 p214 p220 n222 kz223 n224 kz225 n226 kc227 n228 p233 n236 kz237 kc238; omega), (by clear hk n1 n2 n3 n5 hy4 p192 p197 p201 n204 kz205 n206 kz207 kc208 p214 p220 n222 kz223 n224 kz225 n226 kc227 n228 p233 n236 kz237 kc238; omega)⟩, p215, p234, kgO_t221, (by clear n5 hy4 p192 p197 p201 kc208 n228 p233 kc238; omega)⟩)
set_option maxHeartbeats 1000000 in
set_option maxRecDepth 100000 in
theorem t_X3_isJoining (x0 : Int32)  : D (f_X3_isJoining x0) (fun (q : Int32) => (0 ≤ q.toInt ∧ q.toInt ≤ 1) ∧ (q.toInt = 1 → (19 ≤ x0.toInt ∧ x0.toInt ≤ 20 ∨ 29 ≤ x0.toInt ∧ x0.toInt ≤ 38))) := by
  unfold f_X3_isJoining
  have n2 := i_rng x0
  refine D_ite (fun c1 => ?_) (fun c1 => ?_)
  · have kc1 := tq_eq (x := x0) (y := (19 : Int32)) rfl (b := 19) (by decide) c1
    have l1 : (1 : Int32).toInt = 1 := by decide
    exact D_some (show (0 ≤ (1 : Int32).toInt ∧ (1 : Int32).toInt ≤ 1) ∧ ((1 : Int32).toInt = 1 → (19 ≤ x0.toInt ∧ x0.toInt ≤ 20 ∨ 29 ≤ x0.toInt ∧ x0.toInt ≤ 38)) from ⟨⟨(by omega), (by omega)⟩, (by omega)⟩)
  · skip
    refine D_ite (fun c3 => ?_) (fun c3 => ?_)
    · have kc3 := tq_eq (x := x0) (y := (20 : Int32)) rfl (b := 20) (by decide) c3
      have l1 : (1 : Int32).toInt = 1 := by decide
      exact D_some (show (0 ≤ (1 : Int32).toInt ∧ (1 : Int32).toInt ≤ 1) ∧ ((1 : Int32).toInt = 1 → (19 ≤ x0.toInt ∧ x0.toInt ≤ 20 ∨ 29 ≤ x0.toInt ∧ x0.toInt ≤ 38)) from ⟨⟨(by omega), (by omega)⟩, (by omega)⟩)
    · skip
      refine D_ite (fun c4 => ?_) (fun c4 => ?_)
      · have kc4 := tq_lt (x := x0) (y := (29 : Int32)) rfl (b := 29) (by decide) c4
        have l0 : (0 : Int32).toInt = 0 := by decide
        exact D_some (show (0 ≤ (0 : Int32).toInt ∧ (0 : Int32).toInt ≤ 1) ∧ ((0 : Int32).toInt = 1 → (19 ≤ x0.toInt ∧ x0.toInt ≤ 20 ∨ 29 ≤ x0.toInt ∧ x0.toInt ≤ 38)) from ⟨⟨(by omega), (by omega)⟩, (by omega)⟩)
      · have kc4 := tq_ltn (x := x0) (y := (29 : Int32)) rfl (b := 29) (by decide) c4
        refine D_ite (fun c5 => ?_) (fun c5 => ?_)
        · have kc5 := tq_lt (x := (38 : Int32)) (y := x0) (a := 38) (by decide) rfl c5
          have l0 : (0 : Int32).toInt = 0 := by decide
          exact D_some (show (0 ≤ (0 : Int32).toInt ∧ (0 : Int32).toInt ≤ 1) ∧ ((0 : Int32).toInt = 1 → (19 ≤ x0.toInt ∧ x0.toInt ≤ 20 ∨ 29 ≤ x0.toInt ∧ x0.toInt ≤ 38)) from ⟨⟨(by clear n2 kc4 kc5; omega), (by clear n2 kc4 kc5; omega)⟩, (by omega)⟩)
        · have kc5 := tq_ltn (x := (38 : Int32)) (y := x0) (a := 38) (by decide) rfl c5
          have l1 : (1 : Int32).toInt = 1 := by decide
          exact D_some (show (0 ≤ (1 : Int32).toInt ∧ (1 : Int32).toInt ≤ 1) ∧ ((1 : Int32).toInt = 1 → (19 ≤ x0.toInt ∧ x0.toInt ≤ 20 ∨ 29 ≤ x0.toInt ∧ x0.toInt ≤ 38)) from ⟨⟨(by clear n2 kc4 kc5; omega), (by clear n2 kc4 kc5; omega)⟩, (by omega)⟩)
set_option maxHeartbeats 1000000 in
set_option maxRecDepth 100000 in
theorem tl_X3_closeSigns_L0 (z8 : Nat → Int32) (zo : Int32) (zR_0_9 : Int32) (zP_0_3 : Int32) (j : Nat) (x2 : Int32) (hx2 : 1 ≤ x2.toInt ∧ x2.toInt ≤ 7) (hj : j < 3)   (N : Nat) : ∀ (R : Tr) (P : Tr), gO R → R 0 9 = zR_0_9 → P 0 3 = zP_0_3 → iR BR R → iR BP P → R 8 = z8 → (R 0 8).toInt ≤ zo.toInt → (R 0 8).toInt + 1 < (N : Int) → D (lpF (fun _ _ => none) (fB_X3_closeSigns_L0 j x2) N R P) (fun (q : Tr × Tr) => (iR BR (q.1)) ∧ (iR BP (q.2)) ∧ (gO (q.1)) ∧ ((q.1) 0 9 = zR_0_9) ∧ ((q.2) 0 3 = zP_0_3) ∧ ((q.1) 8 = z8) ∧ (((q.1) 0 8).toInt ≤ zo.toInt) ∧ (((q.1) 0 8).toInt = 0 ∨ (bindsF ((q.1) 8 (((q.1) 0 8) - 1).toNatClampNeg).toNatClampNeg).toInt < x2.toInt)) := by
  induction N with
  | zero =>
    intro R P dgO dR_0_9 dP_0_3 hR hP h8 hz hN
    exfalso
    have n22 : 0 ≤ (R 0 8).toInt ∧ (R 0 8).toInt ≤ 72 := hR 0 8
    omega
  | succ N0 ih =>
    intro R P dgO dR_0_9 dP_0_3 hR hP h8 hz hN
    have hk0 : ∀ (R : Tr) (P : Tr), gO R → R 0 9 = zR_0_9 → P 0 3 = zP_0_3 → iR BR R → iR BP P → R 8 = z8 → (R 0 8).toInt ≤ zo.toInt → (R 0 8).toInt + 1 < (N0 : Int) → D (lpF (fun _ _ => none) (fB_X3_closeSigns_L0 j x2) N0 R P) (fun (q : Tr × Tr) => (iR BR (q.1)) ∧ (iR BP (q.2)) ∧ (gO (q.1)) ∧ ((q.1) 0 9 = zR_0_9) ∧ ((q.2) 0 3 = zP_0_3) ∧ ((q.1) 8 = z8) ∧ (((q.1) 0 8).toInt ≤ zo.toInt) ∧ (((q.1) 0 8).toInt = 0 ∨ (bindsF ((q.1) 8 (((q.1) 0 8) - 1).toNatClampNeg).toNatClampNeg).toInt < x2.toInt)) := ih
    show D (fB_X3_closeSigns_L0 j x2 (lpF (fun _ _ => none) (fB_X3_closeSigns_L0 j x2) N0) R P) _
    generalize lpF (fun _ _ => none) (fB_X3_closeSigns_L0 j x2) N0 = k0 at hk0 ⊢
    have hN0 : (R 0 8).toInt + 1 < (N0 : Int) + 1 := by omega
    clear ih
    unfold fB_X3_closeSigns_L0
    have n2 : 0 ≤ (R 0 8).toInt ∧ (R 0 8).toInt ≤ 72 := hR 0 8
    refine D_ite (fun c1 => ?_) (fun c1 => ?_)
    · have kc1 := tq_le (x := (R 0 8)) (y := (0 : Int32)) rfl (b := 0) (by decide) c1
      exact D_some (show (iR BR R) ∧ (iR BP P) ∧ (gO R) ∧ (R 0 9 = zR_0_9) ∧ (P 0 3 = zP_0_3) ∧ (R 8 = z8) ∧ ((R 0 8).toInt ≤ zo.toInt) ∧ ((R 0 8).toInt = 0 ∨ (bindsF (R 8 ((R 0 8) - 1).toNatClampNeg).toNatClampNeg).toInt < x2.toInt) from ⟨hR, hP, dgO, dR_0_9, dP_0_3, h8, hz, (by omega)⟩)
    · have kc1 := tq_len (x := (R 0 8)) (y := (0 : Int32)) rfl (b := 0) (by decide) c1
      refine D_bd (t_X3_latestBinds R hR) (fun r3 eq5 hq4 => ?_)
      obtain ⟨p6, p7⟩ : ((-1) ≤ r3.toInt ∧ r3.toInt ≤ 6) ∧ ((R 0 8).toInt = 0 ∨ r3.toInt = (bindsF (R 8 ((R 0 8) - 1).toNatClampNeg).toNatClampNeg).toInt) := hq4
      refine D_ite (fun c8 => ?_) (fun c8 => ?_)
      · have kc8 := tq_lt (x := r3) (y := x2) rfl rfl c8
        exact D_some (show (iR BR R) ∧ (iR BP P) ∧ (gO R) ∧ (R 0 9 = zR_0_9) ∧ (P 0 3 = zP_0_3) ∧ (R 8 = z8) ∧ ((R 0 8).toInt ≤ zo.toInt) ∧ ((R 0 8).toInt = 0 ∨ (bindsF (R 8 ((R 0 8) - 1).toNatClampNeg).toNatClampNeg).toInt < x2.toInt) from ⟨hR, hP, dgO, dR_0_9, dP_0_3, h8, hz, (by omega)⟩)
      · have kc8 := tq_ltn (x := r3) (y := x2) rfl rfl c8
        have n10 : ((R 0 8) - 1).toInt = (R 0 8).toInt - 1 := i_subK rfl (by decide) (by omega) (by omega)
        refine D_lt (fun R_9 eR_9 => ?_)
        have hR_9 : iR BR R_9 := by rw [eR_9]; exact iR_set hR (show (0 : Int) ≤ _ from (by omega)) (show _ ≤ (72 : Int) from (by omega))
        have kgO_t11 : gO R_9 := (gO_pop dgO (by omega) (by omega) eR_9)
        have kR_0_9_t12 : R_9 0 9 = zR_0_9 := by rw [eR_9]; exact dR_0_9
        have n13 : (R_9 0 8).toInt = ((R 0 8) - 1).toInt := by rw [eR_9]; rfl
        refine D_ck (okI_of (by omega) (by omega)) ?_
        have n14 : 0 ≤ (R_9 8 (R_9 0 8).toNatClampNeg).toInt ∧ (R_9 8 (R_9 0 8).toNatClampNeg).toInt ≤ 39 := hR_9 8 ((R_9 0 8).toNatClampNeg)
        have n15 : ((10000 : Int32) + (R_9 8 (R_9 0 8).toNatClampNeg)).toInt = 10000 + (R_9 8 (R_9 0 8).toNatClampNeg).toInt := i_addK (by decide) rfl (by clear hx2 hz hN0 hN n2 kc1 p6 p7 kc8 n10 n13; omega) (by clear hx2 hz hN0 hN n2 kc1 p6 p7 kc8 n10 n13; omega)
        refine D_bd (t_X1_append j P ((10000 : Int32) + (R_9 8 (R_9 0 8).toNatClampNeg)) hP hj) (fun P_16 eq18 hq17 => ?_)
        obtain ⟨p19, p20⟩ : (iR BP P_16) ∧ (P_16 0 3 = (P 0 3)) := hq17
        have k21 : P_16 0 3 = zP_0_3 := p20.trans dP_0_3
        exact hk0 R_9 P_16 kgO_t11 kR_0_9_t12 k21 hR_9 p19 (by rw [eR_9]; exact h8) (by clear hN0 hN n14 n15; omega) (by omega)
set_option maxHeartbeats 1000000 in
set_option maxRecDepth 100000 in
theorem t_X3_closeSigns (j : Nat) (R : Tr) (P : Tr) (x2 : Int32) (hR : iR BR R) (hP : iR BP P) (dgO : gO R) (hx2 : 1 ≤ x2.toInt ∧ x2.toInt ≤ 7) (hj : j < 3) : D (f_X3_closeSigns j R P x2) (fun (q : Tr × Tr) => (iR BR (q.1)) ∧ (iR BP (q.2)) ∧ (gO (q.1)) ∧ ((q.1) 0 9 = (R 0 9)) ∧ ((q.2) 0 3 = (P 0 3)) ∧ ((q.1) 8 = (R 8)) ∧ (((q.1) 0 8).toInt ≤ (R 0 8).toInt) ∧ (((q.1) 0 8).toInt = 0 ∨ (bindsF ((q.1) 8 (((q.1) 0 8) - 1).toNatClampNeg).toNatClampNeg).toInt < x2.toInt)) := by
  unfold f_X3_closeSigns
  have n23 : 0 ≤ (R 0 8).toInt ∧ (R 0 8).toInt ≤ 72 := hR 0 8
  exact tl_X3_closeSigns_L0 (R 8) (R 0 8) (R 0 9) (P 0 3) j x2 ⟨(by omega), (by omega)⟩ hj   2000 R P dgO rfl rfl hR hP rfl (Int.le_refl _) (by omega)
set_option maxHeartbeats 1000000 in
set_option maxRecDepth 100000 in
theorem t_X3_readJoining (j : Nat) (K : Tr) (R : Tr) (P : Tr) (hK : iR BK K) (hR : iR BR R) (hP : iR BP P) (dnK : nK K) (dgO : gO R) (hj : j < 3) (hk : (R 0 8).toInt ≤ (R 0 9).toInt + (P 0 3).toInt) (hj2 : 19 ≤ (K 0 1).toInt ∧ (K 0 1).toInt ≤ 20 ∨ 29 ≤ (K 0 1).toInt ∧ (K 0 1).toInt ≤ 38) : D (f_X3_readJoining j K R P) (fun (q : Int32 × Tr × Tr) => (0 ≤ (q.1).toInt ∧ (q.1).toInt ≤ 1) ∧ (iR BR (q.2.1)) ∧ (iR BP (q.2.2)) ∧ (gO (q.2.1)) ∧ (((q.2.1) 0 8).toInt ≤ ((q.2.1) 0 9).toInt + ((q.2.2) 0 3).toInt)) := by
  unfold f_X3_readJoining
  have n1 : 0 ≤ (R 0 8).toInt ∧ (R 0 8).toInt ≤ 72 := hR 0 8
  have n2 : 0 ≤ (R 0 9).toInt ∧ (R 0 9).toInt ≤ 8 := hR 0 9
  have n3 : 0 ≤ (P 0 3).toInt ∧ (P 0 3).toInt ≤ 64 := hP 0 3
  have hbj := bindJ hj2
  have n4 : 0 ≤ (K 0 1).toInt ∧ (K 0 1).toInt ≤ 45 := hK 0 1
  refine D_ck (okI_of (by clear hk n1 n2 n3; omega) (by clear hk n1 n2 n3; omega)) ?_
  refine D_lt (fun y5 ey5 => ?_)
  have n6 : 0 ≤ (bindsF (K 0 1).toNatClampNeg).toInt ∧ (bindsF (K 0 1).toNatClampNeg).toInt ≤ 6 := bindsF_rng ((K 0 1).toNatClampNeg)
  have hy5 : y5.toInt = (bindsF (K 0 1).toNatClampNeg).toInt := by rw [ey5]
  refine D_ite (fun c7 => ?_) (fun c7 => ?_)
  · have kc7 := tq_eq (x := y5) (y := (4 : Int32)) rfl (b := 4) (by decide) c7
    unfold fJ_X3_readJoining_J22
    have l1 : (1 : Int32).toInt = 1 := by decide
    have l0 : (0 : Int32).toInt = 0 := by decide
    refine D_ite (fun c8 => ?_) (fun c8 => ?_)
    · have kc8 := tq_eq (x := (1 : Int32)) (y := (0 : Int32)) (a := 1) (by decide) (b := 0) (by decide) c8
      exfalso
      exact (by clear hk hj2 n1 n2 n3 n4 n6 hy5 kc7; omega)
    · skip
      unfold fJ_X3_readJoining_J36
      have n9 : (y5 + 1).toInt = y5.toInt + 1 := i_addK rfl (by decide) (by clear hk hj2 n1 n2 n3 n4; omega) (by clear hk hj2 n1 n2 n3 n4; omega)
      refine D_bd2 (t_X3_closeSigns j R P (y5 + 1) hR hP dgO ⟨(by clear hk hj2 n1 n2 n3 n4; omega), (by clear hk hj2 n1 n2 n3 n4; omega)⟩ hj) (fun R_10 P_11 eq13 hq12 => ?_)
      refine D_lte (y := R_10) rfl ?_
      refine D_lte (y := P_11) rfl ?_
      obtain ⟨p14, p15, p16, p17, p18, p19, p20, p21⟩ : (iR BR R_10) ∧ (iR BP P_11) ∧ (gO R_10) ∧ (R_10 0 9 = (R 0 9)) ∧ (P_11 0 3 = (P 0 3)) ∧ (R_10 8 = (R 8)) ∧ ((R_10 0 8).toInt ≤ (R 0 8).toInt) ∧ ((R_10 0 8).toInt = 0 ∨ (bindsF (R_10 8 ((R_10 0 8) - 1).toNatClampNeg).toNatClampNeg).toInt < (y5 + 1).toInt) := hq12
      have n22 : 0 ≤ (R_10 0 9).toInt ∧ (R_10 0 9).toInt ≤ 8 := p14 0 9
      have kz23 : (R_10 0 9).toInt = (R 0 9).toInt := congrArg Int32.toInt p17
      have n24 : 0 ≤ (R_10 0 8).toInt ∧ (R_10 0 8).toInt ≤ 72 := p14 0 8
      have n25 : 0 ≤ (P_11 0 3).toInt ∧ (P_11 0 3).toInt ≤ 64 := p15 0 3
      have kz26 : (P_11 0 3).toInt = (P 0 3).toInt := congrArg Int32.toInt p18
      refine D_ite (fun c27 => ?_) (fun c27 => ?_)
      · have kc27 := tq_eq (x := (1 : Int32)) (y := (0 : Int32)) (a := 1) (by decide) (b := 0) (by decide) c27
        exfalso
        exact (by clear hk hj2 n1 n2 n3 n4 n6 hy5 kc7 n9 p20 p21 n22 kz23 n24 n25 kz26; omega)
      · skip
        refine D_bd (t_X3_latestBinds R_10 p14) (fun r28 eq30 hq29 => ?_)
        obtain ⟨p31, p32⟩ : ((-1) ≤ r28.toInt ∧ r28.toInt ≤ 6) ∧ ((R_10 0 8).toInt = 0 ∨ r28.toInt = (bindsF (R_10 8 ((R_10 0 8) - 1).toNatClampNeg).toNatClampNeg).toInt) := hq29
        refine D_ite (fun c33 => ?_) (fun c33 => ?_)
        · have kc33 := tq_le (x := y5) (y := r28) rfl rfl c33
          unfold fJ_X3_readJoining_J57
          refine D_bd2 (t_X3_expect K R_10 (0 : Int32) (1 : Int32) hK p14 ⟨(by clear hk hj2 n1 n2 n3 n4 n6 hy5 kc7 n9 p20 p21 n22 kz23 n24 n25 kz26 p31 p32 kc33; omega), (by clear hk hj2 n1 n2 n3 n4 n6 hy5 kc7 n9 p20 p21 n22 kz23 n24 n25 kz26 p31 p32 kc33; omega)⟩) (fun r34 R_35 eq37 hq36 => ?_)
          refine D_lte (y := r34) rfl ?_
          refine D_lte (y := R_35) rfl ?_
          obtain ⟨p38, p39, p40, p41, p42, p43⟩ : (0 ≤ r34.toInt ∧ r34.toInt ≤ 1) ∧ (iR BR R_35) ∧ (R_35 0 8 = (R_10 0 8)) ∧ (R_35 0 9 = (R_10 0 9)) ∧ (r34.toInt = (0 : Int32).toInt) ∧ (R_35 8 = R_10 8) := hq36
          have kgO_t44 : gO R_35 := (gO_congr p16 p43 p40 p41)
          have n45 : 0 ≤ (R_35 0 8).toInt ∧ (R_35 0 8).toInt ≤ 72 := p39 0 8
          have kz46 : (R_35 0 8).toInt = (R_10 0 8).toInt := congrArg Int32.toInt p40
          have n47 : 0 ≤ (R_35 0 9).toInt ∧ (R_35 0 9).toInt ≤ 8 := p39 0 9
          have kz48 : (R_35 0 9).toInt = (R_10 0 9).toInt := congrArg Int32.toInt p41
          refine D_ite (fun c49 => ?_) (fun c49 => ?_)
          · have kc49 := tq_eq (x := r34) (y := (0 : Int32)) rfl (b := 0) (by decide) c49
            exact D_some (show (0 ≤ (0 : Int32).toInt ∧ (0 : Int32).toInt ≤ 1) ∧ (iR BR R_35) ∧ (iR BP P_11) ∧ (gO R_35) ∧ ((R_35 0 8).toInt ≤ (R_35 0 9).toInt + (P_11 0 3).toInt) from ⟨⟨(by clear hk hj2 n1 n2 n3 n4 n6 hy5 kc7 n9 p20 p21 n22 kz23 n24 n25 kz26 p31 p32 kc33 p38 p42 n45 kz46 n47 kz48 kc49; omega), (by clear hk hj2 n1 n2 n3 n4 n6 hy5 kc7 n9 p20 p21 n22 kz23 n24 n25 kz26 p31 p32 kc33 p38 p42 n45 kz46 n47 kz48 kc49; omega)⟩, p39, p15, kgO_t44, (by clear hj2 n4 p38 p42 kc49; omega)⟩)
          · have kc490 := tq_eqn (x := r34) (y := (0 : Int32)) rfl (b := 0) (by decide) c49
            have kc49 : 1 ≤ r34.toInt := (by clear hk hj2 n1 n2 n3 n4 n6 hy5 kc7 n9 p20 p21 n22 kz23 n24 n25 kz26 p31 p32 kc33 n45 kz46 n47 kz48; omega)
            clear kc490
            exfalso
            exact (by clear hk hj2 n1 n2 n3 n4 n6 hy5 kc7 n9 p20 p21 n22 kz23 n24 n25 kz26 p31 p32 kc33 n45 kz46 n47 kz48; omega)
        · have kc33 := tq_len (x := y5) (y := r28) rfl rfl c33
          unfold fJ_X3_readJoining_J52
          unfold fJ_X3_readJoining_J57
          refine D_bd2 (t_X3_expect K R_10 (1 : Int32) (1 : Int32) hK p14 ⟨(by clear hk hj2 n1 n2 n3 n4 n6 hy5 kc7 n9 p20 p21 n22 kz23 n24 n25 kz26 p31 p32 kc33; omega), (by clear hk hj2 n1 n2 n3 n4 n6 hy5 kc7 n9 p20 p21 n22 kz23 n24 n25 kz26 p31 p32 kc33; omega)⟩) (fun r50 R_51 eq53 hq52 => ?_)
          refine D_lte (y := r50) rfl ?_
          refine D_lte (y := R_51) rfl ?_
          obtain ⟨p54, p55, p56, p57, p58, p59⟩ : (0 ≤ r50.toInt ∧ r50.toInt ≤ 1) ∧ (iR BR R_51) ∧ (R_51 0 8 = (R_10 0 8)) ∧ (R_51 0 9 = (R_10 0 9)) ∧ (r50.toInt = (1 : Int32).toInt) ∧ (R_51 8 = R_10 8) := hq52
          have kgO_t60 : gO R_51 := (gO_congr p16 p59 p56 p57)
          have n61 : 0 ≤ (R_51 0 8).toInt ∧ (R_51 0 8).toInt ≤ 72 := p55 0 8
          have kz62 : (R_51 0 8).toInt = (R_10 0 8).toInt := congrArg Int32.toInt p56
          have n63 : 0 ≤ (R_51 0 9).toInt ∧ (R_51 0 9).toInt ≤ 8 := p55 0 9
          have kz64 : (R_51 0 9).toInt = (R_10 0 9).toInt := congrArg Int32.toInt p57
          refine D_ite (fun c65 => ?_) (fun c65 => ?_)
          · have kc65 := tq_eq (x := r50) (y := (0 : Int32)) rfl (b := 0) (by decide) c65
            exfalso
            exact (by clear hk hj2 n1 n2 n3 n4 n6 hy5 kc7 n9 p20 p21 n22 kz23 n24 n25 kz26 p31 p32 kc33 n61 kz62 n63 kz64; omega)
          · skip
            refine D_bd3 (t_X3_countKnot K R_51 P_11 hK p55 p15) (fun r66 R_67 P_68 eq70 hq69 => ?_)
            refine D_lte (y := r66) rfl ?_
            refine D_lte (y := R_67) rfl ?_
            refine D_lte (y := P_68) rfl ?_
            obtain ⟨p71, p72, p73, p74, p75, p76, p77⟩ : (0 ≤ r66.toInt ∧ r66.toInt ≤ 1) ∧ (iR BR R_67) ∧ (iR BP P_68) ∧ (R_67 0 8 = (R_51 0 8)) ∧ (R_67 0 9 = (R_51 0 9)) ∧ (R_67 8 = R_51 8) ∧ ((P_68 0 3).toInt = (P_11 0 3).toInt + r66.toInt) := hq69
            have kgO_t78 : gO R_67 := (gO_congr kgO_t60 p76 p74 p75)
            have n79 : 0 ≤ (R_67 0 8).toInt ∧ (R_67 0 8).toInt ≤ 72 := p72 0 8
            have kz80 : (R_67 0 8).toInt = (R_51 0 8).toInt := congrArg Int32.toInt p74
            have n81 : 0 ≤ (R_67 0 9).toInt ∧ (R_67 0 9).toInt ≤ 8 := p72 0 9
            have kz82 : (R_67 0 9).toInt = (R_51 0 9).toInt := congrArg Int32.toInt p75
            have n83 : 0 ≤ (P_68 0 3).toInt ∧ (P_68 0 3).toInt ≤ 64 := p73 0 3
            refine D_ite (fun c84 => ?_) (fun c84 => ?_)
            · have kc84 := tq_eq (x := r66) (y := (0 : Int32)) rfl (b := 0) (by decide) c84
              exact D_some (show (0 ≤ (0 : Int32).toInt ∧ (0 : Int32).toInt ≤ 1) ∧ (iR BR R_67) ∧ (iR BP P_68) ∧ (gO R_67) ∧ ((R_67 0 8).toInt ≤ (R_67 0 9).toInt + (P_68 0 3).toInt) from ⟨⟨(by clear hk hj2 n1 n2 n3 n4 n6 hy5 kc7 n9 p20 p21 n22 kz23 n24 n25 kz26 p31 p32 kc33 p54 p58 n61 kz62 n63 kz64 p71 p77 n79 kz80 n81 kz82 n83 kc84; omega), (by clear hk hj2 n1 n2 n3 n4 n6 hy5 kc7 n9 p20 p21 n22 kz23 n24 n25 kz26 p31 p32 kc33 p54 p58 n61 kz62 n63 kz64 p71 p77 n79 kz80 n81 kz82 n83 kc84; omega)⟩, p72, p73, kgO_t78, (by clear hj2 n4 p54 p58; omega)⟩)
            · have kc840 := tq_eqn (x := r66) (y := (0 : Int32)) rfl (b := 0) (by decide) c84
              have kc84 : 1 ≤ r66.toInt := (by clear hj2 n4 p54 p58; omega)
              clear kc840
              refine D_bd2 (t_X3_openSign R_67 (K 0 1) p72 ⟨(by clear hk n1 n2 n3 n6 hy5 kc7 n9 p20 p21 n22 kz23 n24 n25 kz26 p31 p32 kc33 p54 p58 n61 kz62 n63 kz64 p71 p77 n79 kz80 n81 kz82 n83 kc84; omega), (by clear hk n1 n2 n3 n6 hy5 kc7 n9 p20 p21 n22 kz23 n24 n25 kz26 p31 p32 kc33 p54 p58 n61 kz62 n63 kz64 p71 p77 n79 kz80 n81 kz82 n83 kc84; omega)⟩ (by first | assumption | exact (by clear hj2 n4 p54 p58; omega))) (fun r85 R_86 eq88 hq87 => ?_)
              refine D_lte (y := r85) rfl ?_
              refine D_lte (y := R_86) rfl ?_
              obtain ⟨p89, p90, p91, p92, p93⟩ : (1 ≤ r85.toInt ∧ r85.toInt ≤ 1) ∧ (iR BR R_86) ∧ (R_86 0 9 = (R_67 0 9)) ∧ (R_86 8 = upd (R_67 8) (R_67 0 8).toNatClampNeg (K 0 1)) ∧ ((R_86 0 8).toInt = (R_67 0 8).toInt + 1) := hq87
              have kgO_t94 : gO R_86 := (gO_push (b := 0) kgO_t78 (by omega) p92 p93 (by rw [p91, ne39 hbj]; simp) (bindJ39 hbj))
              have n95 : 0 ≤ (R_86 0 9).toInt ∧ (R_86 0 9).toInt ≤ 8 := p90 0 9
              have kz96 : (R_86 0 9).toInt = (R_67 0 9).toInt := congrArg Int32.toInt p91
              have n97 : 0 ≤ (R_86 0 8).toInt ∧ (R_86 0 8).toInt ≤ 72 := p90 0 8
              refine D_ite (fun c98 => ?_) (fun c98 => ?_)
              · have kc98 := tq_eq (x := r85) (y := (0 : Int32)) rfl (b := 0) (by decide) c98
                exfalso
                exact (by clear hk hj2 n1 n2 n3 n4 n6 hy5 kc7 n9 p20 p21 n22 kz23 n24 n25 kz26 p31 p32 kc33 p54 p58 n61 kz62 n63 kz64 p71 p77 n79 kz80 n81 kz82 n83 kc84 p93 n95 kz96 n97; omega)
              · skip
                exact D_some (show (0 ≤ (1 : Int32).toInt ∧ (1 : Int32).toInt ≤ 1) ∧ (iR BR R_86) ∧ (iR BP P_68) ∧ (gO R_86) ∧ ((R_86 0 8).toInt ≤ (R_86 0 9).toInt + (P_68 0 3).toInt) from ⟨⟨(by clear hk hj2 n1 n2 n3 n4 n6 hy5 kc7 n9 p20 p21 n22 kz23 n24 n25 kz26 p31 p32 kc33 p54 p58 n61 kz62 n63 kz64 p71 p77 n79 kz80 n81 kz82 n83 kc84 p89 p93 n95 kz96 n97; omega), (by clear hk hj2 n1 n2 n3 n4 n6 hy5 kc7 n9 p20 p21 n22 kz23 n24 n25 kz26 p31 p32 kc33 p54 p58 n61 kz62 n63 kz64 p71 p77 n79 kz80 n81 kz82 n83 kc84 p89 p93 n95 kz96 n97; omega)⟩, p90, p73, kgO_t94, (by clear hj2 n4 p54 p58 p89; omega)⟩)
  · skip
    unfold fJ_X3_readJoining_J22
    have l0 : (0 : Int32).toInt = 0 := by decide
    refine D_ite (fun c99 => ?_) (fun c99 => ?_)
    · have kc99 := tq_eq (x := (0 : Int32)) (y := (0 : Int32)) rfl rfl c99
      unfold fJ_X3_readJoining_J36
      refine D_bd2 (t_X3_closeSigns j R P y5 hR hP dgO ⟨(by clear hk hj2 n1 n2 n3 n4; omega), (by clear hk hj2 n1 n2 n3 n4; omega)⟩ hj) (fun R_100 P_101 eq103 hq102 => ?_)
      refine D_lte (y := R_100) rfl ?_
      refine D_lte (y := P_101) rfl ?_
      obtain ⟨p104, p105, p106, p107, p108, p109, p110, p111⟩ : (iR BR R_100) ∧ (iR BP P_101) ∧ (gO R_100) ∧ (R_100 0 9 = (R 0 9)) ∧ (P_101 0 3 = (P 0 3)) ∧ (R_100 8 = (R 8)) ∧ ((R_100 0 8).toInt ≤ (R 0 8).toInt) ∧ ((R_100 0 8).toInt = 0 ∨ (bindsF (R_100 8 ((R_100 0 8) - 1).toNatClampNeg).toNatClampNeg).toInt < y5.toInt) := hq102
      have n112 : 0 ≤ (R_100 0 9).toInt ∧ (R_100 0 9).toInt ≤ 8 := p104 0 9
      have kz113 : (R_100 0 9).toInt = (R 0 9).toInt := congrArg Int32.toInt p107
      have n114 : 0 ≤ (R_100 0 8).toInt ∧ (R_100 0 8).toInt ≤ 72 := p104 0 8
      have n115 : 0 ≤ (P_101 0 3).toInt ∧ (P_101 0 3).toInt ≤ 64 := p105 0 3
      have kz116 : (P_101 0 3).toInt = (P 0 3).toInt := congrArg Int32.toInt p108
      refine D_ite (fun c117 => ?_) (fun c117 => ?_)
      · have kc117 := tq_eq (x := (0 : Int32)) (y := (0 : Int32)) rfl rfl c117
        unfold fJ_X3_readJoining_J52
        unfold fJ_X3_readJoining_J57
        have l1 : (1 : Int32).toInt = 1 := by decide
        refine D_bd2 (t_X3_expect K R_100 (1 : Int32) (1 : Int32) hK p104 ⟨(by clear hk hj2 n1 n2 n3 n4 n6 hy5 p110 p111 n112 kz113 n114 n115 kz116; omega), (by clear hk hj2 n1 n2 n3 n4 n6 hy5 p110 p111 n112 kz113 n114 n115 kz116; omega)⟩) (fun r118 R_119 eq121 hq120 => ?_)
        refine D_lte (y := r118) rfl ?_
        refine D_lte (y := R_119) rfl ?_
        obtain ⟨p122, p123, p124, p125, p126, p127⟩ : (0 ≤ r118.toInt ∧ r118.toInt ≤ 1) ∧ (iR BR R_119) ∧ (R_119 0 8 = (R_100 0 8)) ∧ (R_119 0 9 = (R_100 0 9)) ∧ (r118.toInt = (1 : Int32).toInt) ∧ (R_119 8 = R_100 8) := hq120
        have kgO_t128 : gO R_119 := (gO_congr p106 p127 p124 p125)
        have n129 : 0 ≤ (R_119 0 8).toInt ∧ (R_119 0 8).toInt ≤ 72 := p123 0 8
        have kz130 : (R_119 0 8).toInt = (R_100 0 8).toInt := congrArg Int32.toInt p124
        have n131 : 0 ≤ (R_119 0 9).toInt ∧ (R_119 0 9).toInt ≤ 8 := p123 0 9
        have kz132 : (R_119 0 9).toInt = (R_100 0 9).toInt := congrArg Int32.toInt p125
        refine D_ite (fun c133 => ?_) (fun c133 => ?_)
        · have kc133 := tq_eq (x := r118) (y := (0 : Int32)) rfl (b := 0) (by decide) c133
          exfalso
          exact (by clear hk hj2 n1 n2 n3 n4 n6 hy5 p110 p111 n112 kz113 n114 n115 kz116 n129 kz130 n131 kz132; omega)
        · skip
          refine D_bd3 (t_X3_countKnot K R_119 P_101 hK p123 p105) (fun r134 R_135 P_136 eq138 hq137 => ?_)
          refine D_lte (y := r134) rfl ?_
          refine D_lte (y := R_135) rfl ?_
          refine D_lte (y := P_136) rfl ?_
          obtain ⟨p139, p140, p141, p142, p143, p144, p145⟩ : (0 ≤ r134.toInt ∧ r134.toInt ≤ 1) ∧ (iR BR R_135) ∧ (iR BP P_136) ∧ (R_135 0 8 = (R_119 0 8)) ∧ (R_135 0 9 = (R_119 0 9)) ∧ (R_135 8 = R_119 8) ∧ ((P_136 0 3).toInt = (P_101 0 3).toInt + r134.toInt) := hq137
          have kgO_t146 : gO R_135 := (gO_congr kgO_t128 p144 p142 p143)
          have n147 : 0 ≤ (R_135 0 8).toInt ∧ (R_135 0 8).toInt ≤ 72 := p140 0 8
          have kz148 : (R_135 0 8).toInt = (R_119 0 8).toInt := congrArg Int32.toInt p142
          have n149 : 0 ≤ (R_135 0 9).toInt ∧ (R_135 0 9).toInt ≤ 8 := p140 0 9
          have kz150 : (R_135 0 9).toInt = (R_119 0 9).toInt := congrArg Int32.toInt p143
          have n151 : 0 ≤ (P_136 0 3).toInt ∧ (P_136 0 3).toInt ≤ 64 := p141 0 3
          refine D_ite (fun c152 => ?_) (fun c152 => ?_)
          · have kc152 := tq_eq (x := r134) (y := (0 : Int32)) rfl (b := 0) (by decide) c152
            exact D_some (show (0 ≤ (0 : Int32).toInt ∧ (0 : Int32).toInt ≤ 1) ∧ (iR BR R_135) ∧ (iR BP P_136) ∧ (gO R_135) ∧ ((R_135 0 8).toInt ≤ (R_135 0 9).toInt + (P_136 0 3).toInt) from ⟨⟨(by clear hk hj2 n1 n2 n3 n4 n6 hy5 p110 p111 n112 kz113 n114 n115 kz116 p122 p126 n129 kz130 n131 kz132 p139 p145 n147 kz148 n149 kz150 n151 kc152; omega), (by clear hk hj2 n1 n2 n3 n4 n6 hy5 p110 p111 n112 kz113 n114 n115 kz116 p122 p126 n129 kz130 n131 kz132 p139 p145 n147 kz148 n149 kz150 n151 kc152; omega)⟩, p140, p141, kgO_t146, (by clear hj2 n4 p122 p126; omega)⟩)
          · have kc1520 := tq_eqn (x := r134) (y := (0 : Int32)) rfl (b := 0) (by decide) c152
            have kc152 : 1 ≤ r134.toInt := (by clear hj2 n4 p122 p126; omega)
            clear kc1520
            refine D_bd2 (t_X3_openSign R_135 (K 0 1) p140 ⟨(by clear hk n1 n2 n3 n6 hy5 p110 p111 n112 kz113 n114 n115 kz116 p122 p126 n129 kz130 n131 kz132 p139 p145 n147 kz148 n149 kz150 n151 kc152; omega), (by clear hk n1 n2 n3 n6 hy5 p110 p111 n112 kz113 n114 n115 kz116 p122 p126 n129 kz130 n131 kz132 p139 p145 n147 kz148 n149 kz150 n151 kc152; omega)⟩ (by first | assumption | exact (by clear hj2 n4 p122 p126; omega))) (fun r153 R_154 eq156 hq155 => ?_)
            refine D_lte (y := r153) rfl ?_
            refine D_lte (y := R_154) rfl ?_
            obtain ⟨p157, p158, p159, p160, p161⟩ : (1 ≤ r153.toInt ∧ r153.toInt ≤ 1) ∧ (iR BR R_154) ∧ (R_154 0 9 = (R_135 0 9)) ∧ (R_154 8 = upd (R_135 8) (R_135 0 8).toNatClampNeg (K 0 1)) ∧ ((R_154 0 8).toInt = (R_135 0 8).toInt + 1) := hq155
            have kgO_t162 : gO R_154 := (gO_push (b := 0) kgO_t146 (by omega) p160 p161 (by rw [p159, ne39 hbj]; simp) (bindJ39 hbj))
            have n163 : 0 ≤ (R_154 0 9).toInt ∧ (R_154 0 9).toInt ≤ 8 := p158 0 9
            have kz164 : (R_154 0 9).toInt = (R_135 0 9).toInt := congrArg Int32.toInt p159
            have n165 : 0 ≤ (R_154 0 8).toInt ∧ (R_154 0 8).toInt ≤ 72 := p158 0 8
            refine D_ite (fun c166 => ?_) (fun c166 => ?_)
            · have kc166 := tq_eq (x := r153) (y := (0 : Int32)) rfl (b := 0) (by decide) c166
              exfalso
              exact (by clear hk hj2 n1 n2 n3 n4 n6 hy5 p110 p111 n112 kz113 n114 n115 kz116 p122 p126 n129 kz130 n131 kz132 p139 p145 n147 kz148 n149 kz150 n151 kc152 p161 n163 kz164 n165; omega)
            · skip
              exact D_some (show (0 ≤ (1 : Int32).toInt ∧ (1 : Int32).toInt ≤ 1) ∧ (iR BR R_154) ∧ (iR BP P_136) ∧ (gO R_154) ∧ ((R_154 0 8).toInt ≤ (R_154 0 9).toInt + (P_136 0 3).toInt) from ⟨⟨(by clear hk hj2 n1 n2 n3 n4 n6 hy5 p110 p111 n112 kz113 n114 n115 kz116 p122 p126 n129 kz130 n131 kz132 p139 p145 n147 kz148 n149 kz150 n151 kc152 p157 p161 n163 kz164 n165; omega), (by clear hk hj2 n1 n2 n3 n4 n6 hy5 p110 p111 n112 kz113 n114 n115 kz116 p122 p126 n129 kz130 n131 kz132 p139 p145 n147 kz148 n149 kz150 n151 kc152 p157 p161 n163 kz164 n165; omega)⟩, p158, p141, kgO_t162, (by clear hj2 n4 p122 p126 p157; omega)⟩)
      · have kc1170 := tq_eqn (x := (0 : Int32)) (y := (0 : Int32)) rfl rfl c117
        have kc117 : 1 ≤ (0 : Int32).toInt := (by clear hk hj2 n1 n2 n3 n4 n6 hy5 p110 p111 n112 kz113 n114 n115 kz116; omega)
        clear kc1170
        exfalso
        exact (by clear hk hj2 n1 n2 n3 n4 n6 hy5 p110 p111 n112 kz113 n114 n115 kz116; omega)
    · have kc990 := tq_eqn (x := (0 : Int32)) (y := (0 : Int32)) rfl rfl c99
      have kc99 : 1 ≤ (0 : Int32).toInt := (by clear hk hj2 n1 n2 n3 n4 n6 hy5; omega)
      clear kc990
      exfalso
      exact (by clear hk hj2 n1 n2 n3 n4 n6 hy5; omega)
set_option maxHeartbeats 1000000 in
set_option maxRecDepth 100000 in
theorem t_X3_closeBracket (j : Nat) (R : Tr) (P : Tr) (hR : iR BR R) (hP : iR BP P) (dgO : gO R) (hj : j < 3) (hb : 1 ≤ (R 0 9).toInt) : D (f_X3_closeBracket j R P) (fun (q : Tr × Tr) => (iR BR (q.1)) ∧ (iR BP (q.2)) ∧ (gO (q.1)) ∧ ((q.2) 0 3 = (P 0 3)) ∧ (((q.1) 0 9).toInt = (R 0 9).toInt - 1) ∧ (((q.1) 0 8).toInt ≤ (R 0 8).toInt - 1)) := by
  unfold f_X3_closeBracket
  have l1 : (1 : Int32).toInt = 1 := by decide
  refine D_bd2 (t_X3_closeSigns j R P (1 : Int32) hR hP dgO ⟨(by omega), (by omega)⟩ hj) (fun R_1 P_2 eq4 hq3 => ?_)
  refine D_lte (y := R_1) rfl ?_
  refine D_lte (y := P_2) rfl ?_
  obtain ⟨p5, p6, p7, p8, p9, p10, p11, p12⟩ : (iR BR R_1) ∧ (iR BP P_2) ∧ (gO R_1) ∧ (R_1 0 9 = (R 0 9)) ∧ (P_2 0 3 = (P 0 3)) ∧ (R_1 8 = (R 8)) ∧ ((R_1 0 8).toInt ≤ (R 0 8).toInt) ∧ ((R_1 0 8).toInt = 0 ∨ (bindsF (R_1 8 ((R_1 0 8) - 1).toNatClampNeg).toNatClampNeg).toInt < (1 : Int32).toInt) := hq3
  have k13 : R_1 0 9 = (R 0 9) := p8
  have k14 : P_2 0 3 = (P 0 3) := p9
  have n15 : 0 ≤ (R_1 0 8).toInt ∧ (R_1 0 8).toInt ≤ 72 := p5 0 8
  have n16 : 0 ≤ (R_1 0 9).toInt ∧ (R_1 0 9).toInt ≤ 8 := p5 0 9
  have n17 : 0 ≤ (R 0 9).toInt ∧ (R 0 9).toInt ≤ 8 := hR 0 9
  have kz18 : (R_1 0 9).toInt = (R 0 9).toInt := congrArg Int32.toInt p8
  have hpos := gO_pos p7 (by omega) (by omega)
  have n20 : ((R_1 0 8) - 1).toInt = (R_1 0 8).toInt - 1 := i_subK rfl (by decide) (by clear hb n16 n17 kz18; omega) (by clear hb n16 n17 kz18; omega)
  refine D_lt (fun R_19 eR_19 => ?_)
  have hR_19 : iR BR R_19 := by rw [eR_19]; exact iR_set p5 (show (0 : Int) ≤ _ from (by clear hb n16 n17 kz18; omega)) (show _ ≤ (72 : Int) from (by clear hb n16 n17 kz18; omega))
  have kR_0_9_t22 : R_19 0 9 = (R 0 9) := by rw [eR_19]; exact k13
  have n23 : (R_19 0 9).toInt = (R_1 0 9).toInt := by rw [eR_19]; rfl
  have n24 : (R_19 0 8).toInt = ((R_1 0 8) - 1).toInt := by rw [eR_19]; rfl
  have n26 : ((R_19 0 9) - 1).toInt = (R_19 0 9).toInt - 1 := i_subK rfl (by decide) (by clear p11 p12 n15 n20 n24; omega) (by clear p11 p12 n15 n20 n24; omega)
  refine D_lt (fun R_25 eR_25 => ?_)
  have hR_25 : iR BR R_25 := by rw [eR_25]; exact iR_set hR_19 (show (0 : Int) ≤ _ from (by clear p11 p12 n15 n20 n24; omega)) (show _ ≤ (8 : Int) from (by clear p11 p12 n15 n20 n24; omega))
  have kgO_t27 : gO R_25 := (gO_popB p7 (by omega) (by omega) (by omega) eR_19 eR_25)
  have n29 : (R_25 0 8).toInt = (R_19 0 8).toInt := by rw [eR_25]; rfl
  have n30 : (R_25 0 9).toInt = ((R_19 0 9) - 1).toInt := by rw [eR_25]; rfl
  exact D_some (show (iR BR R_25) ∧ (iR BP P_2) ∧ (gO R_25) ∧ (P_2 0 3 = (P 0 3)) ∧ ((R_25 0 9).toInt = (R 0 9).toInt - 1) ∧ ((R_25 0 8).toInt ≤ (R 0 8).toInt - 1) from ⟨hR_25, p6, kgO_t27, k14, (by clear p11 p12 n15 n20 n24 n29; omega), (by clear hb n16 n17 kz18 n23 n26 n30; omega)⟩)
set_option maxHeartbeats 1000000 in
set_option maxRecDepth 100000 in
theorem tl_X3_readFormula_L17 (j : Nat) (hj : j < 3)   (N : Nat) : ∀ (x2 : Int32) (x3 : Int32) (x4 : Int32) (K : Tr) (R : Tr) (P : Tr), nK K → gO R → iR BK K → iR BR R → iR BP P → 0 ≤ x4.toInt ∧ x4.toInt ≤ 1000 → (R 0 8).toInt ≤ (R 0 9).toInt + (P 0 3).toInt → 1000 - x4.toInt < (N : Int) → D (lpF (fun _ _ _ _ _ _ => none) (fB_X3_readFormula_L17 j) N x2 x3 x4 K R P) (fun (q : Int32 × Tr × Tr × Tr) => (0 ≤ (q.1).toInt ∧ (q.1).toInt ≤ 1) ∧ (iR BK (q.2.1)) ∧ (iR BR (q.2.2.1)) ∧ (iR BP (q.2.2.2)) ∧ (nK (q.2.1))) := by
  induction N with
  | zero =>
    intro x2 x3 x4 K R P dnK dgO hK hR hP hx4 hk hN
    exfalso
    omega
  | succ N17 ih =>
    intro x2 x3 x4 K R P dnK dgO hK hR hP hx4 hk hN
    have hk17 : ∀ (x2 : Int32) (x3 : Int32) (x4 : Int32) (K : Tr) (R : Tr) (P : Tr), nK K → gO R → iR BK K → iR BR R → iR BP P → 0 ≤ x4.toInt ∧ x4.toInt ≤ 1000 → (R 0 8).toInt ≤ (R 0 9).toInt + (P 0 3).toInt → 1000 - x4.toInt < (N17 : Int) → D (lpF (fun _ _ _ _ _ _ => none) (fB_X3_readFormula_L17 j) N17 x2 x3 x4 K R P) (fun (q : Int32 × Tr × Tr × Tr) => (0 ≤ (q.1).toInt ∧ (q.1).toInt ≤ 1) ∧ (iR BK (q.2.1)) ∧ (iR BR (q.2.2.1)) ∧ (iR BP (q.2.2.2)) ∧ (nK (q.2.1))) := ih
    show D (fB_X3_readFormula_L17 j (lpF (fun _ _ _ _ _ _ => none) (fB_X3_readFormula_L17 j) N17) x2 x3 x4 K R P) _
    generalize lpF (fun _ _ _ _ _ _ => none) (fB_X3_readFormula_L17 j) N17 = k17 at hk17 ⊢
    have hN17 : 1000 - x4.toInt < (N17 : Int) + 1 := by omega
    clear ih
    unfold fB_X3_readFormula_L17
    refine D_ite (fun c8 => ?_) (fun c8 => ?_)
    · have kc8 := tq_lt (x := (700 : Int32)) (y := x4) (a := 700) (by decide) rfl c8
      unfold fJ_X3_readFormula_J147
      have l1 : (1 : Int32).toInt = 1 := by decide
      refine D_bd2 (t_X3_closeSigns j R P (1 : Int32) hR hP dgO ⟨(by clear hx4 hk hN17 hN kc8; omega), (by clear hx4 hk hN17 hN kc8; omega)⟩ hj) (fun R_9 P_10 eq12 hq11 => ?_)
      refine D_lte (y := R_9) rfl ?_
      refine D_lte (y := P_10) rfl ?_
      obtain ⟨p13, p14, p15, p16, p17, p18, p19, p20⟩ : (iR BR R_9) ∧ (iR BP P_10) ∧ (gO R_9) ∧ (R_9 0 9 = (R 0 9)) ∧ (P_10 0 3 = (P 0 3)) ∧ (R_9 8 = (R 8)) ∧ ((R_9 0 8).toInt ≤ (R 0 8).toInt) ∧ ((R_9 0 8).toInt = 0 ∨ (bindsF (R_9 8 ((R_9 0 8) - 1).toNatClampNeg).toNatClampNeg).toInt < (1 : Int32).toInt) := hq11
      have n22 := i_rng (R_9 0 1)
      refine D_ite (fun c21 => ?_) (fun c21 => ?_)
      · have kc21 := tq_eq (x := (R_9 0 1)) (y := (0 : Int32)) rfl (b := 0) (by decide) c21
        have n24 : 0 ≤ (R_9 0 9).toInt ∧ (R_9 0 9).toInt ≤ 8 := p13 0 9
        refine D_ite (fun c23 => ?_) (fun c23 => ?_)
        · have kc23 := tq_eq (x := (R_9 0 9)) (y := (0 : Int32)) rfl (b := 0) (by decide) c23
          unfold fJ_X3_readFormula_J173
          refine D_bd2 (t_X3_expect K R_9 (1 : Int32) (1 : Int32) hK p13 ⟨(by clear hx4 hk hN17 hN kc8 p19 p20 n22 kc21 n24 kc23; omega), (by clear hx4 hk hN17 hN kc8 p19 p20 n22 kc21 n24 kc23; omega)⟩) (fun r25 R_26 eq28 hq27 => ?_)
          refine D_lte (y := r25) rfl ?_
          refine D_lte (y := R_26) rfl ?_
          obtain ⟨p29, p30, p31, p32, p33, p34⟩ : (0 ≤ r25.toInt ∧ r25.toInt ≤ 1) ∧ (iR BR R_26) ∧ (R_26 0 8 = (R_9 0 8)) ∧ (R_26 0 9 = (R_9 0 9)) ∧ (r25.toInt = (1 : Int32).toInt) ∧ (R_26 8 = R_9 8) := hq27
          refine D_ite (fun c35 => ?_) (fun c35 => ?_)
          · have kc35 := tq_eq (x := r25) (y := (0 : Int32)) rfl (b := 0) (by decide) c35
            exfalso
            exact (by clear hx4 hk hN17 hN kc8 p19 p20 n22 kc21 n24 kc23; omega)
          · skip
            exact D_some (show (0 ≤ (1 : Int32).toInt ∧ (1 : Int32).toInt ≤ 1) ∧ (iR BK K) ∧ (iR BR R_26) ∧ (iR BP P_10) ∧ (nK K) from ⟨⟨(by clear hx4 hk hN17 hN kc8 p19 p20 n22 kc21 n24 kc23 p29 p33; omega), (by clear hx4 hk hN17 hN kc8 p19 p20 n22 kc21 n24 kc23 p29 p33; omega)⟩, hK, p30, p14, dnK⟩)
        · have kc230 := tq_eqn (x := (R_9 0 9)) (y := (0 : Int32)) rfl (b := 0) (by decide) c23
          have kc23 : 1 ≤ (R_9 0 9).toInt := (by clear hx4 hk hN17 hN kc8 p19 p20 n22 kc21; omega)
          clear kc230
          unfold fJ_X3_readFormula_J173
          have l0 : (0 : Int32).toInt = 0 := by decide
          refine D_bd2 (t_X3_expect K R_9 (0 : Int32) (1 : Int32) hK p13 ⟨(by clear hx4 hk hN17 hN kc8 p19 p20 n22 kc21 n24 kc23; omega), (by clear hx4 hk hN17 hN kc8 p19 p20 n22 kc21 n24 kc23; omega)⟩) (fun r36 R_37 eq39 hq38 => ?_)
          refine D_lte (y := r36) rfl ?_
          refine D_lte (y := R_37) rfl ?_
          obtain ⟨p40, p41, p42, p43, p44, p45⟩ : (0 ≤ r36.toInt ∧ r36.toInt ≤ 1) ∧ (iR BR R_37) ∧ (R_37 0 8 = (R_9 0 8)) ∧ (R_37 0 9 = (R_9 0 9)) ∧ (r36.toInt = (0 : Int32).toInt) ∧ (R_37 8 = R_9 8) := hq38
          refine D_ite (fun c46 => ?_) (fun c46 => ?_)
          · have kc46 := tq_eq (x := r36) (y := (0 : Int32)) rfl (b := 0) (by decide) c46
            exact D_some (show (0 ≤ (0 : Int32).toInt ∧ (0 : Int32).toInt ≤ 1) ∧ (iR BK K) ∧ (iR BR R_37) ∧ (iR BP P_10) ∧ (nK K) from ⟨⟨(by clear hx4 hk hN17 hN kc8 p19 p20 n22 kc21 n24 kc23 p40 p44 kc46; omega), (by clear hx4 hk hN17 hN kc8 p19 p20 n22 kc21 n24 kc23 p40 p44 kc46; omega)⟩, hK, p41, p14, dnK⟩)
          · have kc460 := tq_eqn (x := r36) (y := (0 : Int32)) rfl (b := 0) (by decide) c46
            have kc46 : 1 ≤ r36.toInt := (by clear hx4 hk hN17 hN kc8 p19 p20 n22 kc21 n24 kc23; omega)
            clear kc460
            exfalso
            exact (by clear hx4 hk hN17 hN kc8 p19 p20 n22 kc21 n24 kc23; omega)
      · skip
        have l0 : (0 : Int32).toInt = 0 := by decide
        exact D_some (show (0 ≤ (0 : Int32).toInt ∧ (0 : Int32).toInt ≤ 1) ∧ (iR BK K) ∧ (iR BR R_9) ∧ (iR BP P_10) ∧ (nK K) from ⟨⟨(by clear hx4 hk hN17 hN kc8 p19 p20 n22; omega), (by clear hx4 hk hN17 hN kc8 p19 p20 n22; omega)⟩, hK, p13, p14, dnK⟩)
    · have kc8 := tq_ltn (x := (700 : Int32)) (y := x4) (a := 700) (by decide) rfl c8
      have n48 := i_rng x3
      refine D_ite (fun c47 => ?_) (fun c47 => ?_)
      · have kc47 := tq_eq (x := x3) (y := (0 : Int32)) rfl (b := 0) (by decide) c47
        unfold fJ_X3_readFormula_J147
        have l1 : (1 : Int32).toInt = 1 := by decide
        refine D_bd2 (t_X3_closeSigns j R P (1 : Int32) hR hP dgO ⟨(by clear hx4 hk hN17 hN kc8 n48 kc47; omega), (by clear hx4 hk hN17 hN kc8 n48 kc47; omega)⟩ hj) (fun R_49 P_50 eq52 hq51 => ?_)
        refine D_lte (y := R_49) rfl ?_
        refine D_lte (y := P_50) rfl ?_
        obtain ⟨p53, p54, p55, p56, p57, p58, p59, p60⟩ : (iR BR R_49) ∧ (iR BP P_50) ∧ (gO R_49) ∧ (R_49 0 9 = (R 0 9)) ∧ (P_50 0 3 = (P 0 3)) ∧ (R_49 8 = (R 8)) ∧ ((R_49 0 8).toInt ≤ (R 0 8).toInt) ∧ ((R_49 0 8).toInt = 0 ∨ (bindsF (R_49 8 ((R_49 0 8) - 1).toNatClampNeg).toNatClampNeg).toInt < (1 : Int32).toInt) := hq51
        have n62 := i_rng (R_49 0 1)
        refine D_ite (fun c61 => ?_) (fun c61 => ?_)
        · have kc61 := tq_eq (x := (R_49 0 1)) (y := (0 : Int32)) rfl (b := 0) (by decide) c61
          have n64 : 0 ≤ (R_49 0 9).toInt ∧ (R_49 0 9).toInt ≤ 8 := p53 0 9
          refine D_ite (fun c63 => ?_) (fun c63 => ?_)
          · have kc63 := tq_eq (x := (R_49 0 9)) (y := (0 : Int32)) rfl (b := 0) (by decide) c63
            unfold fJ_X3_readFormula_J173
            refine D_bd2 (t_X3_expect K R_49 (1 : Int32) (1 : Int32) hK p53 ⟨(by clear hx4 hk hN17 hN kc8 n48 kc47 p59 p60 n62 kc61 n64 kc63; omega), (by clear hx4 hk hN17 hN kc8 n48 kc47 p59 p60 n62 kc61 n64 kc63; omega)⟩) (fun r65 R_66 eq68 hq67 => ?_)
            refine D_lte (y := r65) rfl ?_
            refine D_lte (y := R_66) rfl ?_
            obtain ⟨p69, p70, p71, p72, p73, p74⟩ : (0 ≤ r65.toInt ∧ r65.toInt ≤ 1) ∧ (iR BR R_66) ∧ (R_66 0 8 = (R_49 0 8)) ∧ (R_66 0 9 = (R_49 0 9)) ∧ (r65.toInt = (1 : Int32).toInt) ∧ (R_66 8 = R_49 8) := hq67
            refine D_ite (fun c75 => ?_) (fun c75 => ?_)
            · have kc75 := tq_eq (x := r65) (y := (0 : Int32)) rfl (b := 0) (by decide) c75
              exfalso
              exact (by clear hx4 hk hN17 hN kc8 n48 kc47 p59 p60 n62 kc61 n64 kc63; omega)
            · skip
              exact D_some (show (0 ≤ (1 : Int32).toInt ∧ (1 : Int32).toInt ≤ 1) ∧ (iR BK K) ∧ (iR BR R_66) ∧ (iR BP P_50) ∧ (nK K) from ⟨⟨(by clear hx4 hk hN17 hN kc8 n48 kc47 p59 p60 n62 kc61 n64 kc63 p69 p73; omega), (by clear hx4 hk hN17 hN kc8 n48 kc47 p59 p60 n62 kc61 n64 kc63 p69 p73; omega)⟩, hK, p70, p54, dnK⟩)
          · have kc630 := tq_eqn (x := (R_49 0 9)) (y := (0 : Int32)) rfl (b := 0) (by decide) c63
            have kc63 : 1 ≤ (R_49 0 9).toInt := (by clear hx4 hk hN17 hN kc8 n48 kc47 p59 p60 n62 kc61; omega)
            clear kc630
            unfold fJ_X3_readFormula_J173
            have l0 : (0 : Int32).toInt = 0 := by decide
            refine D_bd2 (t_X3_expect K R_49 (0 : Int32) (1 : Int32) hK p53 ⟨(by clear hx4 hk hN17 hN kc8 n48 kc47 p59 p60 n62 kc61 n64 kc63; omega), (by clear hx4 hk hN17 hN kc8 n48 kc47 p59 p60 n62 kc61 n64 kc63; omega)⟩) (fun r76 R_77 eq79 hq78 => ?_)
            refine D_lte (y := r76) rfl ?_
            refine D_lte (y := R_77) rfl ?_
            obtain ⟨p80, p81, p82, p83, p84, p85⟩ : (0 ≤ r76.toInt ∧ r76.toInt ≤ 1) ∧ (iR BR R_77) ∧ (R_77 0 8 = (R_49 0 8)) ∧ (R_77 0 9 = (R_49 0 9)) ∧ (r76.toInt = (0 : Int32).toInt) ∧ (R_77 8 = R_49 8) := hq78
            refine D_ite (fun c86 => ?_) (fun c86 => ?_)
            · have kc86 := tq_eq (x := r76) (y := (0 : Int32)) rfl (b := 0) (by decide) c86
              exact D_some (show (0 ≤ (0 : Int32).toInt ∧ (0 : Int32).toInt ≤ 1) ∧ (iR BK K) ∧ (iR BR R_77) ∧ (iR BP P_50) ∧ (nK K) from ⟨⟨(by clear hx4 hk hN17 hN kc8 n48 kc47 p59 p60 n62 kc61 n64 kc63 p80 p84 kc86; omega), (by clear hx4 hk hN17 hN kc8 n48 kc47 p59 p60 n62 kc61 n64 kc63 p80 p84 kc86; omega)⟩, hK, p81, p54, dnK⟩)
            · have kc860 := tq_eqn (x := r76) (y := (0 : Int32)) rfl (b := 0) (by decide) c86
              have kc86 : 1 ≤ r76.toInt := (by clear hx4 hk hN17 hN kc8 n48 kc47 p59 p60 n62 kc61 n64 kc63; omega)
              clear kc860
              exfalso
              exact (by clear hx4 hk hN17 hN kc8 n48 kc47 p59 p60 n62 kc61 n64 kc63; omega)
        · skip
          have l0 : (0 : Int32).toInt = 0 := by decide
          exact D_some (show (0 ≤ (0 : Int32).toInt ∧ (0 : Int32).toInt ≤ 1) ∧ (iR BK K) ∧ (iR BR R_49) ∧ (iR BP P_50) ∧ (nK K) from ⟨⟨(by clear hx4 hk hN17 hN kc8 n48 kc47 p59 p60 n62; omega), (by clear hx4 hk hN17 hN kc8 n48 kc47 p59 p60 n62; omega)⟩, hK, p53, p54, dnK⟩)
      · skip
        have n88 := i_rng x2
        refine D_ite (fun c87 => ?_) (fun c87 => ?_)
        · have kc87 := tq_eq (x := x2) (y := (0 : Int32)) rfl (b := 0) (by decide) c87
          have n89 : 0 ≤ (K 0 1).toInt ∧ (K 0 1).toInt ≤ 45 := hK 0 1
          refine D_bd (t_X3_isJoining (K 0 1) ) (fun r90 eq92 hq91 => ?_)
          obtain ⟨p93, p94⟩ : (0 ≤ r90.toInt ∧ r90.toInt ≤ 1) ∧ (r90.toInt = 1 → (19 ≤ (K 0 1).toInt ∧ (K 0 1).toInt ≤ 20 ∨ 29 ≤ (K 0 1).toInt ∧ (K 0 1).toInt ≤ 38)) := hq91
          refine D_ite (fun c95 => ?_) (fun c95 => ?_)
          · have kc95 := tq_eq (x := r90) (y := (0 : Int32)) rfl (b := 0) (by decide) c95
            refine D_ite (fun c96 => ?_) (fun c96 => ?_)
            · have kc96 := tq_eq (x := (K 0 1)) (y := (40 : Int32)) rfl (b := 40) (by decide) c96
              have n98 : 0 ≤ (R 0 9).toInt ∧ (R 0 9).toInt ≤ 8 := hR 0 9
              refine D_ite (fun c97 => ?_) (fun c97 => ?_)
              · have kc97 := tq_le (x := (R 0 9)) (y := (0 : Int32)) rfl (b := 0) (by decide) c97
                unfold fJ_X3_readFormula_J119
                unfold fJ_X3_readFormula_J120
                have l0 : (0 : Int32).toInt = 0 := by decide
                refine D_ite (fun c99 => ?_) (fun c99 => ?_)
                · have kc99 := tq_eq (x := (0 : Int32)) (y := (0 : Int32)) rfl rfl c99
                  unfold fJ_X3_readFormula_J130
                  refine D_ite (fun c100 => ?_) (fun c100 => ?_)
                  · have kc100 := tq_eq (x := (0 : Int32)) (y := (0 : Int32)) rfl rfl c100
                    have n102 : (x4 + 1).toInt = x4.toInt + 1 := i_addK rfl (by decide) (by clear hk hN17 hN n48 n88 kc87 n89 p93 p94 kc95 kc96 n98 kc97; omega) (by clear hk hN17 hN n48 n88 kc87 n89 p93 p94 kc95 kc96 n98 kc97; omega)
                    refine D_lt (fun y101 ey101 => ?_)
                    have hy101 : y101.toInt = (x4 + 1 : Int32).toInt := by rw [ey101]
                    have n103 : 0 ≤ (R 0 8).toInt ∧ (R 0 8).toInt ≤ 72 := hR 0 8
                    have n104 : 0 ≤ (P 0 3).toInt ∧ (P 0 3).toInt ≤ 64 := hP 0 3
                    exact hk17 x2 (0 : Int32) y101 K R P dnK dgO hK hR hP ⟨(by clear hk hN17 hN n48 n88 kc87 n89 p93 p94 kc95 kc96 n98 kc97; omega), (by clear hk hN17 hN n48 n88 kc87 n89 p93 p94 kc95 kc96 n98 kc97; omega)⟩ (by clear hx4 hN17 hN kc8 n48 n88 kc87 n89 p93 p94 kc95 kc96 n102 hy101; omega) (by clear hk n48 n88 kc87 n89 p93 p94 kc95 kc96 n98 kc97 n103 n104; omega)
                  · have kc1000 := tq_eqn (x := (0 : Int32)) (y := (0 : Int32)) rfl rfl c100
                    have kc100 : 1 ≤ (0 : Int32).toInt := (by clear hx4 hk hN17 hN kc8 n48 n88 kc87 n89 p93 p94 kc95 kc96 n98 kc97; omega)
                    clear kc1000
                    exfalso
                    exact (by clear hx4 hk hN17 hN kc8 n48 n88 kc87 n89 p93 p94 kc95 kc96 n98 kc97; omega)
                · have kc990 := tq_eqn (x := (0 : Int32)) (y := (0 : Int32)) rfl rfl c99
                  have kc99 : 1 ≤ (0 : Int32).toInt := (by clear hx4 hk hN17 hN kc8 n48 n88 kc87 n89 p93 p94 kc95 kc96 n98 kc97; omega)
                  clear kc990
                  exfalso
                  exact (by clear hx4 hk hN17 hN kc8 n48 n88 kc87 n89 p93 p94 kc95 kc96 n98 kc97; omega)
              · have kc97 := tq_len (x := (R 0 9)) (y := (0 : Int32)) rfl (b := 0) (by decide) c97
                unfold fJ_X3_readFormula_J120
                have l1 : (1 : Int32).toInt = 1 := by decide
                have l0 : (0 : Int32).toInt = 0 := by decide
                refine D_ite (fun c105 => ?_) (fun c105 => ?_)
                · have kc105 := tq_eq (x := (1 : Int32)) (y := (0 : Int32)) (a := 1) (by decide) (b := 0) (by decide) c105
                  exfalso
                  exact (by clear hx4 hk hN17 hN kc8 n48 n88 kc87 n89 p93 p94 kc95 kc96 n98 kc97; omega)
                · skip
                  refine D_bd2 (t_X3_closeBracket j R P hR hP dgO hj (by first | assumption | exact (by clear hx4 hN17 hN kc8 n48 n88 kc87 n89 p93 p94 kc95 kc96; omega))) (fun R_106 P_107 eq109 hq108 => ?_)
                  refine D_lte (y := R_106) rfl ?_
                  refine D_lte (y := P_107) rfl ?_
                  obtain ⟨p110, p111, p112, p113, p114, p115⟩ : (iR BR R_106) ∧ (iR BP P_107) ∧ (gO R_106) ∧ (P_107 0 3 = (P 0 3)) ∧ ((R_106 0 9).toInt = (R 0 9).toInt - 1) ∧ ((R_106 0 8).toInt ≤ (R 0 8).toInt - 1) := hq108
                  have n116 : 0 ≤ (P_107 0 3).toInt ∧ (P_107 0 3).toInt ≤ 64 := p111 0 3
                  have n117 : 0 ≤ (P 0 3).toInt ∧ (P 0 3).toInt ≤ 64 := hP 0 3
                  have kz118 : (P_107 0 3).toInt = (P 0 3).toInt := congrArg Int32.toInt p113
                  unfold fJ_X3_readFormula_J130
                  refine D_ite (fun c119 => ?_) (fun c119 => ?_)
                  · have kc119 := tq_eq (x := (1 : Int32)) (y := (0 : Int32)) (a := 1) (by decide) (b := 0) (by decide) c119
                    exfalso
                    exact (by clear hx4 hk hN17 hN kc8 n48 n88 kc87 n89 p93 p94 kc95 kc96 n98 kc97 p114 p115 n116 n117 kz118; omega)
                  · skip
                    refine D_bd (t_X5_advance K hK) (fun K_120 eq122 hq121 => ?_)
                    obtain ⟨p123, p124⟩ : (iR BK K_120) ∧ (nK K_120) := hq121
                    have n126 : (x4 + 1).toInt = x4.toInt + 1 := i_addK rfl (by decide) (by clear hk hN17 hN n48 n88 kc87 n89 p93 p94 kc95 kc96 n98 kc97 p114 p115 n116 n117 kz118; omega) (by clear hk hN17 hN n48 n88 kc87 n89 p93 p94 kc95 kc96 n98 kc97 p114 p115 n116 n117 kz118; omega)
                    refine D_lt (fun y125 ey125 => ?_)
                    have hy125 : y125.toInt = (x4 + 1 : Int32).toInt := by rw [ey125]
                    have n127 : 0 ≤ (R_106 0 8).toInt ∧ (R_106 0 8).toInt ≤ 72 := p110 0 8
                    have n128 : 0 ≤ (R_106 0 9).toInt ∧ (R_106 0 9).toInt ≤ 8 := p110 0 9
                    exact hk17 x2 (1 : Int32) y125 K_120 R_106 P_107 p124 p112 p123 p110 p111 ⟨(by clear hk hN17 hN n48 n88 kc87 n89 p93 p94 kc95 kc96 n98 kc97 p114 p115 n116 n117 kz118; omega), (by clear hk hN17 hN n48 n88 kc87 n89 p93 p94 kc95 kc96 n98 kc97 p114 p115 n116 n117 kz118; omega)⟩ (by clear hx4 hN17 hN kc8 n48 n88 kc87 n89 p93 p94 kc95 kc96 n126 hy125; omega) (by clear hk n48 n88 kc87 n89 p93 p94 kc95 kc96 n98 kc97 p114 p115 n116 n117 kz118 n127 n128; omega)
            · skip
              unfold fJ_X3_readFormula_J119
              unfold fJ_X3_readFormula_J120
              have l0 : (0 : Int32).toInt = 0 := by decide
              refine D_ite (fun c129 => ?_) (fun c129 => ?_)
              · have kc129 := tq_eq (x := (0 : Int32)) (y := (0 : Int32)) rfl rfl c129
                unfold fJ_X3_readFormula_J130
                refine D_ite (fun c130 => ?_) (fun c130 => ?_)
                · have kc130 := tq_eq (x := (0 : Int32)) (y := (0 : Int32)) rfl rfl c130
                  have n132 : (x4 + 1).toInt = x4.toInt + 1 := i_addK rfl (by decide) (by clear hk hN17 hN n48 n88 kc87 n89 p93 p94 kc95; omega) (by clear hk hN17 hN n48 n88 kc87 n89 p93 p94 kc95; omega)
                  refine D_lt (fun y131 ey131 => ?_)
                  have hy131 : y131.toInt = (x4 + 1 : Int32).toInt := by rw [ey131]
                  have n133 : 0 ≤ (R 0 8).toInt ∧ (R 0 8).toInt ≤ 72 := hR 0 8
                  have n134 : 0 ≤ (R 0 9).toInt ∧ (R 0 9).toInt ≤ 8 := hR 0 9
                  have n135 : 0 ≤ (P 0 3).toInt ∧ (P 0 3).toInt ≤ 64 := hP 0 3
                  exact hk17 x2 (0 : Int32) y131 K R P dnK dgO hK hR hP ⟨(by clear hk hN17 hN n48 n88 kc87 n89 p93 p94 kc95; omega), (by clear hk hN17 hN n48 n88 kc87 n89 p93 p94 kc95; omega)⟩ (by clear hx4 hN17 hN kc8 n48 n88 kc87 n89 p93 p94 kc95 n132 hy131; omega) (by clear hk n48 n88 kc87 n89 p93 p94 kc95 n133 n134 n135; omega)
                · have kc1300 := tq_eqn (x := (0 : Int32)) (y := (0 : Int32)) rfl rfl c130
                  have kc130 : 1 ≤ (0 : Int32).toInt := (by clear hx4 hk hN17 hN kc8 n48 n88 kc87 n89 p93 p94 kc95; omega)
                  clear kc1300
                  exfalso
                  exact (by clear hx4 hk hN17 hN kc8 n48 n88 kc87 n89 p93 p94 kc95; omega)
              · have kc1290 := tq_eqn (x := (0 : Int32)) (y := (0 : Int32)) rfl rfl c129
                have kc129 : 1 ≤ (0 : Int32).toInt := (by clear hx4 hk hN17 hN kc8 n48 n88 kc87 n89 p93 p94 kc95; omega)
                clear kc1290
                exfalso
                exact (by clear hx4 hk hN17 hN kc8 n48 n88 kc87 n89 p93 p94 kc95; omega)
          · have kc950 := tq_eqn (x := r90) (y := (0 : Int32)) rfl (b := 0) (by decide) c95
            have kc95 : 1 ≤ r90.toInt := (by clear hx4 hk hN17 hN kc8 n48 n88 kc87; omega)
            clear kc950
            refine D_bd3 (t_X3_readJoining j K R P hK hR hP dnK dgO hj (by first | assumption | exact (by clear hx4 hN17 hN kc8 n48 n88 kc87 n89 p93 p94 kc95; omega)) (by first | assumption | exact (by clear hx4 hk hN17 hN kc8 n48 n88 kc87; omega))) (fun r136 R_137 P_138 eq140 hq139 => ?_)
            refine D_lte (y := r136) rfl ?_
            refine D_lte (y := R_137) rfl ?_
            refine D_lte (y := P_138) rfl ?_
            obtain ⟨p141, p142, p143, p144, p145⟩ : (0 ≤ r136.toInt ∧ r136.toInt ≤ 1) ∧ (iR BR R_137) ∧ (iR BP P_138) ∧ (gO R_137) ∧ ((R_137 0 8).toInt ≤ (R_137 0 9).toInt + (P_138 0 3).toInt) := hq139
            unfold fJ_X3_readFormula_J130
            refine D_ite (fun c146 => ?_) (fun c146 => ?_)
            · have kc146 := tq_eq (x := r136) (y := (0 : Int32)) rfl (b := 0) (by decide) c146
              have n148 : (x4 + 1).toInt = x4.toInt + 1 := i_addK rfl (by decide) (by clear hk hN17 hN n48 n88 kc87 n89 p93 p94 kc95 p141 p145 kc146; omega) (by clear hk hN17 hN n48 n88 kc87 n89 p93 p94 kc95 p141 p145 kc146; omega)
              refine D_lt (fun y147 ey147 => ?_)
              have hy147 : y147.toInt = (x4 + 1 : Int32).toInt := by rw [ey147]
              have l1 : (1 : Int32).toInt = 1 := by decide
              have n149 : 0 ≤ (R_137 0 8).toInt ∧ (R_137 0 8).toInt ≤ 72 := p142 0 8
              have n150 : 0 ≤ (R_137 0 9).toInt ∧ (R_137 0 9).toInt ≤ 8 := p142 0 9
              have n151 : 0 ≤ (P_138 0 3).toInt ∧ (P_138 0 3).toInt ≤ 64 := p143 0 3
              exact hk17 (1 : Int32) r136 y147 K R_137 P_138 dnK p144 hK p142 p143 ⟨(by clear hk hN17 hN n48 n88 kc87 n89 p93 p94 kc95 p141 p145 kc146; omega), (by clear hk hN17 hN n48 n88 kc87 n89 p93 p94 kc95 p141 p145 kc146; omega)⟩ (by clear hx4 hk hN17 hN kc8 n48 n88 kc87 n89 p93 p94 kc95 p141 kc146 n148 hy147; omega) (by clear hk n48 n88 kc87 n89 p93 p94 kc95 p141 p145 kc146 n149 n150 n151; omega)
            · have kc1460 := tq_eqn (x := r136) (y := (0 : Int32)) rfl (b := 0) (by decide) c146
              have kc146 : 1 ≤ r136.toInt := (by clear hx4 hk hN17 hN kc8 n48 n88 kc87 n89 p93 p94 kc95 p145; omega)
              clear kc1460
              refine D_bd (t_X5_advance K hK) (fun K_152 eq154 hq153 => ?_)
              obtain ⟨p155, p156⟩ : (iR BK K_152) ∧ (nK K_152) := hq153
              have n158 : (x4 + 1).toInt = x4.toInt + 1 := i_addK rfl (by decide) (by clear hk hN17 hN n48 n88 kc87 n89 p93 p94 kc95 p141 p145 kc146; omega) (by clear hk hN17 hN n48 n88 kc87 n89 p93 p94 kc95 p141 p145 kc146; omega)
              refine D_lt (fun y157 ey157 => ?_)
              have hy157 : y157.toInt = (x4 + 1 : Int32).toInt := by rw [ey157]
              have l1 : (1 : Int32).toInt = 1 := by decide
              have n159 : 0 ≤ (R_137 0 8).toInt ∧ (R_137 0 8).toInt ≤ 72 := p142 0 8
              have n160 : 0 ≤ (R_137 0 9).toInt ∧ (R_137 0 9).toInt ≤ 8 := p142 0 9
              have n161 : 0 ≤ (P_138 0 3).toInt ∧ (P_138 0 3).toInt ≤ 64 := p143 0 3
              exact hk17 (1 : Int32) r136 y157 K_152 R_137 P_138 p156 p144 p155 p142 p143 ⟨(by clear hk hN17 hN n48 n88 kc87 n89 p93 p94 kc95 p141 p145 kc146; omega), (by clear hk hN17 hN n48 n88 kc87 n89 p93 p94 kc95 p141 p145 kc146; omega)⟩ (by clear hx4 hk hN17 hN kc8 n48 n88 kc87 n89 p93 p94 kc95 p141 kc146 n158 hy157; omega) (by clear hk n48 n88 kc87 n89 p93 p94 kc95 p141 p145 kc146 n159 n160 n161; omega)
        · skip
          have n163 : 0 ≤ (K 0 1).toInt ∧ (K 0 1).toInt ≤ 45 := hK 0 1
          refine D_ite (fun c162 => ?_) (fun c162 => ?_)
          · have kc162 := tq_eq (x := (K 0 1)) (y := (39 : Int32)) rfl (b := 39) (by decide) c162
            unfold fJ_X3_readFormula_J57
            unfold fJ_X3_readFormula_J62
            refine D_bd3 (t_X3_readOperand j K R P hK hR hP dnK dgO hj (by first | assumption | exact (by clear hx4 hN17 hN kc8 n48 n88 n163 kc162; omega))) (fun r164 R_165 P_166 eq168 hq167 => ?_)
            refine D_lte (y := r164) rfl ?_
            refine D_lte (y := R_165) rfl ?_
            refine D_lte (y := P_166) rfl ?_
            obtain ⟨p169, p170, p171, p172, p173⟩ : (0 ≤ r164.toInt ∧ r164.toInt ≤ 1) ∧ (iR BR R_165) ∧ (iR BP P_166) ∧ (gO R_165) ∧ ((R_165 0 8).toInt ≤ (R_165 0 9).toInt + (P_166 0 3).toInt) := hq167
            unfold fJ_X3_readFormula_J130
            refine D_ite (fun c174 => ?_) (fun c174 => ?_)
            · have kc174 := tq_eq (x := r164) (y := (0 : Int32)) rfl (b := 0) (by decide) c174
              have n176 : (x4 + 1).toInt = x4.toInt + 1 := i_addK rfl (by decide) (by clear hk hN17 hN n48 n88 n163 kc162 p169 p173 kc174; omega) (by clear hk hN17 hN n48 n88 n163 kc162 p169 p173 kc174; omega)
              refine D_lt (fun y175 ey175 => ?_)
              have hy175 : y175.toInt = (x4 + 1 : Int32).toInt := by rw [ey175]
              have l1 : (1 : Int32).toInt = 1 := by decide
              have n177 : 0 ≤ (R_165 0 8).toInt ∧ (R_165 0 8).toInt ≤ 72 := p170 0 8
              have n178 : 0 ≤ (R_165 0 9).toInt ∧ (R_165 0 9).toInt ≤ 8 := p170 0 9
              have n179 : 0 ≤ (P_166 0 3).toInt ∧ (P_166 0 3).toInt ≤ 64 := p171 0 3
              exact hk17 (1 : Int32) r164 y175 K R_165 P_166 dnK p172 hK p170 p171 ⟨(by clear hk hN17 hN n48 n88 n163 kc162 p169 p173 kc174; omega), (by clear hk hN17 hN n48 n88 n163 kc162 p169 p173 kc174; omega)⟩ (by clear hx4 hk hN17 hN kc8 n48 n88 n163 kc162 p169 kc174 n176 hy175; omega) (by clear hk n48 n88 n163 kc162 p169 p173 kc174 n177 n178 n179; omega)
            · have kc1740 := tq_eqn (x := r164) (y := (0 : Int32)) rfl (b := 0) (by decide) c174
              have kc174 : 1 ≤ r164.toInt := (by clear hx4 hk hN17 hN kc8 n48 n88 n163 kc162 p173; omega)
              clear kc1740
              refine D_bd (t_X5_advance K hK) (fun K_180 eq182 hq181 => ?_)
              obtain ⟨p183, p184⟩ : (iR BK K_180) ∧ (nK K_180) := hq181
              have n186 : (x4 + 1).toInt = x4.toInt + 1 := i_addK rfl (by decide) (by clear hk hN17 hN n48 n88 n163 kc162 p169 p173 kc174; omega) (by clear hk hN17 hN n48 n88 n163 kc162 p169 p173 kc174; omega)
              refine D_lt (fun y185 ey185 => ?_)
              have hy185 : y185.toInt = (x4 + 1 : Int32).toInt := by rw [ey185]
              have l1 : (1 : Int32).toInt = 1 := by decide
              have n187 : 0 ≤ (R_165 0 8).toInt ∧ (R_165 0 8).toInt ≤ 72 := p170 0 8
              have n188 : 0 ≤ (R_165 0 9).toInt ∧ (R_165 0 9).toInt ≤ 8 := p170 0 9
              have n189 : 0 ≤ (P_166 0 3).toInt ∧ (P_166 0 3).toInt ≤ 64 := p171 0 3
              exact hk17 (1 : Int32) r164 y185 K_180 R_165 P_166 p184 p172 p183 p170 p171 ⟨(by clear hk hN17 hN n48 n88 n163 kc162 p169 p173 kc174; omega), (by clear hk hN17 hN n48 n88 n163 kc162 p169 p173 kc174; omega)⟩ (by clear hx4 hk hN17 hN kc8 n48 n88 n163 kc162 p169 kc174 n186 hy185; omega) (by clear hk n48 n88 n163 kc162 p169 p173 kc174 n187 n188 n189; omega)
          · skip
            refine D_ite (fun c190 => ?_) (fun c190 => ?_)
            · have kc190 := tq_eq (x := (K 0 1)) (y := (21 : Int32)) rfl (b := 21) (by decide) c190
              unfold fJ_X3_readFormula_J57
              unfold fJ_X3_readFormula_J62
              refine D_bd3 (t_X3_readOperand j K R P hK hR hP dnK dgO hj (by first | assumption | exact (by clear hx4 hN17 hN kc8 n48 n88 n163 kc190; omega))) (fun r191 R_192 P_193 eq195 hq194 => ?_)
              refine D_lte (y := r191) rfl ?_
              refine D_lte (y := R_192) rfl ?_
              refine D_lte (y := P_193) rfl ?_
              obtain ⟨p196, p197, p198, p199, p200⟩ : (0 ≤ r191.toInt ∧ r191.toInt ≤ 1) ∧ (iR BR R_192) ∧ (iR BP P_193) ∧ (gO R_192) ∧ ((R_192 0 8).toInt ≤ (R_192 0 9).toInt + (P_193 0 3).toInt) := hq194
              unfold fJ_X3_readFormula_J130
              refine D_ite (fun c201 => ?_) (fun c201 => ?_)
              · have kc201 := tq_eq (x := r191) (y := (0 : Int32)) rfl (b := 0) (by decide) c201
                have n203 : (x4 + 1).toInt = x4.toInt + 1 := i_addK rfl (by decide) (by clear hk hN17 hN n48 n88 n163 kc190 p196 p200 kc201; omega) (by clear hk hN17 hN n48 n88 n163 kc190 p196 p200 kc201; omega)
                refine D_lt (fun y202 ey202 => ?_)
                have hy202 : y202.toInt = (x4 + 1 : Int32).toInt := by rw [ey202]
                have l1 : (1 : Int32).toInt = 1 := by decide
                have n204 : 0 ≤ (R_192 0 8).toInt ∧ (R_192 0 8).toInt ≤ 72 := p197 0 8
                have n205 : 0 ≤ (R_192 0 9).toInt ∧ (R_192 0 9).toInt ≤ 8 := p197 0 9
                have n206 : 0 ≤ (P_193 0 3).toInt ∧ (P_193 0 3).toInt ≤ 64 := p198 0 3
                exact hk17 (1 : Int32) r191 y202 K R_192 P_193 dnK p199 hK p197 p198 ⟨(by clear hk hN17 hN n48 n88 n163 kc190 p196 p200 kc201; omega), (by clear hk hN17 hN n48 n88 n163 kc190 p196 p200 kc201; omega)⟩ (by clear hx4 hk hN17 hN kc8 n48 n88 n163 kc190 p196 kc201 n203 hy202; omega) (by clear hk n48 n88 n163 kc190 p196 p200 kc201 n204 n205 n206; omega)
              · have kc2010 := tq_eqn (x := r191) (y := (0 : Int32)) rfl (b := 0) (by decide) c201
                have kc201 : 1 ≤ r191.toInt := (by clear hx4 hk hN17 hN kc8 n48 n88 n163 kc190 p200; omega)
                clear kc2010
                refine D_bd (t_X5_advance K hK) (fun K_207 eq209 hq208 => ?_)
                obtain ⟨p210, p211⟩ : (iR BK K_207) ∧ (nK K_207) := hq208
                have n213 : (x4 + 1).toInt = x4.toInt + 1 := i_addK rfl (by decide) (by clear hk hN17 hN n48 n88 n163 kc190 p196 p200 kc201; omega) (by clear hk hN17 hN n48 n88 n163 kc190 p196 p200 kc201; omega)
                refine D_lt (fun y212 ey212 => ?_)
                have hy212 : y212.toInt = (x4 + 1 : Int32).toInt := by rw [ey212]
                have l1 : (1 : Int32).toInt = 1 := by decide
                have n214 : 0 ≤ (R_192 0 8).toInt ∧ (R_192 0 8).toInt ≤ 72 := p197 0 8
                have n215 : 0 ≤ (R_192 0 9).toInt ∧ (R_192 0 9).toInt ≤ 8 := p197 0 9
                have n216 : 0 ≤ (P_193 0 3).toInt ∧ (P_193 0 3).toInt ≤ 64 := p198 0 3
                exact hk17 (1 : Int32) r191 y212 K_207 R_192 P_193 p211 p199 p210 p197 p198 ⟨(by clear hk hN17 hN n48 n88 n163 kc190 p196 p200 kc201; omega), (by clear hk hN17 hN n48 n88 n163 kc190 p196 p200 kc201; omega)⟩ (by clear hx4 hk hN17 hN kc8 n48 n88 n163 kc190 p196 kc201 n213 hy212; omega) (by clear hk n48 n88 n163 kc190 p196 p200 kc201 n214 n215 n216; omega)
            · skip
              unfold fJ_X3_readFormula_J62
              refine D_bd3 (t_X3_readOperand j K R P hK hR hP dnK dgO hj (by first | assumption | exact (by clear hx4 hN17 hN kc8 n48 n88 n163; omega))) (fun r217 R_218 P_219 eq221 hq220 => ?_)
              refine D_lte (y := r217) rfl ?_
              refine D_lte (y := R_218) rfl ?_
              refine D_lte (y := P_219) rfl ?_
              obtain ⟨p222, p223, p224, p225, p226⟩ : (0 ≤ r217.toInt ∧ r217.toInt ≤ 1) ∧ (iR BR R_218) ∧ (iR BP P_219) ∧ (gO R_218) ∧ ((R_218 0 8).toInt ≤ (R_218 0 9).toInt + (P_219 0 3).toInt) := hq220
              unfold fJ_X3_readFormula_J130
              refine D_ite (fun c227 => ?_) (fun c227 => ?_)
              · have kc227 := tq_eq (x := r217) (y := (0 : Int32)) rfl (b := 0) (by decide) c227
                have n229 : (x4 + 1).toInt = x4.toInt + 1 := i_addK rfl (by decide) (by clear hk hN17 hN n48 n88 n163 p222 p226 kc227; omega) (by clear hk hN17 hN n48 n88 n163 p222 p226 kc227; omega)
                refine D_lt (fun y228 ey228 => ?_)
                have hy228 : y228.toInt = (x4 + 1 : Int32).toInt := by rw [ey228]
                have l0 : (0 : Int32).toInt = 0 := by decide
                have n230 : 0 ≤ (R_218 0 8).toInt ∧ (R_218 0 8).toInt ≤ 72 := p223 0 8
                have n231 : 0 ≤ (R_218 0 9).toInt ∧ (R_218 0 9).toInt ≤ 8 := p223 0 9
                have n232 : 0 ≤ (P_219 0 3).toInt ∧ (P_219 0 3).toInt ≤ 64 := p224 0 3
                exact hk17 (0 : Int32) r217 y228 K R_218 P_219 dnK p225 hK p223 p224 ⟨(by clear hk hN17 hN n48 n88 n163 p222 p226 kc227; omega), (by clear hk hN17 hN n48 n88 n163 p222 p226 kc227; omega)⟩ (by clear hx4 hk hN17 hN kc8 n48 n88 n163 p222 kc227 n229 hy228; omega) (by clear hk n48 n88 n163 p222 p226 kc227 n230 n231 n232; omega)
              · have kc2270 := tq_eqn (x := r217) (y := (0 : Int32)) rfl (b := 0) (by decide) c227
                have kc227 : 1 ≤ r217.toInt := (by clear hx4 hk hN17 hN kc8 n48 n88 n163 p226; omega)
                clear kc2270
                refine D_bd (t_X5_advance K hK) (fun K_233 eq235 hq234 => ?_)
                obtain ⟨p236, p237⟩ : (iR BK K_233) ∧ (nK K_233) := hq234
                have n239 : (x4 + 1).toInt = x4.toInt + 1 := i_addK rfl (by decide) (by clear hk hN17 hN n48 n88 n163 p222 p226 kc227; omega) (by clear hk hN17 hN n48 n88 n163 p222 p226 kc227; omega)
                refine D_lt (fun y238 ey238 => ?_)
                have hy238 : y238.toInt = (x4 + 1 : Int32).toInt := by rw [ey238]
                have l0 : (0 : Int32).toInt = 0 := by decide
                have n240 : 0 ≤ (R_218 0 8).toInt ∧ (R_218 0 8).toInt ≤ 72 := p223 0 8
                have n241 : 0 ≤ (R_218 0 9).toInt ∧ (R_218 0 9).toInt ≤ 8 := p223 0 9
                have n242 : 0 ≤ (P_219 0 3).toInt ∧ (P_219 0 3).toInt ≤ 64 := p224 0 3
                exact hk17 (0 : Int32) r217 y238 K_233 R_218 P_219 p237 p225 p236 p223 p224 ⟨(by clear hk hN17 hN n48 n88 n163 p222 p226 kc227; omega), (by clear hk hN17 hN n48 n88 n163 p222 p226 kc227; omega)⟩ (by clear hx4 hk hN17 hN kc8 n48 n88 n163 p222 kc227 n239 hy238; omega) (by clear hk n48 n88 n163 p222 p226 kc227 n240 n241 n242; omega)
set_option maxHeartbeats 1000000 in
set_option maxRecDepth 100000 in
theorem t_X3_readFormula (j : Nat) (K : Tr) (R : Tr) (P : Tr) (hK : iR BK K) (hR : iR BR R) (hP : iR BP P) (dnK : nK K) (hj : j < 3) : D (f_X3_readFormula j K R P) (fun (q : Int32 × Tr × Tr × Tr) => (0 ≤ (q.1).toInt ∧ (q.1).toInt ≤ 1) ∧ (iR BK (q.2.1)) ∧ (iR BR (q.2.2.1)) ∧ (iR BP (q.2.2.2)) ∧ (nK (q.2.1))) := by
  unfold f_X3_readFormula
  have l0 : (0 : Int32).toInt = 0 := by decide
  refine D_lt (fun R_1 eR_1 => ?_)
  have hR_1 : iR BR R_1 := by rw [eR_1]; exact iR_set hR (show (0 : Int) ≤ _ from (by omega)) (show _ ≤ (72 : Int) from (by omega))
  have n3 : (R_1 0 8).toInt = (0 : Int32).toInt := by rw [eR_1]; rfl
  refine D_lt (fun R_4 eR_4 => ?_)
  have hR_4 : iR BR R_4 := by rw [eR_4]; exact iR_set hR_1 (show (0 : Int) ≤ _ from (by omega)) (show _ ≤ (8 : Int) from (by omega))
  have kgO_t5 : gO R_4 := (gO_zero (by rw [eR_4, eR_1]; rfl) (by rw [eR_4]; rfl))
  have n6 : (R_4 0 8).toInt = (R_1 0 8).toInt := by rw [eR_4]; rfl
  have n7 : (R_4 0 9).toInt = (0 : Int32).toInt := by rw [eR_4]; rfl
  have l1 : (1 : Int32).toInt = 1 := by decide
  have n243 : 0 ≤ (P 0 3).toInt ∧ (P 0 3).toInt ≤ 64 := hP 0 3
  exact tl_X3_readFormula_L17 j hj   2000 (1 : Int32) (1 : Int32) (0 : Int32) K R_4 P dnK kgO_t5 hK hR_4 hP ⟨(by clear n3 n6 n7; omega), (by clear n3 n6 n7; omega)⟩ (by omega) (by clear n3 n6 n7 n243; omega)
set_option maxHeartbeats 1000000 in
set_option maxRecDepth 100000 in
theorem t_X3_readLaw (K : Tr) (R : Tr) (P : Tr) (hK : iR BK K) (hR : iR BR R) (hP : iR BP P) (dnK : nK K) : D (f_X3_readLaw K R P) (fun (q : Int32 × Tr × Tr × Tr) => (0 ≤ (q.1).toInt ∧ (q.1).toInt ≤ 1) ∧ (iR BK (q.2.1)) ∧ (iR BR (q.2.2.1)) ∧ (iR BP (q.2.2.2)) ∧ (nK (q.2.1))) := by
  unfold f_X3_readLaw
  refine D_bd (t_X5_advance K hK) (fun K_1 eq3 hq2 => ?_)
  obtain ⟨p4, p5⟩ : (iR BK K_1) ∧ (nK K_1) := hq2
  refine D_lt (fun y6 ey6 => ?_)
  have n7 : 0 ≤ (K_1 0 1).toInt ∧ (K_1 0 1).toInt ≤ 45 := p4 0 1
  have n8 : ((K_1 0 1) - 16).toInt = (K_1 0 1).toInt - 16 := i_subK rfl (by decide) (by omega) (by omega)
  have hy6 : y6.toInt = ((K_1 0 1) - 16).toInt := by rw [ey6]
  refine D_ite (fun c9 => ?_) (fun c9 => ?_)
  · have kc9 := tq_lt (x := y6) (y := (0 : Int32)) rfl (b := 0) (by decide) c9
    unfold fJ_X3_readLaw_J32
    unfold fJ_X3_readLaw_J33
    have l0 : (0 : Int32).toInt = 0 := by decide
    have l1 : (1 : Int32).toInt = 1 := by decide
    refine D_bd2 (t_X3_expect K_1 R (0 : Int32) (1 : Int32) p4 hR ⟨(by clear n7 n8 hy6 kc9; omega), (by clear n7 n8 hy6 kc9; omega)⟩) (fun r10 R_11 eq13 hq12 => ?_)
    refine D_lte (y := r10) rfl ?_
    refine D_lte (y := R_11) rfl ?_
    obtain ⟨p14, p15, p16, p17, p18, p19⟩ : (0 ≤ r10.toInt ∧ r10.toInt ≤ 1) ∧ (iR BR R_11) ∧ (R_11 0 8 = (R 0 8)) ∧ (R_11 0 9 = (R 0 9)) ∧ (r10.toInt = (0 : Int32).toInt) ∧ (R_11 8 = R 8) := hq12
    refine D_ite (fun c20 => ?_) (fun c20 => ?_)
    · have kc20 := tq_eq (x := r10) (y := (0 : Int32)) rfl (b := 0) (by decide) c20
      exact D_some (show (0 ≤ (0 : Int32).toInt ∧ (0 : Int32).toInt ≤ 1) ∧ (iR BK K_1) ∧ (iR BR R_11) ∧ (iR BP P) ∧ (nK K_1) from ⟨⟨(by clear n7 n8 hy6 kc9 p14 p18 kc20; omega), (by clear n7 n8 hy6 kc9 p14 p18 kc20; omega)⟩, p4, p15, hP, p5⟩)
    · have kc200 := tq_eqn (x := r10) (y := (0 : Int32)) rfl (b := 0) (by decide) c20
      have kc20 : 1 ≤ r10.toInt := (by clear n7 n8 hy6 kc9; omega)
      clear kc200
      exfalso
      exact (by clear n7 n8 hy6 kc9; omega)
  · have kc9 := tq_ltn (x := y6) (y := (0 : Int32)) rfl (b := 0) (by decide) c9
    refine D_ite (fun c21 => ?_) (fun c21 => ?_)
    · have kc21 := tq_lt (x := (2 : Int32)) (y := y6) (a := 2) (by decide) rfl c21
      unfold fJ_X3_readLaw_J32
      unfold fJ_X3_readLaw_J33
      have l0 : (0 : Int32).toInt = 0 := by decide
      have l1 : (1 : Int32).toInt = 1 := by decide
      refine D_bd2 (t_X3_expect K_1 R (0 : Int32) (1 : Int32) p4 hR ⟨(by clear n7 n8 hy6 kc9 kc21; omega), (by clear n7 n8 hy6 kc9 kc21; omega)⟩) (fun r22 R_23 eq25 hq24 => ?_)
      refine D_lte (y := r22) rfl ?_
      refine D_lte (y := R_23) rfl ?_
      obtain ⟨p26, p27, p28, p29, p30, p31⟩ : (0 ≤ r22.toInt ∧ r22.toInt ≤ 1) ∧ (iR BR R_23) ∧ (R_23 0 8 = (R 0 8)) ∧ (R_23 0 9 = (R 0 9)) ∧ (r22.toInt = (0 : Int32).toInt) ∧ (R_23 8 = R 8) := hq24
      refine D_ite (fun c32 => ?_) (fun c32 => ?_)
      · have kc32 := tq_eq (x := r22) (y := (0 : Int32)) rfl (b := 0) (by decide) c32
        exact D_some (show (0 ≤ (0 : Int32).toInt ∧ (0 : Int32).toInt ≤ 1) ∧ (iR BK K_1) ∧ (iR BR R_23) ∧ (iR BP P) ∧ (nK K_1) from ⟨⟨(by clear n7 n8 hy6 kc9 kc21 p26 p30 kc32; omega), (by clear n7 n8 hy6 kc9 kc21 p26 p30 kc32; omega)⟩, p4, p27, hP, p5⟩)
      · have kc320 := tq_eqn (x := r22) (y := (0 : Int32)) rfl (b := 0) (by decide) c32
        have kc32 : 1 ≤ r22.toInt := (by clear n7 n8 hy6 kc9 kc21; omega)
        clear kc320
        exfalso
        exact (by clear n7 n8 hy6 kc9 kc21; omega)
    · have kc21 := tq_ltn (x := (2 : Int32)) (y := y6) (a := 2) (by decide) rfl c21
      unfold fJ_X3_readLaw_J33
      have l1 : (1 : Int32).toInt = 1 := by decide
      refine D_bd2 (t_X3_expect K_1 R (1 : Int32) (1 : Int32) p4 hR ⟨(by clear n7 n8 hy6 kc9 kc21; omega), (by clear n7 n8 hy6 kc9 kc21; omega)⟩) (fun r33 R_34 eq36 hq35 => ?_)
      refine D_lte (y := r33) rfl ?_
      refine D_lte (y := R_34) rfl ?_
      obtain ⟨p37, p38, p39, p40, p41, p42⟩ : (0 ≤ r33.toInt ∧ r33.toInt ≤ 1) ∧ (iR BR R_34) ∧ (R_34 0 8 = (R 0 8)) ∧ (R_34 0 9 = (R 0 9)) ∧ (r33.toInt = (1 : Int32).toInt) ∧ (R_34 8 = R 8) := hq35
      refine D_ite (fun c43 => ?_) (fun c43 => ?_)
      · have kc43 := tq_eq (x := r33) (y := (0 : Int32)) rfl (b := 0) (by decide) c43
        exfalso
        exact (by clear n7 n8 hy6 kc9 kc21; omega)
      · skip
        refine D_ck (okI_of (by omega) (by omega)) ?_
        have w44 : y6.toNatClampNeg < 3 := i_n (by omega) (by omega)
        have n46 : 0 ≤ (P (30 + 3 * y6.toNatClampNeg) 1).toInt ∧ (P (30 + 3 * y6.toNatClampNeg) 1).toInt ≤ 64 := BP_law hP w44
        refine D_ite (fun c45 => ?_) (fun c45 => ?_)
        · have kc45 := tq_eq (x := (P (30 + 3 * y6.toNatClampNeg) 1)) (y := (0 : Int32)) rfl (b := 0) (by decide) c45
          unfold fJ_X3_readLaw_J61
          have l3 : (3 : Int32).toInt = 3 := by decide
          refine D_bd2 (t_X3_expect K_1 R_34 (1 : Int32) (3 : Int32) p4 p38 ⟨(by clear n7 n8 hy6 kc9 kc21 p37 p41 n46 kc45; omega), (by clear n7 n8 hy6 kc9 kc21 p37 p41 n46 kc45; omega)⟩) (fun r47 R_48 eq50 hq49 => ?_)
          refine D_lte (y := r47) rfl ?_
          refine D_lte (y := R_48) rfl ?_
          obtain ⟨p51, p52, p53, p54, p55, p56⟩ : (0 ≤ r47.toInt ∧ r47.toInt ≤ 1) ∧ (iR BR R_48) ∧ (R_48 0 8 = (R_34 0 8)) ∧ (R_48 0 9 = (R_34 0 9)) ∧ (r47.toInt = (1 : Int32).toInt) ∧ (R_48 8 = R_34 8) := hq49
          refine D_ite (fun c57 => ?_) (fun c57 => ?_)
          · have kc57 := tq_eq (x := r47) (y := (0 : Int32)) rfl (b := 0) (by decide) c57
            exfalso
            exact (by clear n7 n8 hy6 kc9 kc21 p37 p41 n46 kc45; omega)
          · skip
            refine D_bd (t_X5_advance K_1 p4) (fun K_58 eq60 hq59 => ?_)
            obtain ⟨p61, p62⟩ : (iR BK K_58) ∧ (nK K_58) := hq59
            refine D_ck (okI_of (by clear p37 p41 n46 kc45 p51 p55; omega) (by clear p37 p41 n46 kc45 p51 p55; omega)) ?_
            have w63 : y6.toNatClampNeg < 3 := i_n (by clear p37 p41 n46 kc45 p51 p55; omega) (by clear p37 p41 n46 kc45 p51 p55; omega)
            refine D_bd4 (t_X3_readFormula y6.toNatClampNeg K_58 R_48 P p61 p52 hP p62 w63) (fun r64 K_65 R_66 P_67 eq69 hq68 => ?_)
            refine D_lte (y := r64) rfl ?_
            refine D_lte (y := K_65) rfl ?_
            refine D_lte (y := R_66) rfl ?_
            refine D_lte (y := P_67) rfl ?_
            obtain ⟨p70, p71, p72, p73, p74⟩ : (0 ≤ r64.toInt ∧ r64.toInt ≤ 1) ∧ (iR BK K_65) ∧ (iR BR R_66) ∧ (iR BP P_67) ∧ (nK K_65) := hq68
            refine D_ck (okB_01 (by clear n7 n8 hy6 kc9 kc21 p37 p41 n46 kc45 p51 p55; omega)) ?_
            exact D_some (show (0 ≤ r64.toInt ∧ r64.toInt ≤ 1) ∧ (iR BK K_65) ∧ (iR BR R_66) ∧ (iR BP P_67) ∧ (nK K_65) from ⟨⟨(by clear n7 n8 hy6 kc9 kc21 p37 p41 n46 kc45 p51 p55; omega), (by clear n7 n8 hy6 kc9 kc21 p37 p41 n46 kc45 p51 p55; omega)⟩, p71, p72, p73, p74⟩)
        · have kc450 := tq_eqn (x := (P (30 + 3 * y6.toNatClampNeg) 1)) (y := (0 : Int32)) rfl (b := 0) (by decide) c45
          have kc45 : 1 ≤ (P (30 + 3 * y6.toNatClampNeg) 1).toInt := (by clear n7 n8 hy6 kc9 kc21 p37 p41; omega)
          clear kc450
          unfold fJ_X3_readLaw_J61
          have l0 : (0 : Int32).toInt = 0 := by decide
          have l3 : (3 : Int32).toInt = 3 := by decide
          refine D_bd2 (t_X3_expect K_1 R_34 (0 : Int32) (3 : Int32) p4 p38 ⟨(by clear n7 n8 hy6 kc9 kc21 p37 p41 n46 kc45; omega), (by clear n7 n8 hy6 kc9 kc21 p37 p41 n46 kc45; omega)⟩) (fun r75 R_76 eq78 hq77 => ?_)
          refine D_lte (y := r75) rfl ?_
          refine D_lte (y := R_76) rfl ?_
          obtain ⟨p79, p80, p81, p82, p83, p84⟩ : (0 ≤ r75.toInt ∧ r75.toInt ≤ 1) ∧ (iR BR R_76) ∧ (R_76 0 8 = (R_34 0 8)) ∧ (R_76 0 9 = (R_34 0 9)) ∧ (r75.toInt = (0 : Int32).toInt) ∧ (R_76 8 = R_34 8) := hq77
          refine D_ite (fun c85 => ?_) (fun c85 => ?_)
          · have kc85 := tq_eq (x := r75) (y := (0 : Int32)) rfl (b := 0) (by decide) c85
            exact D_some (show (0 ≤ (0 : Int32).toInt ∧ (0 : Int32).toInt ≤ 1) ∧ (iR BK K_1) ∧ (iR BR R_76) ∧ (iR BP P) ∧ (nK K_1) from ⟨⟨(by clear n7 n8 hy6 kc9 kc21 p37 p41 n46 kc45 p79 p83 kc85; omega), (by clear n7 n8 hy6 kc9 kc21 p37 p41 n46 kc45 p79 p83 kc85; omega)⟩, p4, p80, hP, p5⟩)
          · have kc850 := tq_eqn (x := r75) (y := (0 : Int32)) rfl (b := 0) (by decide) c85
            have kc85 : 1 ≤ r75.toInt := (by clear n7 n8 hy6 kc9 kc21 p37 p41 n46 kc45; omega)
            clear kc850
            exfalso
            exact (by clear n7 n8 hy6 kc9 kc21 p37 p41 n46 kc45; omega)
set_option maxHeartbeats 1000000 in
set_option maxRecDepth 100000 in
theorem t_X3_startOnce (K : Tr) (R : Tr) (hK : iR BK K) (hR : iR BR R) (dnK : nK K) : D (f_X3_startOnce K R) (fun (q : Int32 × Tr × Tr) => (0 ≤ (q.1).toInt ∧ (q.1).toInt ≤ 1) ∧ (iR BK (q.2.1)) ∧ (iR BR (q.2.2)) ∧ (nK (q.2.1))) := by
  unfold f_X3_startOnce
  refine D_lt (fun y1 ey1 => ?_)
  have n2 := i_rng ((1 : Int32) <<< (((K 0 1) - 4) &&& 31))
  have hy1 : y1.toInt = ((1 : Int32) <<< (((K 0 1) - 4) &&& 31)).toInt := by rw [ey1]
  have n4 := i_rng ((R 0 5) &&& y1)
  refine D_ite (fun c3 => ?_) (fun c3 => ?_)
  · have kc3 := tq_eq (x := ((R 0 5) &&& y1)) (y := (0 : Int32)) rfl (b := 0) (by decide) c3
    unfold fJ_X3_startOnce_J27
    have l1 : (1 : Int32).toInt = 1 := by decide
    have l3 : (3 : Int32).toInt = 3 := by decide
    refine D_bd2 (t_X3_expect K R (1 : Int32) (3 : Int32) hK hR ⟨(by clear n2 hy1 n4 kc3; omega), (by clear n2 hy1 n4 kc3; omega)⟩) (fun r5 R_6 eq8 hq7 => ?_)
    refine D_lte (y := r5) rfl ?_
    refine D_lte (y := R_6) rfl ?_
    obtain ⟨p9, p10, p11, p12, p13, p14⟩ : (0 ≤ r5.toInt ∧ r5.toInt ≤ 1) ∧ (iR BR R_6) ∧ (R_6 0 8 = (R 0 8)) ∧ (R_6 0 9 = (R 0 9)) ∧ (r5.toInt = (1 : Int32).toInt) ∧ (R_6 8 = R 8) := hq7
    refine D_ite (fun c15 => ?_) (fun c15 => ?_)
    · have kc15 := tq_eq (x := r5) (y := (0 : Int32)) rfl (b := 0) (by decide) c15
      exfalso
      exact (by clear n2 hy1 n4 kc3; omega)
    · skip
      refine D_lt (fun R_16 eR_16 => ?_)
      have hR_16 : iR BR R_16 := by rw [eR_16]; exact iR_setU p10 rfl
      refine D_bd (t_X5_advance K hK) (fun K_17 eq19 hq18 => ?_)
      obtain ⟨p20, p21⟩ : (iR BK K_17) ∧ (nK K_17) := hq18
      exact D_some (show (0 ≤ (1 : Int32).toInt ∧ (1 : Int32).toInt ≤ 1) ∧ (iR BK K_17) ∧ (iR BR R_16) ∧ (nK K_17) from ⟨⟨(by clear n2 hy1 n4 kc3 p9 p13; omega), (by clear n2 hy1 n4 kc3 p9 p13; omega)⟩, p20, hR_16, p21⟩)
  · skip
    unfold fJ_X3_startOnce_J27
    have l0 : (0 : Int32).toInt = 0 := by decide
    have l3 : (3 : Int32).toInt = 3 := by decide
    refine D_bd2 (t_X3_expect K R (0 : Int32) (3 : Int32) hK hR ⟨(by clear n2 hy1 n4; omega), (by clear n2 hy1 n4; omega)⟩) (fun r22 R_23 eq25 hq24 => ?_)
    refine D_lte (y := r22) rfl ?_
    refine D_lte (y := R_23) rfl ?_
    obtain ⟨p26, p27, p28, p29, p30, p31⟩ : (0 ≤ r22.toInt ∧ r22.toInt ≤ 1) ∧ (iR BR R_23) ∧ (R_23 0 8 = (R 0 8)) ∧ (R_23 0 9 = (R 0 9)) ∧ (r22.toInt = (0 : Int32).toInt) ∧ (R_23 8 = R 8) := hq24
    refine D_ite (fun c32 => ?_) (fun c32 => ?_)
    · have kc32 := tq_eq (x := r22) (y := (0 : Int32)) rfl (b := 0) (by decide) c32
      exact D_some (show (0 ≤ (0 : Int32).toInt ∧ (0 : Int32).toInt ≤ 1) ∧ (iR BK K) ∧ (iR BR R_23) ∧ (nK K) from ⟨⟨(by clear n2 hy1 n4 p26 p30 kc32; omega), (by clear n2 hy1 n4 p26 p30 kc32; omega)⟩, hK, p27, dnK⟩)
    · have kc320 := tq_eqn (x := r22) (y := (0 : Int32)) rfl (b := 0) (by decide) c32
      have kc32 : 1 ≤ r22.toInt := (by clear n2 hy1 n4; omega)
      clear kc320
      exfalso
      exact (by clear n2 hy1 n4; omega)
set_option maxHeartbeats 1000000 in
set_option maxRecDepth 100000 in
theorem t_X3_takeNumber (K : Tr) (R : Tr) (x1 : Int32) (x2 : Int32) (hK : iR BK K) (hR : iR BR R) (dnK : nK K) : D (f_X3_takeNumber K R x1 x2) (fun (q : Int32 × Tr × Tr) => (iR BK (q.2.1)) ∧ (iR BR (q.2.2)) ∧ (nK (q.2.1)) ∧ ((q.1).toInt = -1 ∨ (x1.toInt ≤ (q.1).toInt ∧ (q.1).toInt ≤ x2.toInt))) := by
  unfold f_X3_takeNumber
  refine D_lt (fun y1 ey1 => ?_)
  have n2 := i_rng (K 0 3)
  have hy1 : y1.toInt = (K 0 3).toInt := by rw [ey1]
  have n4 : 0 ≤ (K 0 1).toInt ∧ (K 0 1).toInt ≤ 45 := hK 0 1
  refine D_ite (fun c3 => ?_) (fun c3 => ?_)
  · have kc3 := tq_eq (x := (K 0 1)) (y := (42 : Int32)) rfl (b := 42) (by decide) c3
    have n5 := dnK c3
    have n6 := i_rng (K 0 3)
    unfold fJ_X3_takeNumber_J26
    have l1 : (1 : Int32).toInt = 1 := by decide
    refine D_bd2 (t_X3_expect K R (1 : Int32) (1 : Int32) hK hR ⟨(by clear n2 hy1 n4 kc3; omega), (by clear n2 hy1 n4 kc3; omega)⟩) (fun r7 R_8 eq10 hq9 => ?_)
    refine D_lte (y := r7) rfl ?_
    refine D_lte (y := R_8) rfl ?_
    obtain ⟨p11, p12, p13, p14, p15, p16⟩ : (0 ≤ r7.toInt ∧ r7.toInt ≤ 1) ∧ (iR BR R_8) ∧ (R_8 0 8 = (R 0 8)) ∧ (R_8 0 9 = (R 0 9)) ∧ (r7.toInt = (1 : Int32).toInt) ∧ (R_8 8 = R 8) := hq9
    refine D_ite (fun c17 => ?_) (fun c17 => ?_)
    · have kc17 := tq_eq (x := r7) (y := (0 : Int32)) rfl (b := 0) (by decide) c17
      exfalso
      exact (by clear n2 hy1 n4 kc3; omega)
    · skip
      have n19 := i_rng x1
      refine D_ite (fun c18 => ?_) (fun c18 => ?_)
      · have kc18 := tq_lt (x := y1) (y := x1) rfl rfl c18
        unfold fJ_X3_takeNumber_J48
        unfold fJ_X3_takeNumber_J49
        have l0 : (0 : Int32).toInt = 0 := by decide
        have l2 : (2 : Int32).toInt = 2 := by decide
        refine D_bd2 (t_X3_expect K R_8 (0 : Int32) (2 : Int32) hK p12 ⟨(by clear n2 hy1 n4 kc3 p11 p15 n19 kc18; omega), (by clear n2 hy1 n4 kc3 p11 p15 n19 kc18; omega)⟩) (fun r20 R_21 eq23 hq22 => ?_)
        refine D_lte (y := r20) rfl ?_
        refine D_lte (y := R_21) rfl ?_
        obtain ⟨p24, p25, p26, p27, p28, p29⟩ : (0 ≤ r20.toInt ∧ r20.toInt ≤ 1) ∧ (iR BR R_21) ∧ (R_21 0 8 = (R_8 0 8)) ∧ (R_21 0 9 = (R_8 0 9)) ∧ (r20.toInt = (0 : Int32).toInt) ∧ (R_21 8 = R_8 8) := hq22
        refine D_ite (fun c30 => ?_) (fun c30 => ?_)
        · have kc30 := tq_eq (x := r20) (y := (0 : Int32)) rfl (b := 0) (by decide) c30
          have lm1 : ((-1) : Int32).toInt = (-1) := by decide
          exact D_some (show (iR BK K) ∧ (iR BR R_21) ∧ (nK K) ∧ (((-1) : Int32).toInt = -1 ∨ (x1.toInt ≤ ((-1) : Int32).toInt ∧ ((-1) : Int32).toInt ≤ x2.toInt)) from ⟨hK, p25, dnK, (by clear n4 kc3 p11 p15 p24 p28 kc30; omega)⟩)
        · have kc300 := tq_eqn (x := r20) (y := (0 : Int32)) rfl (b := 0) (by decide) c30
          have kc30 : 1 ≤ r20.toInt := (by clear n2 hy1 n4 kc3 p11 p15 n19 kc18; omega)
          clear kc300
          exfalso
          exact (by clear n2 hy1 n4 kc3 p11 p15 n19 kc18; omega)
      · have kc18 := tq_ltn (x := y1) (y := x1) rfl rfl c18
        have n32 := i_rng x2
        refine D_ite (fun c31 => ?_) (fun c31 => ?_)
        · have kc31 := tq_lt (x := x2) (y := y1) rfl rfl c31
          unfold fJ_X3_takeNumber_J48
          unfold fJ_X3_takeNumber_J49
          have l0 : (0 : Int32).toInt = 0 := by decide
          have l2 : (2 : Int32).toInt = 2 := by decide
          refine D_bd2 (t_X3_expect K R_8 (0 : Int32) (2 : Int32) hK p12 ⟨(by clear n2 hy1 n4 kc3 p11 p15 n19 kc18 n32 kc31; omega), (by clear n2 hy1 n4 kc3 p11 p15 n19 kc18 n32 kc31; omega)⟩) (fun r33 R_34 eq36 hq35 => ?_)
          refine D_lte (y := r33) rfl ?_
          refine D_lte (y := R_34) rfl ?_
          obtain ⟨p37, p38, p39, p40, p41, p42⟩ : (0 ≤ r33.toInt ∧ r33.toInt ≤ 1) ∧ (iR BR R_34) ∧ (R_34 0 8 = (R_8 0 8)) ∧ (R_34 0 9 = (R_8 0 9)) ∧ (r33.toInt = (0 : Int32).toInt) ∧ (R_34 8 = R_8 8) := hq35
          refine D_ite (fun c43 => ?_) (fun c43 => ?_)
          · have kc43 := tq_eq (x := r33) (y := (0 : Int32)) rfl (b := 0) (by decide) c43
            have lm1 : ((-1) : Int32).toInt = (-1) := by decide
            exact D_some (show (iR BK K) ∧ (iR BR R_34) ∧ (nK K) ∧ (((-1) : Int32).toInt = -1 ∨ (x1.toInt ≤ ((-1) : Int32).toInt ∧ ((-1) : Int32).toInt ≤ x2.toInt)) from ⟨hK, p38, dnK, (by clear n4 kc3 p11 p15 p37 p41 kc43; omega)⟩)
          · have kc430 := tq_eqn (x := r33) (y := (0 : Int32)) rfl (b := 0) (by decide) c43
            have kc43 : 1 ≤ r33.toInt := (by clear n2 hy1 n4 kc3 p11 p15 n19 kc18 n32 kc31; omega)
            clear kc430
            exfalso
            exact (by clear n2 hy1 n4 kc3 p11 p15 n19 kc18 n32 kc31; omega)
        · have kc31 := tq_ltn (x := x2) (y := y1) rfl rfl c31
          unfold fJ_X3_takeNumber_J49
          have l2 : (2 : Int32).toInt = 2 := by decide
          refine D_bd2 (t_X3_expect K R_8 (1 : Int32) (2 : Int32) hK p12 ⟨(by clear n2 hy1 n4 kc3 p11 p15 n19 kc18 n32 kc31; omega), (by clear n2 hy1 n4 kc3 p11 p15 n19 kc18 n32 kc31; omega)⟩) (fun r44 R_45 eq47 hq46 => ?_)
          refine D_lte (y := r44) rfl ?_
          refine D_lte (y := R_45) rfl ?_
          obtain ⟨p48, p49, p50, p51, p52, p53⟩ : (0 ≤ r44.toInt ∧ r44.toInt ≤ 1) ∧ (iR BR R_45) ∧ (R_45 0 8 = (R_8 0 8)) ∧ (R_45 0 9 = (R_8 0 9)) ∧ (r44.toInt = (1 : Int32).toInt) ∧ (R_45 8 = R_8 8) := hq46
          refine D_ite (fun c54 => ?_) (fun c54 => ?_)
          · have kc54 := tq_eq (x := r44) (y := (0 : Int32)) rfl (b := 0) (by decide) c54
            exfalso
            exact (by clear n2 hy1 n4 kc3 p11 p15 n19 kc18 n32 kc31; omega)
          · skip
            refine D_bd (t_X5_advance K hK) (fun K_55 eq57 hq56 => ?_)
            obtain ⟨p58, p59⟩ : (iR BK K_55) ∧ (nK K_55) := hq56
            exact D_some (show (iR BK K_55) ∧ (iR BR R_45) ∧ (nK K_55) ∧ (y1.toInt = -1 ∨ (x1.toInt ≤ y1.toInt ∧ y1.toInt ≤ x2.toInt)) from ⟨p58, p49, p59, (by clear n4 kc3 p11 p15 p48 p52; omega)⟩)
  · skip
    unfold fJ_X3_takeNumber_J26
    have l0 : (0 : Int32).toInt = 0 := by decide
    have l1 : (1 : Int32).toInt = 1 := by decide
    refine D_bd2 (t_X3_expect K R (0 : Int32) (1 : Int32) hK hR ⟨(by clear n2 hy1 n4; omega), (by clear n2 hy1 n4; omega)⟩) (fun r60 R_61 eq63 hq62 => ?_)
    refine D_lte (y := r60) rfl ?_
    refine D_lte (y := R_61) rfl ?_
    obtain ⟨p64, p65, p66, p67, p68, p69⟩ : (0 ≤ r60.toInt ∧ r60.toInt ≤ 1) ∧ (iR BR R_61) ∧ (R_61 0 8 = (R 0 8)) ∧ (R_61 0 9 = (R 0 9)) ∧ (r60.toInt = (0 : Int32).toInt) ∧ (R_61 8 = R 8) := hq62
    refine D_ite (fun c70 => ?_) (fun c70 => ?_)
    · have kc70 := tq_eq (x := r60) (y := (0 : Int32)) rfl (b := 0) (by decide) c70
      have lm1 : ((-1) : Int32).toInt = (-1) := by decide
      exact D_some (show (iR BK K) ∧ (iR BR R_61) ∧ (nK K) ∧ (((-1) : Int32).toInt = -1 ∨ (x1.toInt ≤ ((-1) : Int32).toInt ∧ ((-1) : Int32).toInt ≤ x2.toInt)) from ⟨hK, p65, dnK, (by clear n2 hy1 n4 p64 p68 kc70; omega)⟩)
    · have kc700 := tq_eqn (x := r60) (y := (0 : Int32)) rfl (b := 0) (by decide) c70
      have kc70 : 1 ≤ r60.toInt := (by clear n2 hy1 n4; omega)
      clear kc700
      exfalso
      exact (by clear n2 hy1 n4; omega)
set_option maxHeartbeats 1000000 in
set_option maxRecDepth 100000 in
theorem t_X3_readSeed (K : Tr) (R : Tr) (P : Tr) (hK : iR BK K) (hR : iR BR R) (hP : iR BP P) (dnK : nK K) : D (f_X3_readSeed K R P) (fun (q : Int32 × Tr × Tr × Tr) => (0 ≤ (q.1).toInt ∧ (q.1).toInt ≤ 1) ∧ (iR BK (q.2.1)) ∧ (iR BR (q.2.2.1)) ∧ (iR BP (q.2.2.2)) ∧ (nK (q.2.1))) := by
  unfold f_X3_readSeed
  refine D_bd3 (t_X3_startOnce K R hK hR dnK) (fun r1 K_2 R_3 eq5 hq4 => ?_)
  refine D_lte (y := r1) rfl ?_
  refine D_lte (y := K_2) rfl ?_
  refine D_lte (y := R_3) rfl ?_
  obtain ⟨p6, p7, p8, p9⟩ : (0 ≤ r1.toInt ∧ r1.toInt ≤ 1) ∧ (iR BK K_2) ∧ (iR BR R_3) ∧ (nK K_2) := hq4
  refine D_ite (fun c10 => ?_) (fun c10 => ?_)
  · have kc10 := tq_eq (x := r1) (y := (0 : Int32)) rfl (b := 0) (by decide) c10
    have l0 : (0 : Int32).toInt = 0 := by decide
    exact D_some (show (0 ≤ (0 : Int32).toInt ∧ (0 : Int32).toInt ≤ 1) ∧ (iR BK K_2) ∧ (iR BR R_3) ∧ (iR BP P) ∧ (nK K_2) from ⟨⟨(by omega), (by omega)⟩, p7, p8, hP, p9⟩)
  · have kc100 := tq_eqn (x := r1) (y := (0 : Int32)) rfl (b := 0) (by decide) c10
    have kc10 : 1 ≤ r1.toInt := (by omega)
    clear kc100
    have l0 : (0 : Int32).toInt = 0 := by decide
    have l99999 : (99999 : Int32).toInt = 99999 := by decide
    refine D_bd3 (t_X3_takeNumber K_2 R_3 (0 : Int32) (99999 : Int32) p7 p8 p9) (fun r11 K_12 R_13 eq15 hq14 => ?_)
    refine D_lte (y := r11) rfl ?_
    refine D_lte (y := K_12) rfl ?_
    refine D_lte (y := R_13) rfl ?_
    obtain ⟨p16, p17, p18, p19⟩ : (iR BK K_12) ∧ (iR BR R_13) ∧ (nK K_12) ∧ (r11.toInt = -1 ∨ ((0 : Int32).toInt ≤ r11.toInt ∧ r11.toInt ≤ (99999 : Int32).toInt)) := hq14
    have n20 := i_rng r11
    refine D_lt (fun P_21 eP_21 => ?_)
    have hP_21 : iR BP P_21 := by rw [eP_21]; exact iR_setU hP rfl
    have n22 : (P_21 0 6).toInt = r11.toInt := by rw [eP_21]; rfl
    refine D_ite (fun c23 => ?_) (fun c23 => ?_)
    · have kc23 := tq_lt (x := (P_21 0 6)) (y := (0 : Int32)) rfl (b := 0) (by decide) c23
      exact D_some (show (0 ≤ (0 : Int32).toInt ∧ (0 : Int32).toInt ≤ 1) ∧ (iR BK K_12) ∧ (iR BR R_13) ∧ (iR BP P_21) ∧ (nK K_12) from ⟨⟨(by clear p6 kc10 p19 n20 n22 kc23; omega), (by clear p6 kc10 p19 n20 n22 kc23; omega)⟩, p16, p17, hP_21, p18⟩)
    · have kc23 := tq_ltn (x := (P_21 0 6)) (y := (0 : Int32)) rfl (b := 0) (by decide) c23
      have l1 : (1 : Int32).toInt = 1 := by decide
      exact D_some (show (0 ≤ (1 : Int32).toInt ∧ (1 : Int32).toInt ≤ 1) ∧ (iR BK K_12) ∧ (iR BR R_13) ∧ (iR BP P_21) ∧ (nK K_12) from ⟨⟨(by clear p6 kc10 p19 n20 n22 kc23; omega), (by clear p6 kc10 p19 n20 n22 kc23; omega)⟩, p16, p17, hP_21, p18⟩)
set_option maxHeartbeats 1000000 in
set_option maxRecDepth 100000 in
theorem t_X3_readCurve (K : Tr) (R : Tr) (P : Tr) (hK : iR BK K) (hR : iR BR R) (hP : iR BP P) (dnK : nK K) : D (f_X3_readCurve K R P) (fun (q : Int32 × Tr × Tr × Tr) => (0 ≤ (q.1).toInt ∧ (q.1).toInt ≤ 1) ∧ (iR BK (q.2.1)) ∧ (iR BR (q.2.2.1)) ∧ (iR BP (q.2.2.2)) ∧ (nK (q.2.1))) := by
  unfold f_X3_readCurve
  refine D_bd3 (t_X3_startOnce K R hK hR dnK) (fun r1 K_2 R_3 eq5 hq4 => ?_)
  refine D_lte (y := r1) rfl ?_
  refine D_lte (y := K_2) rfl ?_
  refine D_lte (y := R_3) rfl ?_
  obtain ⟨p6, p7, p8, p9⟩ : (0 ≤ r1.toInt ∧ r1.toInt ≤ 1) ∧ (iR BK K_2) ∧ (iR BR R_3) ∧ (nK K_2) := hq4
  refine D_ite (fun c10 => ?_) (fun c10 => ?_)
  · have kc10 := tq_eq (x := r1) (y := (0 : Int32)) rfl (b := 0) (by decide) c10
    have l0 : (0 : Int32).toInt = 0 := by decide
    exact D_some (show (0 ≤ (0 : Int32).toInt ∧ (0 : Int32).toInt ≤ 1) ∧ (iR BK K_2) ∧ (iR BR R_3) ∧ (iR BP P) ∧ (nK K_2) from ⟨⟨(by omega), (by omega)⟩, p7, p8, hP, p9⟩)
  · have kc100 := tq_eqn (x := r1) (y := (0 : Int32)) rfl (b := 0) (by decide) c10
    have kc10 : 1 ≤ r1.toInt := (by omega)
    clear kc100
    have l0 : (0 : Int32).toInt = 0 := by decide
    have l99 : (99 : Int32).toInt = 99 := by decide
    refine D_bd3 (t_X3_takeNumber K_2 R_3 (0 : Int32) (99 : Int32) p7 p8 p9) (fun r11 K_12 R_13 eq15 hq14 => ?_)
    refine D_lte (y := r11) rfl ?_
    refine D_lte (y := K_12) rfl ?_
    refine D_lte (y := R_13) rfl ?_
    obtain ⟨p16, p17, p18, p19⟩ : (iR BK K_12) ∧ (iR BR R_13) ∧ (nK K_12) ∧ (r11.toInt = -1 ∨ ((0 : Int32).toInt ≤ r11.toInt ∧ r11.toInt ≤ (99 : Int32).toInt)) := hq14
    have n20 := i_rng r11
    refine D_lt (fun P_21 eP_21 => ?_)
    have hP_21 : iR BP P_21 := by rw [eP_21]; exact iR_setU hP rfl
    have n22 : (P_21 0 5).toInt = r11.toInt := by rw [eP_21]; rfl
    refine D_ite (fun c23 => ?_) (fun c23 => ?_)
    · have kc23 := tq_lt (x := (P_21 0 5)) (y := (0 : Int32)) rfl (b := 0) (by decide) c23
      exact D_some (show (0 ≤ (0 : Int32).toInt ∧ (0 : Int32).toInt ≤ 1) ∧ (iR BK K_12) ∧ (iR BR R_13) ∧ (iR BP P_21) ∧ (nK K_12) from ⟨⟨(by clear p6 kc10 p19 n20 n22 kc23; omega), (by clear p6 kc10 p19 n20 n22 kc23; omega)⟩, p16, p17, hP_21, p18⟩)
    · have kc23 := tq_ltn (x := (P_21 0 5)) (y := (0 : Int32)) rfl (b := 0) (by decide) c23
      have l1 : (1 : Int32).toInt = 1 := by decide
      exact D_some (show (0 ≤ (1 : Int32).toInt ∧ (1 : Int32).toInt ≤ 1) ∧ (iR BK K_12) ∧ (iR BR R_13) ∧ (iR BP P_21) ∧ (nK K_12) from ⟨⟨(by clear p6 kc10 p19 n20 n22 kc23; omega), (by clear p6 kc10 p19 n20 n22 kc23; omega)⟩, p16, p17, hP_21, p18⟩)
set_option maxHeartbeats 1000000 in
set_option maxRecDepth 100000 in
theorem t_X3_takeWord (K : Tr) (R : Tr) (x1 : Int32) (x2 : Int32) (hK : iR BK K) (hR : iR BR R) (dnK : nK K) (hx1 : 0 ≤ x1.toInt ∧ x1.toInt ≤ 45) (hx2 : 0 ≤ x2.toInt ∧ x2.toInt ≤ 45) : D (f_X3_takeWord K R x1 x2) (fun (q : Int32 × Tr × Tr) => (iR BK (q.2.1)) ∧ (iR BR (q.2.2)) ∧ (nK (q.2.1)) ∧ ((q.1).toInt = -1 ∨ (0 ≤ (q.1).toInt ∧ (q.1).toInt ≤ x2.toInt - x1.toInt))) := by
  unfold f_X3_takeWord
  refine D_lt (fun y1 ey1 => ?_)
  have n2 : 0 ≤ (K 0 1).toInt ∧ (K 0 1).toInt ≤ 45 := hK 0 1
  have hy1 : y1.toInt = (K 0 1).toInt := by rw [ey1]
  refine D_ite (fun c3 => ?_) (fun c3 => ?_)
  · have kc3 := tq_lt (x := y1) (y := x1) rfl rfl c3
    unfold fJ_X3_takeWord_J23
    unfold fJ_X3_takeWord_J24
    have l0 : (0 : Int32).toInt = 0 := by decide
    have l1 : (1 : Int32).toInt = 1 := by decide
    refine D_bd2 (t_X3_expect K R (0 : Int32) (1 : Int32) hK hR ⟨(by clear hx1 hx2 n2 hy1 kc3; omega), (by clear hx1 hx2 n2 hy1 kc3; omega)⟩) (fun r4 R_5 eq7 hq6 => ?_)
    refine D_lte (y := r4) rfl ?_
    refine D_lte (y := R_5) rfl ?_
    obtain ⟨p8, p9, p10, p11, p12, p13⟩ : (0 ≤ r4.toInt ∧ r4.toInt ≤ 1) ∧ (iR BR R_5) ∧ (R_5 0 8 = (R 0 8)) ∧ (R_5 0 9 = (R 0 9)) ∧ (r4.toInt = (0 : Int32).toInt) ∧ (R_5 8 = R 8) := hq6
    refine D_ite (fun c14 => ?_) (fun c14 => ?_)
    · have kc14 := tq_eq (x := r4) (y := (0 : Int32)) rfl (b := 0) (by decide) c14
      have lm1 : ((-1) : Int32).toInt = (-1) := by decide
      exact D_some (show (iR BK K) ∧ (iR BR R_5) ∧ (nK K) ∧ (((-1) : Int32).toInt = -1 ∨ (0 ≤ ((-1) : Int32).toInt ∧ ((-1) : Int32).toInt ≤ x2.toInt - x1.toInt)) from ⟨hK, p9, dnK, (by clear p8 p12 kc14; omega)⟩)
    · have kc140 := tq_eqn (x := r4) (y := (0 : Int32)) rfl (b := 0) (by decide) c14
      have kc14 : 1 ≤ r4.toInt := (by clear hx1 hx2 n2 hy1 kc3; omega)
      clear kc140
      exfalso
      exact (by clear hx1 hx2 n2 hy1 kc3; omega)
  · have kc3 := tq_ltn (x := y1) (y := x1) rfl rfl c3
    refine D_ite (fun c15 => ?_) (fun c15 => ?_)
    · have kc15 := tq_lt (x := x2) (y := y1) rfl rfl c15
      unfold fJ_X3_takeWord_J23
      unfold fJ_X3_takeWord_J24
      have l0 : (0 : Int32).toInt = 0 := by decide
      have l1 : (1 : Int32).toInt = 1 := by decide
      refine D_bd2 (t_X3_expect K R (0 : Int32) (1 : Int32) hK hR ⟨(by clear hx1 hx2 n2 hy1 kc3 kc15; omega), (by clear hx1 hx2 n2 hy1 kc3 kc15; omega)⟩) (fun r16 R_17 eq19 hq18 => ?_)
      refine D_lte (y := r16) rfl ?_
      refine D_lte (y := R_17) rfl ?_
      obtain ⟨p20, p21, p22, p23, p24, p25⟩ : (0 ≤ r16.toInt ∧ r16.toInt ≤ 1) ∧ (iR BR R_17) ∧ (R_17 0 8 = (R 0 8)) ∧ (R_17 0 9 = (R 0 9)) ∧ (r16.toInt = (0 : Int32).toInt) ∧ (R_17 8 = R 8) := hq18
      refine D_ite (fun c26 => ?_) (fun c26 => ?_)
      · have kc26 := tq_eq (x := r16) (y := (0 : Int32)) rfl (b := 0) (by decide) c26
        have lm1 : ((-1) : Int32).toInt = (-1) := by decide
        exact D_some (show (iR BK K) ∧ (iR BR R_17) ∧ (nK K) ∧ (((-1) : Int32).toInt = -1 ∨ (0 ≤ ((-1) : Int32).toInt ∧ ((-1) : Int32).toInt ≤ x2.toInt - x1.toInt)) from ⟨hK, p21, dnK, (by clear p20 p24 kc26; omega)⟩)
      · have kc260 := tq_eqn (x := r16) (y := (0 : Int32)) rfl (b := 0) (by decide) c26
        have kc26 : 1 ≤ r16.toInt := (by clear hx1 hx2 n2 hy1 kc3 kc15; omega)
        clear kc260
        exfalso
        exact (by clear hx1 hx2 n2 hy1 kc3 kc15; omega)
    · have kc15 := tq_ltn (x := x2) (y := y1) rfl rfl c15
      unfold fJ_X3_takeWord_J24
      have l1 : (1 : Int32).toInt = 1 := by decide
      refine D_bd2 (t_X3_expect K R (1 : Int32) (1 : Int32) hK hR ⟨(by clear hx1 hx2 n2 hy1 kc3 kc15; omega), (by clear hx1 hx2 n2 hy1 kc3 kc15; omega)⟩) (fun r27 R_28 eq30 hq29 => ?_)
      refine D_lte (y := r27) rfl ?_
      refine D_lte (y := R_28) rfl ?_
      obtain ⟨p31, p32, p33, p34, p35, p36⟩ : (0 ≤ r27.toInt ∧ r27.toInt ≤ 1) ∧ (iR BR R_28) ∧ (R_28 0 8 = (R 0 8)) ∧ (R_28 0 9 = (R 0 9)) ∧ (r27.toInt = (1 : Int32).toInt) ∧ (R_28 8 = R 8) := hq29
      refine D_ite (fun c37 => ?_) (fun c37 => ?_)
      · have kc37 := tq_eq (x := r27) (y := (0 : Int32)) rfl (b := 0) (by decide) c37
        exfalso
        exact (by clear hx1 hx2 n2 hy1 kc3 kc15; omega)
      · skip
        refine D_bd (t_X5_advance K hK) (fun K_38 eq40 hq39 => ?_)
        obtain ⟨p41, p42⟩ : (iR BK K_38) ∧ (nK K_38) := hq39
        have n43 : (y1 - x1).toInt = y1.toInt - x1.toInt := i_subK rfl rfl (by omega) (by omega)
        exact D_some (show (iR BK K_38) ∧ (iR BR R_28) ∧ (nK K_38) ∧ ((y1 - x1).toInt = -1 ∨ (0 ≤ (y1 - x1).toInt ∧ (y1 - x1).toInt ≤ x2.toInt - x1.toInt)) from ⟨p41, p32, p42, (by omega)⟩)
set_option maxHeartbeats 1000000 in
set_option maxRecDepth 100000 in
theorem t_X3_readRule (K : Tr) (R : Tr) (P : Tr) (hK : iR BK K) (hR : iR BR R) (hP : iR BP P) (dnK : nK K) : D (f_X3_readRule K R P) (fun (q : Int32 × Tr × Tr × Tr) => (0 ≤ (q.1).toInt ∧ (q.1).toInt ≤ 1) ∧ (iR BK (q.2.1)) ∧ (iR BR (q.2.2.1)) ∧ (iR BP (q.2.2.2)) ∧ (nK (q.2.1))) := by
  unfold f_X3_readRule
  refine D_bd3 (t_X3_startOnce K R hK hR dnK) (fun r1 K_2 R_3 eq5 hq4 => ?_)
  refine D_lte (y := r1) rfl ?_
  refine D_lte (y := K_2) rfl ?_
  refine D_lte (y := R_3) rfl ?_
  obtain ⟨p6, p7, p8, p9⟩ : (0 ≤ r1.toInt ∧ r1.toInt ≤ 1) ∧ (iR BK K_2) ∧ (iR BR R_3) ∧ (nK K_2) := hq4
  refine D_ite (fun c10 => ?_) (fun c10 => ?_)
  · have kc10 := tq_eq (x := r1) (y := (0 : Int32)) rfl (b := 0) (by decide) c10
    have l0 : (0 : Int32).toInt = 0 := by decide
    exact D_some (show (0 ≤ (0 : Int32).toInt ∧ (0 : Int32).toInt ≤ 1) ∧ (iR BK K_2) ∧ (iR BR R_3) ∧ (iR BP P) ∧ (nK K_2) from ⟨⟨(by omega), (by omega)⟩, p7, p8, hP, p9⟩)
  · have kc100 := tq_eqn (x := r1) (y := (0 : Int32)) rfl (b := 0) (by decide) c10
    have kc10 : 1 ≤ r1.toInt := (by omega)
    clear kc100
    have l13 : (13 : Int32).toInt = 13 := by decide
    have l15 : (15 : Int32).toInt = 15 := by decide
    refine D_bd3 (t_X3_takeWord K_2 R_3 (13 : Int32) (15 : Int32) p7 p8 p9 ⟨(by omega), (by omega)⟩ ⟨(by omega), (by omega)⟩) (fun r11 K_12 R_13 eq15 hq14 => ?_)
    refine D_lte (y := r11) rfl ?_
    refine D_lte (y := K_12) rfl ?_
    refine D_lte (y := R_13) rfl ?_
    obtain ⟨p16, p17, p18, p19⟩ : (iR BK K_12) ∧ (iR BR R_13) ∧ (nK K_12) ∧ (r11.toInt = -1 ∨ (0 ≤ r11.toInt ∧ r11.toInt ≤ (15 : Int32).toInt - (13 : Int32).toInt)) := hq14
    have n20 := i_rng r11
    refine D_lt (fun P_21 eP_21 => ?_)
    have hP_21 : iR BP P_21 := by rw [eP_21]; exact iR_setU hP rfl
    have n22 : (P_21 0 4).toInt = r11.toInt := by rw [eP_21]; rfl
    refine D_ite (fun c23 => ?_) (fun c23 => ?_)
    · have kc23 := tq_lt (x := (P_21 0 4)) (y := (0 : Int32)) rfl (b := 0) (by decide) c23
      have l0 : (0 : Int32).toInt = 0 := by decide
      exact D_some (show (0 ≤ (0 : Int32).toInt ∧ (0 : Int32).toInt ≤ 1) ∧ (iR BK K_12) ∧ (iR BR R_13) ∧ (iR BP P_21) ∧ (nK K_12) from ⟨⟨(by clear p6 kc10 p19 n20 n22 kc23; omega), (by clear p6 kc10 p19 n20 n22 kc23; omega)⟩, p16, p17, hP_21, p18⟩)
    · have kc23 := tq_ltn (x := (P_21 0 4)) (y := (0 : Int32)) rfl (b := 0) (by decide) c23
      have l1 : (1 : Int32).toInt = 1 := by decide
      exact D_some (show (0 ≤ (1 : Int32).toInt ∧ (1 : Int32).toInt ≤ 1) ∧ (iR BK K_12) ∧ (iR BR R_13) ∧ (iR BP P_21) ∧ (nK K_12) from ⟨⟨(by clear p6 kc10 p19 n20 n22 kc23; omega), (by clear p6 kc10 p19 n20 n22 kc23; omega)⟩, p16, p17, hP_21, p18⟩)
set_option maxHeartbeats 1000000 in
set_option maxRecDepth 100000 in
theorem t_J6_bitCount_0f7a4 (x0 : Int32)  : D (f_J6_bitCount_0f7a4 x0) (fun (q : Int32) => True) := by
  unfold f_J6_bitCount_0f7a4
  refine D_lt (fun y1 ey1 => ?_)
  have n2 := i_rng (x0 - (((x0.toUInt32 >>> ((1 : Int32).toUInt32 &&& Int32.toUInt32 31)).toInt32) &&& 1431655765))
  have hy1 : y1.toInt = (x0 - (((x0.toUInt32 >>> ((1 : Int32).toUInt32 &&& Int32.toUInt32 31)).toInt32) &&& 1431655765)).toInt := by rw [ey1]
  refine D_lt (fun y3 ey3 => ?_)
  have n4 := i_rng ((y1 &&& 858993459) + (((y1.toUInt32 >>> ((2 : Int32).toUInt32 &&& Int32.toUInt32 31)).toInt32) &&& 858993459))
  have hy3 : y3.toInt = ((y1 &&& 858993459) + (((y1.toUInt32 >>> ((2 : Int32).toUInt32 &&& Int32.toUInt32 31)).toInt32) &&& 858993459)).toInt := by rw [ey3]
  refine D_lt (fun y5 ey5 => ?_)
  have n6 := i_rng ((y3 + ((y3.toUInt32 >>> ((4 : Int32).toUInt32 &&& Int32.toUInt32 31)).toInt32)) &&& 252645135)
  have hy5 : y5.toInt = ((y3 + ((y3.toUInt32 >>> ((4 : Int32).toUInt32 &&& Int32.toUInt32 31)).toInt32)) &&& 252645135).toInt := by rw [ey5]
  refine D_lt (fun y7 ey7 => ?_)
  have n8 := i_rng (y5 + ((y5.toUInt32 >>> ((8 : Int32).toUInt32 &&& Int32.toUInt32 31)).toInt32))
  have hy7 : y7.toInt = (y5 + ((y5.toUInt32 >>> ((8 : Int32).toUInt32 &&& Int32.toUInt32 31)).toInt32)).toInt := by rw [ey7]
  refine D_lt (fun y9 ey9 => ?_)
  have n10 := i_rng (y7 + ((y7.toUInt32 >>> ((16 : Int32).toUInt32 &&& Int32.toUInt32 31)).toInt32))
  have hy9 : y9.toInt = (y7 + ((y7.toUInt32 >>> ((16 : Int32).toUInt32 &&& Int32.toUInt32 31)).toInt32)).toInt := by rw [ey9]
  have n11 := i_rng (y9 &&& 63)
  exact D_some trivial
set_option maxHeartbeats 1000000 in
set_option maxRecDepth 100000 in
theorem t_X3_readWait (K : Tr) (R : Tr) (P : Tr) (hK : iR BK K) (hR : iR BR R) (hP : iR BP P) (dnK : nK K) : D (f_X3_readWait K R P) (fun (q : Int32 × Tr × Tr × Tr) => (0 ≤ (q.1).toInt ∧ (q.1).toInt ≤ 1) ∧ (iR BK (q.2.1)) ∧ (iR BR (q.2.2.1)) ∧ (iR BP (q.2.2.2)) ∧ (nK (q.2.1))) := by
  unfold f_X3_readWait
  have n1 := i_rng (R 0 6)
  refine D_bd (t_J6_bitCount_0f7a4 (R 0 6) ) (fun r2 eq4 hq3 => ?_)
  have n5 := i_rng r2
  refine D_ite (fun c6 => ?_) (fun c6 => ?_)
  · have kc6 := tq_le (x := (10 : Int32)) (y := r2) (a := 10) (by decide) rfl c6
    unfold fJ_X3_readWait_J18
    have l0 : (0 : Int32).toInt = 0 := by decide
    have l2 : (2 : Int32).toInt = 2 := by decide
    refine D_bd2 (t_X3_expect K R (0 : Int32) (2 : Int32) hK hR ⟨(by clear n1 n5 kc6; omega), (by clear n1 n5 kc6; omega)⟩) (fun r7 R_8 eq10 hq9 => ?_)
    refine D_lte (y := r7) rfl ?_
    refine D_lte (y := R_8) rfl ?_
    obtain ⟨p11, p12, p13, p14, p15, p16⟩ : (0 ≤ r7.toInt ∧ r7.toInt ≤ 1) ∧ (iR BR R_8) ∧ (R_8 0 8 = (R 0 8)) ∧ (R_8 0 9 = (R 0 9)) ∧ (r7.toInt = (0 : Int32).toInt) ∧ (R_8 8 = R 8) := hq9
    refine D_ite (fun c17 => ?_) (fun c17 => ?_)
    · have kc17 := tq_eq (x := r7) (y := (0 : Int32)) rfl (b := 0) (by decide) c17
      exact D_some (show (0 ≤ (0 : Int32).toInt ∧ (0 : Int32).toInt ≤ 1) ∧ (iR BK K) ∧ (iR BR R_8) ∧ (iR BP P) ∧ (nK K) from ⟨⟨(by clear n1 n5 kc6 p11 p15 kc17; omega), (by clear n1 n5 kc6 p11 p15 kc17; omega)⟩, hK, p12, hP, dnK⟩)
    · have kc170 := tq_eqn (x := r7) (y := (0 : Int32)) rfl (b := 0) (by decide) c17
      have kc17 : 1 ≤ r7.toInt := (by clear n1 n5 kc6; omega)
      clear kc170
      exfalso
      exact (by clear n1 n5 kc6; omega)
  · have kc6 := tq_len (x := (10 : Int32)) (y := r2) (a := 10) (by decide) rfl c6
    unfold fJ_X3_readWait_J18
    have l1 : (1 : Int32).toInt = 1 := by decide
    have l2 : (2 : Int32).toInt = 2 := by decide
    refine D_bd2 (t_X3_expect K R (1 : Int32) (2 : Int32) hK hR ⟨(by clear n1 n5 kc6; omega), (by clear n1 n5 kc6; omega)⟩) (fun r18 R_19 eq21 hq20 => ?_)
    refine D_lte (y := r18) rfl ?_
    refine D_lte (y := R_19) rfl ?_
    obtain ⟨p22, p23, p24, p25, p26, p27⟩ : (0 ≤ r18.toInt ∧ r18.toInt ≤ 1) ∧ (iR BR R_19) ∧ (R_19 0 8 = (R 0 8)) ∧ (R_19 0 9 = (R 0 9)) ∧ (r18.toInt = (1 : Int32).toInt) ∧ (R_19 8 = R 8) := hq20
    refine D_ite (fun c28 => ?_) (fun c28 => ?_)
    · have kc28 := tq_eq (x := r18) (y := (0 : Int32)) rfl (b := 0) (by decide) c28
      exfalso
      exact (by clear n1 n5 kc6; omega)
    · skip
      refine D_bd (t_X5_advance K hK) (fun K_29 eq31 hq30 => ?_)
      obtain ⟨p32, p33⟩ : (iR BK K_29) ∧ (nK K_29) := hq30
      refine D_lt (fun y34 ey34 => ?_)
      have n35 := i_rng (K_29 0 3)
      have hy34 : y34.toInt = (K_29 0 3).toInt := by rw [ey34]
      have n37 : 0 ≤ (K_29 0 1).toInt ∧ (K_29 0 1).toInt ≤ 45 := p32 0 1
      refine D_ite (fun c36 => ?_) (fun c36 => ?_)
      · have kc36 := tq_eq (x := (K_29 0 1)) (y := (42 : Int32)) rfl (b := 42) (by decide) c36
        have n38 := p33 c36
        have n39 := i_rng (K_29 0 3)
        unfold fJ_X3_readWait_J60
        refine D_bd2 (t_X3_expect K_29 R_19 (1 : Int32) (1 : Int32) p32 p23 ⟨(by clear n1 n5 kc6 p22 p26 n35 hy34 n37 kc36; omega), (by clear n1 n5 kc6 p22 p26 n35 hy34 n37 kc36; omega)⟩) (fun r40 R_41 eq43 hq42 => ?_)
        refine D_lte (y := r40) rfl ?_
        refine D_lte (y := R_41) rfl ?_
        obtain ⟨p44, p45, p46, p47, p48, p49⟩ : (0 ≤ r40.toInt ∧ r40.toInt ≤ 1) ∧ (iR BR R_41) ∧ (R_41 0 8 = (R_19 0 8)) ∧ (R_41 0 9 = (R_19 0 9)) ∧ (r40.toInt = (1 : Int32).toInt) ∧ (R_41 8 = R_19 8) := hq42
        refine D_ite (fun c50 => ?_) (fun c50 => ?_)
        · have kc50 := tq_eq (x := r40) (y := (0 : Int32)) rfl (b := 0) (by decide) c50
          exfalso
          exact (by clear n1 n5 kc6 p22 p26 n35 hy34 n37 kc36; omega)
        · skip
          refine D_ite (fun c51 => ?_) (fun c51 => ?_)
          · have kc51 := tq_le (x := (20 : Int32)) (y := y34) (a := 20) (by decide) rfl c51
            unfold fJ_X3_readWait_J79
            have l0 : (0 : Int32).toInt = 0 := by decide
            refine D_bd2 (t_X3_expect K_29 R_41 (0 : Int32) (2 : Int32) p32 p45 ⟨(by clear n1 n5 kc6 p22 p26 n35 hy34 n37 kc36 p44 p48 kc51; omega), (by clear n1 n5 kc6 p22 p26 n35 hy34 n37 kc36 p44 p48 kc51; omega)⟩) (fun r52 R_53 eq55 hq54 => ?_)
            refine D_lte (y := r52) rfl ?_
            refine D_lte (y := R_53) rfl ?_
            obtain ⟨p56, p57, p58, p59, p60, p61⟩ : (0 ≤ r52.toInt ∧ r52.toInt ≤ 1) ∧ (iR BR R_53) ∧ (R_53 0 8 = (R_41 0 8)) ∧ (R_53 0 9 = (R_41 0 9)) ∧ (r52.toInt = (0 : Int32).toInt) ∧ (R_53 8 = R_41 8) := hq54
            refine D_ite (fun c62 => ?_) (fun c62 => ?_)
            · have kc62 := tq_eq (x := r52) (y := (0 : Int32)) rfl (b := 0) (by decide) c62
              exact D_some (show (0 ≤ (0 : Int32).toInt ∧ (0 : Int32).toInt ≤ 1) ∧ (iR BK K_29) ∧ (iR BR R_53) ∧ (iR BP P) ∧ (nK K_29) from ⟨⟨(by clear n1 n5 kc6 p22 p26 n35 hy34 n37 kc36 p44 p48 kc51 p56 p60 kc62; omega), (by clear n1 n5 kc6 p22 p26 n35 hy34 n37 kc36 p44 p48 kc51 p56 p60 kc62; omega)⟩, p32, p57, hP, p33⟩)
            · have kc620 := tq_eqn (x := r52) (y := (0 : Int32)) rfl (b := 0) (by decide) c62
              have kc62 : 1 ≤ r52.toInt := (by clear n1 n5 kc6 p22 p26 n35 hy34 n37 kc36 p44 p48 kc51; omega)
              clear kc620
              exfalso
              exact (by clear n1 n5 kc6 p22 p26 n35 hy34 n37 kc36 p44 p48 kc51; omega)
          · have kc51 := tq_len (x := (20 : Int32)) (y := y34) (a := 20) (by decide) rfl c51
            unfold fJ_X3_readWait_J79
            refine D_bd2 (t_X3_expect K_29 R_41 (1 : Int32) (2 : Int32) p32 p45 ⟨(by clear n1 n5 kc6 p22 p26 n35 hy34 n37 kc36 p44 p48 kc51; omega), (by clear n1 n5 kc6 p22 p26 n35 hy34 n37 kc36 p44 p48 kc51; omega)⟩) (fun r63 R_64 eq66 hq65 => ?_)
            refine D_lte (y := r63) rfl ?_
            refine D_lte (y := R_64) rfl ?_
            obtain ⟨p67, p68, p69, p70, p71, p72⟩ : (0 ≤ r63.toInt ∧ r63.toInt ≤ 1) ∧ (iR BR R_64) ∧ (R_64 0 8 = (R_41 0 8)) ∧ (R_64 0 9 = (R_41 0 9)) ∧ (r63.toInt = (1 : Int32).toInt) ∧ (R_64 8 = R_41 8) := hq65
            refine D_ite (fun c73 => ?_) (fun c73 => ?_)
            · have kc73 := tq_eq (x := r63) (y := (0 : Int32)) rfl (b := 0) (by decide) c73
              exfalso
              exact (by clear n1 n5 kc6 p22 p26 n35 hy34 n37 kc36 p44 p48 kc51; omega)
            · skip
              have n75 : 0 ≤ (((R_64 0 6) >>> (y34 &&& 31)) &&& 1).toInt ∧ (((R_64 0 6) >>> (y34 &&& 31)) &&& 1).toInt ≤ 1 := i_and1 ((R_64 0 6) >>> (y34 &&& 31))
              refine D_ite (fun c74 => ?_) (fun c74 => ?_)
              · have kc74 := tq_eq (x := (((R_64 0 6) >>> (y34 &&& 31)) &&& 1)) (y := (0 : Int32)) rfl (b := 0) (by decide) c74
                unfold fJ_X3_readWait_J103
                have l3 : (3 : Int32).toInt = 3 := by decide
                refine D_bd2 (t_X3_expect K_29 R_64 (1 : Int32) (3 : Int32) p32 p68 ⟨(by clear n1 n5 kc6 p22 p26 n35 hy34 n37 kc36 p44 p48 kc51 p67 p71 n75 kc74; omega), (by clear n1 n5 kc6 p22 p26 n35 hy34 n37 kc36 p44 p48 kc51 p67 p71 n75 kc74; omega)⟩) (fun r76 R_77 eq79 hq78 => ?_)
                refine D_lte (y := r76) rfl ?_
                refine D_lte (y := R_77) rfl ?_
                obtain ⟨p80, p81, p82, p83, p84, p85⟩ : (0 ≤ r76.toInt ∧ r76.toInt ≤ 1) ∧ (iR BR R_77) ∧ (R_77 0 8 = (R_64 0 8)) ∧ (R_77 0 9 = (R_64 0 9)) ∧ (r76.toInt = (1 : Int32).toInt) ∧ (R_77 8 = R_64 8) := hq78
                refine D_ite (fun c86 => ?_) (fun c86 => ?_)
                · have kc86 := tq_eq (x := r76) (y := (0 : Int32)) rfl (b := 0) (by decide) c86
                  exfalso
                  exact (by clear n1 n5 kc6 p22 p26 n35 hy34 n37 kc36 p44 p48 kc51 p67 p71 n75 kc74; omega)
                · skip
                  refine D_bd (t_X5_advance K_29 p32) (fun K_87 eq89 hq88 => ?_)
                  obtain ⟨p90, p91⟩ : (iR BK K_87) ∧ (nK K_87) := hq88
                  have l0 : (0 : Int32).toInt = 0 := by decide
                  have l999 : (999 : Int32).toInt = 999 := by decide
                  refine D_bd3 (t_X3_takeNumber K_87 R_77 (0 : Int32) (999 : Int32) p90 p81 p91) (fun r92 K_93 R_94 eq96 hq95 => ?_)
                  refine D_lte (y := r92) rfl ?_
                  refine D_lte (y := K_93) rfl ?_
                  refine D_lte (y := R_94) rfl ?_
                  obtain ⟨p97, p98, p99, p100⟩ : (iR BK K_93) ∧ (iR BR R_94) ∧ (nK K_93) ∧ (r92.toInt = -1 ∨ ((0 : Int32).toInt ≤ r92.toInt ∧ r92.toInt ≤ (999 : Int32).toInt)) := hq95
                  have n101 := i_rng r92
                  refine D_ite (fun c102 => ?_) (fun c102 => ?_)
                  · have kc102 := tq_le (x := (0 : Int32)) (y := r92) (a := 0) (by decide) rfl c102
                    refine D_lt (fun R_103 eR_103 => ?_)
                    have hR_103 : iR BR R_103 := by rw [eR_103]; exact iR_setU p98 rfl
                    refine D_ck (okI_of (by clear n1 n5 kc6 p22 p26 n37 kc36 p44 p48 p67 p71 n75 kc74 p80 p84 p100 n101 kc102; omega) (by clear n1 n5 kc6 p22 p26 n37 kc36 p44 p48 p67 p71 n75 kc74 p80 p84 p100 n101 kc102; omega)) ?_
                    refine D_lt (fun P_104 eP_104 => ?_)
                    have hP_104 : iR BP P_104 := by rw [eP_104]; exact iR_setU hP rfl
                    exact D_some (show (0 ≤ (1 : Int32).toInt ∧ (1 : Int32).toInt ≤ 1) ∧ (iR BK K_93) ∧ (iR BR R_103) ∧ (iR BP P_104) ∧ (nK K_93) from ⟨⟨(by clear n1 n5 kc6 p22 p26 n35 hy34 n37 kc36 p44 p48 kc51 p67 p71 n75 kc74 p80 p84 p100 n101 kc102; omega), (by clear n1 n5 kc6 p22 p26 n35 hy34 n37 kc36 p44 p48 kc51 p67 p71 n75 kc74 p80 p84 p100 n101 kc102; omega)⟩, p97, hR_103, hP_104, p99⟩)
                  · have kc102 := tq_len (x := (0 : Int32)) (y := r92) (a := 0) (by decide) rfl c102
                    exact D_some (show (0 ≤ (0 : Int32).toInt ∧ (0 : Int32).toInt ≤ 1) ∧ (iR BK K_93) ∧ (iR BR R_94) ∧ (iR BP P) ∧ (nK K_93) from ⟨⟨(by clear n1 n5 kc6 p22 p26 n35 hy34 n37 kc36 p44 p48 kc51 p67 p71 n75 kc74 p80 p84 p100 n101 kc102; omega), (by clear n1 n5 kc6 p22 p26 n35 hy34 n37 kc36 p44 p48 kc51 p67 p71 n75 kc74 p80 p84 p100 n101 kc102; omega)⟩, p97, p98, hP, p99⟩)
              · have kc740 := tq_eqn (x := (((R_64 0 6) >>> (y34 &&& 31)) &&& 1)) (y := (0 : Int32)) rfl (b := 0) (by decide) c74
                have kc74 : 1 ≤ (((R_64 0 6) >>> (y34 &&& 31)) &&& 1).toInt := (by clear n1 n5 kc6 p22 p26 n35 hy34 n37 kc36 p44 p48 kc51 p67 p71; omega)
                clear kc740
                unfold fJ_X3_readWait_J103
                have l0 : (0 : Int32).toInt = 0 := by decide
                have l3 : (3 : Int32).toInt = 3 := by decide
                refine D_bd2 (t_X3_expect K_29 R_64 (0 : Int32) (3 : Int32) p32 p68 ⟨(by clear n1 n5 kc6 p22 p26 n35 hy34 n37 kc36 p44 p48 kc51 p67 p71 n75 kc74; omega), (by clear n1 n5 kc6 p22 p26 n35 hy34 n37 kc36 p44 p48 kc51 p67 p71 n75 kc74; omega)⟩) (fun r105 R_106 eq108 hq107 => ?_)
                refine D_lte (y := r105) rfl ?_
                refine D_lte (y := R_106) rfl ?_
                obtain ⟨p109, p110, p111, p112, p113, p114⟩ : (0 ≤ r105.toInt ∧ r105.toInt ≤ 1) ∧ (iR BR R_106) ∧ (R_106 0 8 = (R_64 0 8)) ∧ (R_106 0 9 = (R_64 0 9)) ∧ (r105.toInt = (0 : Int32).toInt) ∧ (R_106 8 = R_64 8) := hq107
                refine D_ite (fun c115 => ?_) (fun c115 => ?_)
                · have kc115 := tq_eq (x := r105) (y := (0 : Int32)) rfl (b := 0) (by decide) c115
                  exact D_some (show (0 ≤ (0 : Int32).toInt ∧ (0 : Int32).toInt ≤ 1) ∧ (iR BK K_29) ∧ (iR BR R_106) ∧ (iR BP P) ∧ (nK K_29) from ⟨⟨(by clear n1 n5 kc6 p22 p26 n35 hy34 n37 kc36 p44 p48 kc51 p67 p71 n75 kc74 p109 p113 kc115; omega), (by clear n1 n5 kc6 p22 p26 n35 hy34 n37 kc36 p44 p48 kc51 p67 p71 n75 kc74 p109 p113 kc115; omega)⟩, p32, p110, hP, p33⟩)
                · have kc1150 := tq_eqn (x := r105) (y := (0 : Int32)) rfl (b := 0) (by decide) c115
                  have kc115 : 1 ≤ r105.toInt := (by clear n1 n5 kc6 p22 p26 n35 hy34 n37 kc36 p44 p48 kc51 p67 p71 n75 kc74; omega)
                  clear kc1150
                  exfalso
                  exact (by clear n1 n5 kc6 p22 p26 n35 hy34 n37 kc36 p44 p48 kc51 p67 p71 n75 kc74; omega)
      · skip
        unfold fJ_X3_readWait_J60
        have l0 : (0 : Int32).toInt = 0 := by decide
        refine D_bd2 (t_X3_expect K_29 R_19 (0 : Int32) (1 : Int32) p32 p23 ⟨(by clear n1 n5 kc6 p22 p26 n35 hy34 n37; omega), (by clear n1 n5 kc6 p22 p26 n35 hy34 n37; omega)⟩) (fun r116 R_117 eq119 hq118 => ?_)
        refine D_lte (y := r116) rfl ?_
        refine D_lte (y := R_117) rfl ?_
        obtain ⟨p120, p121, p122, p123, p124, p125⟩ : (0 ≤ r116.toInt ∧ r116.toInt ≤ 1) ∧ (iR BR R_117) ∧ (R_117 0 8 = (R_19 0 8)) ∧ (R_117 0 9 = (R_19 0 9)) ∧ (r116.toInt = (0 : Int32).toInt) ∧ (R_117 8 = R_19 8) := hq118
        refine D_ite (fun c126 => ?_) (fun c126 => ?_)
        · have kc126 := tq_eq (x := r116) (y := (0 : Int32)) rfl (b := 0) (by decide) c126
          exact D_some (show (0 ≤ (0 : Int32).toInt ∧ (0 : Int32).toInt ≤ 1) ∧ (iR BK K_29) ∧ (iR BR R_117) ∧ (iR BP P) ∧ (nK K_29) from ⟨⟨(by clear n1 n5 kc6 p22 p26 n35 hy34 n37 p120 p124 kc126; omega), (by clear n1 n5 kc6 p22 p26 n35 hy34 n37 p120 p124 kc126; omega)⟩, p32, p121, hP, p33⟩)
        · have kc1260 := tq_eqn (x := r116) (y := (0 : Int32)) rfl (b := 0) (by decide) c126
          have kc126 : 1 ≤ r116.toInt := (by clear n1 n5 kc6 p22 p26 n35 hy34 n37; omega)
          clear kc1260
          exfalso
          exact (by clear n1 n5 kc6 p22 p26 n35 hy34 n37; omega)
set_option maxHeartbeats 1000000 in
set_option maxRecDepth 100000 in
theorem tl_X2_personNamed_L2 (P : Tr) (x1 : Int32) (hP : iR BP P)   (N : Nat) : ∀ (x2 : Int32), 0 ≤ x2.toInt ∧ x2.toInt ≤ 1000 → 1000 - x2.toInt < (N : Int) → D (lpF (fun _ => none) (fB_X2_personNamed_L2 P x1) N x2) (fun (q : Int32) => ((-1) ≤ q.toInt ∧ q.toInt ≤ 5)) := by
  induction N with
  | zero =>
    intro x2 hx2 hN
    exfalso
    omega
  | succ N2 ih =>
    intro x2 hx2 hN
    have hk2 : ∀ (x2 : Int32), 0 ≤ x2.toInt ∧ x2.toInt ≤ 1000 → 1000 - x2.toInt < (N2 : Int) → D (lpF (fun _ => none) (fB_X2_personNamed_L2 P x1) N2 x2) (fun (q : Int32) => ((-1) ≤ q.toInt ∧ q.toInt ≤ 5)) := ih
    show D (fB_X2_personNamed_L2 P x1 (lpF (fun _ => none) (fB_X2_personNamed_L2 P x1) N2) x2) _
    generalize lpF (fun _ => none) (fB_X2_personNamed_L2 P x1) N2 = k2 at hk2 ⊢
    have hN2 : 1000 - x2.toInt < (N2 : Int) + 1 := by omega
    clear ih
    unfold fB_X2_personNamed_L2
    have n2 : 0 ≤ (P 0 1).toInt ∧ (P 0 1).toInt ≤ 6 := hP 0 1
    refine D_ite (fun c1 => ?_) (fun c1 => ?_)
    · have kc1 := tq_le (x := (P 0 1)) (y := x2) rfl rfl c1
      have lm1 : ((-1) : Int32).toInt = (-1) := by decide
      exact D_some (show ((-1) ≤ ((-1) : Int32).toInt ∧ ((-1) : Int32).toInt ≤ 5) from ⟨(by clear hx2 hN2 hN n2 kc1; omega), (by clear hx2 hN2 hN n2 kc1; omega)⟩)
    · have kc1 := tq_len (x := (P 0 1)) (y := x2) rfl rfl c1
      refine D_ck (okI_of (by omega) (by omega)) ?_
      have n4 := i_rng (P 10 x2.toNatClampNeg)
      have n5 := i_rng x1
      refine D_ite (fun c3 => ?_) (fun c3 => ?_)
      · have kc3 := tq_eq (x := (P 10 x2.toNatClampNeg)) (y := x1) rfl rfl c3
        exact D_some (show ((-1) ≤ x2.toInt ∧ x2.toInt ≤ 5) from ⟨(by clear hN2 hN n4 n5 kc3; omega), (by clear hN2 hN n4 n5 kc3; omega)⟩)
      · skip
        have n7 : (x2 + 1).toInt = x2.toInt + 1 := i_addK rfl (by decide) (by clear hN2 hN n4 n5; omega) (by clear hN2 hN n4 n5; omega)
        refine D_lt (fun y6 ey6 => ?_)
        have hy6 : y6.toInt = (x2 + 1 : Int32).toInt := by rw [ey6]
        exact hk2 y6 ⟨(by clear hN2 hN n4 n5; omega), (by clear hN2 hN n4 n5; omega)⟩ (by omega)
set_option maxHeartbeats 1000000 in
set_option maxRecDepth 100000 in
theorem t_X2_personNamed (P : Tr) (x1 : Int32) (hP : iR BP P) : D (f_X2_personNamed P x1) (fun (q : Int32) => ((-1) ≤ q.toInt ∧ q.toInt ≤ 5)) := by
  unfold f_X2_personNamed
  have l0 : (0 : Int32).toInt = 0 := by decide
  have n8 := i_rng x1
  exact tl_X2_personNamed_L2 P x1 hP   2000 (0 : Int32) ⟨(by omega), (by omega)⟩ (by omega)
set_option maxHeartbeats 1000000 in
set_option maxRecDepth 100000 in
theorem t_X3_readPiece (K : Tr) (R : Tr) (P : Tr) (hK : iR BK K) (hR : iR BR R) (hP : iR BP P) (dnK : nK K) : D (f_X3_readPiece K R P) (fun (q : Int32 × Tr × Tr × Tr) => (0 ≤ (q.1).toInt ∧ (q.1).toInt ≤ 1) ∧ (iR BK (q.2.1)) ∧ (iR BR (q.2.2.1)) ∧ (iR BP (q.2.2.2)) ∧ (nK (q.2.1))) := by
  unfold f_X3_readPiece
  refine D_lt (fun y1 ey1 => ?_)
  have n2 : 0 ≤ (P 0 2).toInt ∧ (P 0 2).toInt ≤ 10 := hP 0 2
  have hy1 : y1.toInt = (P 0 2).toInt := by rw [ey1]
  refine D_ite (fun c3 => ?_) (fun c3 => ?_)
  · have kc3 := tq_le (x := (10 : Int32)) (y := y1) (a := 10) (by decide) rfl c3
    unfold fJ_X3_readPiece_J20
    have l0 : (0 : Int32).toInt = 0 := by decide
    have l2 : (2 : Int32).toInt = 2 := by decide
    refine D_bd2 (t_X3_expect K R (0 : Int32) (2 : Int32) hK hR ⟨(by clear n2 hy1 kc3; omega), (by clear n2 hy1 kc3; omega)⟩) (fun r4 R_5 eq7 hq6 => ?_)
    refine D_lte (y := r4) rfl ?_
    refine D_lte (y := R_5) rfl ?_
    obtain ⟨p8, p9, p10, p11, p12, p13⟩ : (0 ≤ r4.toInt ∧ r4.toInt ≤ 1) ∧ (iR BR R_5) ∧ (R_5 0 8 = (R 0 8)) ∧ (R_5 0 9 = (R 0 9)) ∧ (r4.toInt = (0 : Int32).toInt) ∧ (R_5 8 = R 8) := hq6
    refine D_ite (fun c14 => ?_) (fun c14 => ?_)
    · have kc14 := tq_eq (x := r4) (y := (0 : Int32)) rfl (b := 0) (by decide) c14
      exact D_some (show (0 ≤ (0 : Int32).toInt ∧ (0 : Int32).toInt ≤ 1) ∧ (iR BK K) ∧ (iR BR R_5) ∧ (iR BP P) ∧ (nK K) from ⟨⟨(by clear n2 hy1 kc3 p8 p12 kc14; omega), (by clear n2 hy1 kc3 p8 p12 kc14; omega)⟩, hK, p9, hP, dnK⟩)
    · have kc140 := tq_eqn (x := r4) (y := (0 : Int32)) rfl (b := 0) (by decide) c14
      have kc14 : 1 ≤ r4.toInt := (by clear n2 hy1 kc3; omega)
      clear kc140
      exfalso
      exact (by clear n2 hy1 kc3; omega)
  · have kc3 := tq_len (x := (10 : Int32)) (y := y1) (a := 10) (by decide) rfl c3
    unfold fJ_X3_readPiece_J20
    have l1 : (1 : Int32).toInt = 1 := by decide
    have l2 : (2 : Int32).toInt = 2 := by decide
    refine D_bd2 (t_X3_expect K R (1 : Int32) (2 : Int32) hK hR ⟨(by clear n2 hy1 kc3; omega), (by clear n2 hy1 kc3; omega)⟩) (fun r15 R_16 eq18 hq17 => ?_)
    refine D_lte (y := r15) rfl ?_
    refine D_lte (y := R_16) rfl ?_
    obtain ⟨p19, p20, p21, p22, p23, p24⟩ : (0 ≤ r15.toInt ∧ r15.toInt ≤ 1) ∧ (iR BR R_16) ∧ (R_16 0 8 = (R 0 8)) ∧ (R_16 0 9 = (R 0 9)) ∧ (r15.toInt = (1 : Int32).toInt) ∧ (R_16 8 = R 8) := hq17
    refine D_ite (fun c25 => ?_) (fun c25 => ?_)
    · have kc25 := tq_eq (x := r15) (y := (0 : Int32)) rfl (b := 0) (by decide) c25
      exfalso
      exact (by clear n2 hy1 kc3; omega)
    · skip
      refine D_bd (t_X5_advance K hK) (fun K_26 eq28 hq27 => ?_)
      obtain ⟨p29, p30⟩ : (iR BK K_26) ∧ (nK K_26) := hq27
      have n31 := i_rng (K_26 0 3)
      refine D_bd (t_X2_personNamed P (K_26 0 3) hP) (fun r32 eq34 hq33 => ?_)
      have p35 : (-1) ≤ r32.toInt ∧ r32.toInt ≤ 5 := hq33
      have n37 : 0 ≤ (K_26 0 1).toInt ∧ (K_26 0 1).toInt ≤ 45 := p29 0 1
      refine D_ite (fun c36 => ?_) (fun c36 => ?_)
      · have kc36 := tq_eq (x := (K_26 0 1)) (y := (43 : Int32)) rfl (b := 43) (by decide) c36
        unfold fJ_X3_readPiece_J69
        refine D_bd2 (t_X3_expect K_26 R_16 (1 : Int32) (1 : Int32) p29 p20 ⟨(by clear n2 hy1 kc3 p19 p23 n31 p35 n37 kc36; omega), (by clear n2 hy1 kc3 p19 p23 n31 p35 n37 kc36; omega)⟩) (fun r38 R_39 eq41 hq40 => ?_)
        refine D_lte (y := r38) rfl ?_
        refine D_lte (y := R_39) rfl ?_
        obtain ⟨p42, p43, p44, p45, p46, p47⟩ : (0 ≤ r38.toInt ∧ r38.toInt ≤ 1) ∧ (iR BR R_39) ∧ (R_39 0 8 = (R_16 0 8)) ∧ (R_39 0 9 = (R_16 0 9)) ∧ (r38.toInt = (1 : Int32).toInt) ∧ (R_39 8 = R_16 8) := hq40
        refine D_ite (fun c48 => ?_) (fun c48 => ?_)
        · have kc48 := tq_eq (x := r38) (y := (0 : Int32)) rfl (b := 0) (by decide) c48
          exfalso
          exact (by clear n2 hy1 kc3 p19 p23 n31 p35 n37 kc36; omega)
        · skip
          refine D_ite (fun c49 => ?_) (fun c49 => ?_)
          · have kc49 := tq_lt (x := r32) (y := (0 : Int32)) rfl (b := 0) (by decide) c49
            unfold fJ_X3_readPiece_J86
            have l0 : (0 : Int32).toInt = 0 := by decide
            have l4 : (4 : Int32).toInt = 4 := by decide
            refine D_bd2 (t_X3_expect K_26 R_39 (0 : Int32) (4 : Int32) p29 p43 ⟨(by clear n2 hy1 kc3 p19 p23 n31 p35 n37 kc36 p42 p46 kc49; omega), (by clear n2 hy1 kc3 p19 p23 n31 p35 n37 kc36 p42 p46 kc49; omega)⟩) (fun r50 R_51 eq53 hq52 => ?_)
            refine D_lte (y := r50) rfl ?_
            refine D_lte (y := R_51) rfl ?_
            obtain ⟨p54, p55, p56, p57, p58, p59⟩ : (0 ≤ r50.toInt ∧ r50.toInt ≤ 1) ∧ (iR BR R_51) ∧ (R_51 0 8 = (R_39 0 8)) ∧ (R_51 0 9 = (R_39 0 9)) ∧ (r50.toInt = (0 : Int32).toInt) ∧ (R_51 8 = R_39 8) := hq52
            refine D_ite (fun c60 => ?_) (fun c60 => ?_)
            · have kc60 := tq_eq (x := r50) (y := (0 : Int32)) rfl (b := 0) (by decide) c60
              exact D_some (show (0 ≤ (0 : Int32).toInt ∧ (0 : Int32).toInt ≤ 1) ∧ (iR BK K_26) ∧ (iR BR R_51) ∧ (iR BP P) ∧ (nK K_26) from ⟨⟨(by clear n2 hy1 kc3 p19 p23 n31 p35 n37 kc36 p42 p46 kc49 p54 p58 kc60; omega), (by clear n2 hy1 kc3 p19 p23 n31 p35 n37 kc36 p42 p46 kc49 p54 p58 kc60; omega)⟩, p29, p55, hP, p30⟩)
            · have kc600 := tq_eqn (x := r50) (y := (0 : Int32)) rfl (b := 0) (by decide) c60
              have kc60 : 1 ≤ r50.toInt := (by clear n2 hy1 kc3 p19 p23 n31 p35 n37 kc36 p42 p46 kc49; omega)
              clear kc600
              exfalso
              exact (by clear n2 hy1 kc3 p19 p23 n31 p35 n37 kc36 p42 p46 kc49; omega)
          · have kc49 := tq_ltn (x := r32) (y := (0 : Int32)) rfl (b := 0) (by decide) c49
            unfold fJ_X3_readPiece_J86
            have l4 : (4 : Int32).toInt = 4 := by decide
            refine D_bd2 (t_X3_expect K_26 R_39 (1 : Int32) (4 : Int32) p29 p43 ⟨(by clear n2 hy1 kc3 p19 p23 n31 p35 n37 kc36 p42 p46 kc49; omega), (by clear n2 hy1 kc3 p19 p23 n31 p35 n37 kc36 p42 p46 kc49; omega)⟩) (fun r61 R_62 eq64 hq63 => ?_)
            refine D_lte (y := r61) rfl ?_
            refine D_lte (y := R_62) rfl ?_
            obtain ⟨p65, p66, p67, p68, p69, p70⟩ : (0 ≤ r61.toInt ∧ r61.toInt ≤ 1) ∧ (iR BR R_62) ∧ (R_62 0 8 = (R_39 0 8)) ∧ (R_62 0 9 = (R_39 0 9)) ∧ (r61.toInt = (1 : Int32).toInt) ∧ (R_62 8 = R_39 8) := hq63
            refine D_ite (fun c71 => ?_) (fun c71 => ?_)
            · have kc71 := tq_eq (x := r61) (y := (0 : Int32)) rfl (b := 0) (by decide) c71
              exfalso
              exact (by clear n2 hy1 kc3 p19 p23 n31 p35 n37 kc36 p42 p46 kc49; omega)
            · skip
              refine D_bd (t_X5_advance K_26 p29) (fun K_72 eq74 hq73 => ?_)
              obtain ⟨p75, p76⟩ : (iR BK K_72) ∧ (nK K_72) := hq73
              have l99 : (99 : Int32).toInt = 99 := by decide
              refine D_bd3 (t_X3_takeNumber K_72 R_62 (1 : Int32) (99 : Int32) p75 p66 p76) (fun r77 K_78 R_79 eq81 hq80 => ?_)
              refine D_lte (y := r77) rfl ?_
              refine D_lte (y := K_78) rfl ?_
              refine D_lte (y := R_79) rfl ?_
              obtain ⟨p82, p83, p84, p85⟩ : (iR BK K_78) ∧ (iR BR R_79) ∧ (nK K_78) ∧ (r77.toInt = -1 ∨ ((1 : Int32).toInt ≤ r77.toInt ∧ r77.toInt ≤ (99 : Int32).toInt)) := hq80
              have n86 := i_rng r77
              refine D_ite (fun c87 => ?_) (fun c87 => ?_)
              · have kc87 := tq_le (x := (0 : Int32)) (y := r77) (a := 0) (by decide) rfl c87
                have l0 : (0 : Int32).toInt = 0 := by decide
                have l9 : (9 : Int32).toInt = 9 := by decide
                refine D_bd3 (t_X3_takeNumber K_78 R_79 (0 : Int32) (9 : Int32) p82 p83 p84) (fun r88 K_89 R_90 eq92 hq91 => ?_)
                refine D_lte (y := r88) rfl ?_
                refine D_lte (y := K_89) rfl ?_
                refine D_lte (y := R_90) rfl ?_
                obtain ⟨p93, p94, p95, p96⟩ : (iR BK K_89) ∧ (iR BR R_90) ∧ (nK K_89) ∧ (r88.toInt = -1 ∨ ((0 : Int32).toInt ≤ r88.toInt ∧ r88.toInt ≤ (9 : Int32).toInt)) := hq91
                have n97 := i_rng r88
                unfold fJ_X3_readPiece_J125
                refine D_ite (fun c98 => ?_) (fun c98 => ?_)
                · have kc98 := tq_le (x := (0 : Int32)) (y := r88) (a := 0) (by decide) rfl c98
                  have n100 : 0 ≤ (K_89 0 1).toInt ∧ (K_89 0 1).toInt ≤ 45 := p93 0 1
                  refine D_ite (fun c99 => ?_) (fun c99 => ?_)
                  · have kc99 := tq_eq (x := (K_89 0 1)) (y := (42 : Int32)) rfl (b := 42) (by decide) c99
                    have n101 := p95 c99
                    have n102 := i_rng (K_89 0 3)
                    refine D_lt (fun y103 ey103 => ?_)
                    have hy103 : y103.toInt = (K_89 0 3).toInt := by rw [ey103]
                    have n105 : 0 ≤ (P 0 0).toInt ∧ (P 0 0).toInt ≤ 5 := hP 0 0
                    refine D_ite (fun c104 => ?_) (fun c104 => ?_)
                    · have kc104 := tq_le (x := (P 0 0)) (y := y103) rfl rfl c104
                      unfold fJ_X3_readPiece_J176
                      refine D_bd2 (t_X3_expect K_89 R_90 (0 : Int32) (4 : Int32) p93 p94 ⟨(by clear n2 hy1 kc3 p19 p23 n31 p35 n37 kc36 p42 p46 kc49 p65 p69 p85 n86 kc87 p96 n97 kc98 n100 kc99 hy103 n105 kc104; omega), (by clear n2 hy1 kc3 p19 p23 n31 p35 n37 kc36 p42 p46 kc49 p65 p69 p85 n86 kc87 p96 n97 kc98 n100 kc99 hy103 n105 kc104; omega)⟩) (fun r106 R_107 eq109 hq108 => ?_)
                      refine D_lte (y := r106) rfl ?_
                      refine D_lte (y := R_107) rfl ?_
                      obtain ⟨p110, p111, p112, p113, p114, p115⟩ : (0 ≤ r106.toInt ∧ r106.toInt ≤ 1) ∧ (iR BR R_107) ∧ (R_107 0 8 = (R_90 0 8)) ∧ (R_107 0 9 = (R_90 0 9)) ∧ (r106.toInt = (0 : Int32).toInt) ∧ (R_107 8 = R_90 8) := hq108
                      refine D_ite (fun c116 => ?_) (fun c116 => ?_)
                      · have kc116 := tq_eq (x := r106) (y := (0 : Int32)) rfl (b := 0) (by decide) c116
                        exact D_some (show (0 ≤ (0 : Int32).toInt ∧ (0 : Int32).toInt ≤ 1) ∧ (iR BK K_89) ∧ (iR BR R_107) ∧ (iR BP P) ∧ (nK K_89) from ⟨⟨(by clear n2 hy1 kc3 p19 p23 n31 p35 n37 kc36 p42 p46 kc49 p65 p69 p85 n86 kc87 p96 n97 kc98 n100 kc99 hy103 n105 kc104 p110 p114 kc116; omega), (by clear n2 hy1 kc3 p19 p23 n31 p35 n37 kc36 p42 p46 kc49 p65 p69 p85 n86 kc87 p96 n97 kc98 n100 kc99 hy103 n105 kc104 p110 p114 kc116; omega)⟩, p93, p111, hP, p95⟩)
                      · have kc1160 := tq_eqn (x := r106) (y := (0 : Int32)) rfl (b := 0) (by decide) c116
                        have kc116 : 1 ≤ r106.toInt := (by clear n2 hy1 kc3 p19 p23 n31 p35 n37 kc36 p42 p46 kc49 p65 p69 p85 n86 kc87 p96 n97 kc98 n100 kc99 hy103 n105 kc104; omega)
                        clear kc1160
                        exfalso
                        exact (by clear n2 hy1 kc3 p19 p23 n31 p35 n37 kc36 p42 p46 kc49 p65 p69 p85 n86 kc87 p96 n97 kc98 n100 kc99 hy103 n105 kc104; omega)
                    · have kc104 := tq_len (x := (P 0 0)) (y := y103) rfl rfl c104
                      unfold fJ_X3_readPiece_J176
                      refine D_bd2 (t_X3_expect K_89 R_90 (1 : Int32) (4 : Int32) p93 p94 ⟨(by clear n2 hy1 kc3 p19 p23 n31 p35 n37 kc36 p42 p46 kc49 p65 p69 p85 n86 kc87 p96 n97 kc98 n100 kc99 hy103 n105 kc104; omega), (by clear n2 hy1 kc3 p19 p23 n31 p35 n37 kc36 p42 p46 kc49 p65 p69 p85 n86 kc87 p96 n97 kc98 n100 kc99 hy103 n105 kc104; omega)⟩) (fun r117 R_118 eq120 hq119 => ?_)
                      refine D_lte (y := r117) rfl ?_
                      refine D_lte (y := R_118) rfl ?_
                      obtain ⟨p121, p122, p123, p124, p125, p126⟩ : (0 ≤ r117.toInt ∧ r117.toInt ≤ 1) ∧ (iR BR R_118) ∧ (R_118 0 8 = (R_90 0 8)) ∧ (R_118 0 9 = (R_90 0 9)) ∧ (r117.toInt = (1 : Int32).toInt) ∧ (R_118 8 = R_90 8) := hq119
                      refine D_ite (fun c127 => ?_) (fun c127 => ?_)
                      · have kc127 := tq_eq (x := r117) (y := (0 : Int32)) rfl (b := 0) (by decide) c127
                        exfalso
                        exact (by clear n2 hy1 kc3 p19 p23 n31 p35 n37 kc36 p42 p46 kc49 p65 p69 p85 n86 kc87 p96 n97 kc98 n100 kc99 hy103 n105 kc104; omega)
                      · skip
                        refine D_bd (t_X5_advance K_89 p93) (fun K_128 eq130 hq129 => ?_)
                        obtain ⟨p131, p132⟩ : (iR BK K_128) ∧ (nK K_128) := hq129
                        unfold fJ_X3_readPiece_J192
                        refine D_ck (okI_of (by clear p19 p23 n31 p35 n37 kc36 p42 p46 kc49 p65 p69 p85 n86 kc87 p96 n97 kc98 n100 kc99 hy103 n105 kc104 p121 p125; omega) (by clear p19 p23 n31 p35 n37 kc36 p42 p46 kc49 p65 p69 p85 n86 kc87 p96 n97 kc98 n100 kc99 hy103 n105 kc104 p121 p125; omega)) ?_
                        refine D_lt (fun P_133 eP_133 => ?_)
                        have hP_133 : iR BP P_133 := by rw [eP_133]; exact iR_set hP (show (0 : Int) ≤ _ from (by clear n2 hy1 kc3 p19 p23 n31 n37 kc36 p42 p46 p65 p69 p85 n86 kc87 p96 n97 kc98 n100 kc99 hy103 n105 kc104 p121 p125; omega)) (show _ ≤ (5 : Int) from (by clear n2 hy1 kc3 p19 p23 n31 n37 kc36 p42 p46 p65 p69 p85 n86 kc87 p96 n97 kc98 n100 kc99 hy103 n105 kc104 p121 p125; omega))
                        have n134 : (P_133 0 0).toInt = (P 0 0).toInt := by rw [eP_133]; rfl
                        have n135 : (P_133 0 2).toInt = (P 0 2).toInt := by rw [eP_133]; rfl
                        refine D_lt (fun P_136 eP_136 => ?_)
                        have hP_136 : iR BP P_136 := by rw [eP_136]; exact iR_setU hP_133 rfl
                        have n137 : (P_136 0 0).toInt = (P_133 0 0).toInt := by rw [eP_136]; rfl
                        have n138 : (P_136 0 2).toInt = (P_133 0 2).toInt := by rw [eP_136]; rfl
                        refine D_lt (fun P_139 eP_139 => ?_)
                        have hP_139 : iR BP P_139 := by rw [eP_139]; exact iR_setU hP_136 rfl
                        have n140 : (P_139 0 0).toInt = (P_136 0 0).toInt := by rw [eP_139]; rfl
                        have n141 : (P_139 0 2).toInt = (P_136 0 2).toInt := by rw [eP_139]; rfl
                        refine D_lt (fun P_142 eP_142 => ?_)
                        have hP_142 : iR BP P_142 := by rw [eP_142]; exact iR_set hP_139 (show ((-1) : Int) ≤ _ from (by clear n2 hy1 kc3 p19 p23 n31 p35 n37 kc36 p42 p46 kc49 p65 p69 p85 n86 kc87 p96 n97 kc98 n100 kc99 p121 p125 n135 n138 n141; omega)) (show _ ≤ (4 : Int) from (by clear n2 hy1 kc3 p19 p23 n31 p35 n37 kc36 p42 p46 kc49 p65 p69 p85 n86 kc87 p96 n97 kc98 n100 kc99 p121 p125 n135 n138 n141; omega))
                        have n143 : (P_142 0 2).toInt = (P_139 0 2).toInt := by rw [eP_142]; rfl
                        have n144 : (P_142 0 0).toInt = (P_139 0 0).toInt := by rw [eP_142]; rfl
                        have n146 : ((P_142 0 2) + 1).toInt = (P_142 0 2).toInt + 1 := i_addK rfl (by decide) (by clear p19 p23 n31 p35 n37 kc36 p42 p46 kc49 p65 p69 p85 n86 kc87 p96 n97 kc98 n100 kc99 hy103 n105 kc104 p121 p125 n134 n137 n140 n144; omega) (by clear p19 p23 n31 p35 n37 kc36 p42 p46 kc49 p65 p69 p85 n86 kc87 p96 n97 kc98 n100 kc99 hy103 n105 kc104 p121 p125 n134 n137 n140 n144; omega)
                        refine D_lt (fun P_145 eP_145 => ?_)
                        have hP_145 : iR BP P_145 := by rw [eP_145]; exact iR_set hP_142 (show (0 : Int) ≤ _ from (by clear p19 p23 n31 p35 n37 kc36 p42 p46 kc49 p65 p69 p85 n86 kc87 p96 n97 kc98 n100 kc99 hy103 n105 kc104 p121 p125 n134 n137 n140 n144; omega)) (show _ ≤ (10 : Int) from (by clear p19 p23 n31 p35 n37 kc36 p42 p46 kc49 p65 p69 p85 n86 kc87 p96 n97 kc98 n100 kc99 hy103 n105 kc104 p121 p125 n134 n137 n140 n144; omega))
                        have n147 : (P_145 0 0).toInt = (P_142 0 0).toInt := by rw [eP_145]; rfl
                        have n148 : (P_145 0 2).toInt = ((P_142 0 2) + 1).toInt := by rw [eP_145]; rfl
                        exact D_some (show (0 ≤ (1 : Int32).toInt ∧ (1 : Int32).toInt ≤ 1) ∧ (iR BK K_128) ∧ (iR BR R_118) ∧ (iR BP P_145) ∧ (nK K_128) from ⟨⟨(by clear n2 hy1 kc3 p19 p23 n31 p35 n37 kc36 p42 p46 kc49 p65 p69 p85 n86 kc87 p96 n97 kc98 n100 kc99 hy103 n105 kc104 p121 p125 n134 n135 n137 n138 n140 n141 n143 n144 n146 n147 n148; omega), (by clear n2 hy1 kc3 p19 p23 n31 p35 n37 kc36 p42 p46 kc49 p65 p69 p85 n86 kc87 p96 n97 kc98 n100 kc99 hy103 n105 kc104 p121 p125 n134 n135 n137 n138 n140 n141 n143 n144 n146 n147 n148; omega)⟩, p131, p122, hP_145, p132⟩)
                  · skip
                    unfold fJ_X3_readPiece_J192
                    refine D_ck (okI_of (by clear p19 p23 n31 p35 n37 kc36 p42 p46 kc49 p65 p69 p85 n86 kc87 p96 n97 kc98 n100; omega) (by clear p19 p23 n31 p35 n37 kc36 p42 p46 kc49 p65 p69 p85 n86 kc87 p96 n97 kc98 n100; omega)) ?_
                    refine D_lt (fun P_149 eP_149 => ?_)
                    have hP_149 : iR BP P_149 := by rw [eP_149]; exact iR_set hP (show (0 : Int) ≤ _ from (by clear n2 hy1 kc3 p19 p23 n31 n37 kc36 p42 p46 p65 p69 p85 n86 kc87 p96 n97 kc98 n100; omega)) (show _ ≤ (5 : Int) from (by clear n2 hy1 kc3 p19 p23 n31 n37 kc36 p42 p46 p65 p69 p85 n86 kc87 p96 n97 kc98 n100; omega))
                    have n150 : (P_149 0 2).toInt = (P 0 2).toInt := by rw [eP_149]; rfl
                    refine D_lt (fun P_151 eP_151 => ?_)
                    have hP_151 : iR BP P_151 := by rw [eP_151]; exact iR_setU hP_149 rfl
                    have n152 : (P_151 0 2).toInt = (P_149 0 2).toInt := by rw [eP_151]; rfl
                    refine D_lt (fun P_153 eP_153 => ?_)
                    have hP_153 : iR BP P_153 := by rw [eP_153]; exact iR_setU hP_151 rfl
                    have n154 : (P_153 0 2).toInt = (P_151 0 2).toInt := by rw [eP_153]; rfl
                    have lm1 : ((-1) : Int32).toInt = (-1) := by decide
                    refine D_lt (fun P_155 eP_155 => ?_)
                    have hP_155 : iR BP P_155 := by rw [eP_155]; exact iR_set hP_153 (show ((-1) : Int) ≤ _ from (by clear n2 hy1 kc3 p19 p23 n31 p35 n37 kc36 p42 p46 kc49 p65 p69 p85 n86 kc87 p96 n97 kc98 n100 n150 n152 n154; omega)) (show _ ≤ (4 : Int) from (by clear n2 hy1 kc3 p19 p23 n31 p35 n37 kc36 p42 p46 kc49 p65 p69 p85 n86 kc87 p96 n97 kc98 n100 n150 n152 n154; omega))
                    have n156 : (P_155 0 2).toInt = (P_153 0 2).toInt := by rw [eP_155]; rfl
                    have n158 : ((P_155 0 2) + 1).toInt = (P_155 0 2).toInt + 1 := i_addK rfl (by decide) (by clear p19 p23 n31 p35 n37 kc36 p42 p46 kc49 p65 p69 p85 n86 kc87 p96 n97 kc98 n100; omega) (by clear p19 p23 n31 p35 n37 kc36 p42 p46 kc49 p65 p69 p85 n86 kc87 p96 n97 kc98 n100; omega)
                    refine D_lt (fun P_157 eP_157 => ?_)
                    have hP_157 : iR BP P_157 := by rw [eP_157]; exact iR_set hP_155 (show (0 : Int) ≤ _ from (by clear p19 p23 n31 p35 n37 kc36 p42 p46 kc49 p65 p69 p85 n86 kc87 p96 n97 kc98 n100; omega)) (show _ ≤ (10 : Int) from (by clear p19 p23 n31 p35 n37 kc36 p42 p46 kc49 p65 p69 p85 n86 kc87 p96 n97 kc98 n100; omega))
                    have n159 : (P_157 0 2).toInt = ((P_155 0 2) + 1).toInt := by rw [eP_157]; rfl
                    exact D_some (show (0 ≤ (1 : Int32).toInt ∧ (1 : Int32).toInt ≤ 1) ∧ (iR BK K_89) ∧ (iR BR R_90) ∧ (iR BP P_157) ∧ (nK K_89) from ⟨⟨(by clear n2 hy1 kc3 p19 p23 n31 p35 n37 kc36 p42 p46 kc49 p65 p69 p85 n86 kc87 p96 n97 kc98 n100 n150 n152 n154 n156 n158 n159; omega), (by clear n2 hy1 kc3 p19 p23 n31 p35 n37 kc36 p42 p46 kc49 p65 p69 p85 n86 kc87 p96 n97 kc98 n100 n150 n152 n154 n156 n158 n159; omega)⟩, p93, p94, hP_157, p95⟩)
                · have kc98 := tq_len (x := (0 : Int32)) (y := r88) (a := 0) (by decide) rfl c98
                  exact D_some (show (0 ≤ (0 : Int32).toInt ∧ (0 : Int32).toInt ≤ 1) ∧ (iR BK K_89) ∧ (iR BR R_90) ∧ (iR BP P) ∧ (nK K_89) from ⟨⟨(by clear n2 hy1 kc3 p19 p23 n31 p35 n37 kc36 p42 p46 kc49 p65 p69 p85 n86 kc87 p96 n97 kc98; omega), (by clear n2 hy1 kc3 p19 p23 n31 p35 n37 kc36 p42 p46 kc49 p65 p69 p85 n86 kc87 p96 n97 kc98; omega)⟩, p93, p94, hP, p95⟩)
              · have kc87 := tq_len (x := (0 : Int32)) (y := r77) (a := 0) (by decide) rfl c87
                unfold fJ_X3_readPiece_J125
                have lm1 : ((-1) : Int32).toInt = (-1) := by decide
                have l0 : (0 : Int32).toInt = 0 := by decide
                refine D_ite (fun c160 => ?_) (fun c160 => ?_)
                · have kc160 := tq_le (x := (0 : Int32)) (y := ((-1) : Int32)) (a := 0) (by decide) (b := (-1)) (by decide) c160
                  exfalso
                  exact (by clear n2 hy1 kc3 p19 p23 n31 p35 n37 kc36 p42 p46 kc49 p65 p69 p85 n86 kc87; omega)
                · have kc160 := tq_len (x := (0 : Int32)) (y := ((-1) : Int32)) (a := 0) (by decide) (b := (-1)) (by decide) c160
                  exact D_some (show (0 ≤ (0 : Int32).toInt ∧ (0 : Int32).toInt ≤ 1) ∧ (iR BK K_78) ∧ (iR BR R_79) ∧ (iR BP P) ∧ (nK K_78) from ⟨⟨(by clear n2 hy1 kc3 p19 p23 n31 p35 n37 kc36 p42 p46 kc49 p65 p69 p85 n86 kc87; omega), (by clear n2 hy1 kc3 p19 p23 n31 p35 n37 kc36 p42 p46 kc49 p65 p69 p85 n86 kc87; omega)⟩, p82, p83, hP, p84⟩)
      · skip
        unfold fJ_X3_readPiece_J69
        have l0 : (0 : Int32).toInt = 0 := by decide
        refine D_bd2 (t_X3_expect K_26 R_16 (0 : Int32) (1 : Int32) p29 p20 ⟨(by clear n2 hy1 kc3 p19 p23 n31 p35 n37; omega), (by clear n2 hy1 kc3 p19 p23 n31 p35 n37; omega)⟩) (fun r161 R_162 eq164 hq163 => ?_)
        refine D_lte (y := r161) rfl ?_
        refine D_lte (y := R_162) rfl ?_
        obtain ⟨p165, p166, p167, p168, p169, p170⟩ : (0 ≤ r161.toInt ∧ r161.toInt ≤ 1) ∧ (iR BR R_162) ∧ (R_162 0 8 = (R_16 0 8)) ∧ (R_162 0 9 = (R_16 0 9)) ∧ (r161.toInt = (0 : Int32).toInt) ∧ (R_162 8 = R_16 8) := hq163
        refine D_ite (fun c171 => ?_) (fun c171 => ?_)
        · have kc171 := tq_eq (x := r161) (y := (0 : Int32)) rfl (b := 0) (by decide) c171
          exact D_some (show (0 ≤ (0 : Int32).toInt ∧ (0 : Int32).toInt ≤ 1) ∧ (iR BK K_26) ∧ (iR BR R_162) ∧ (iR BP P) ∧ (nK K_26) from ⟨⟨(by clear n2 hy1 kc3 p19 p23 n31 p35 n37 p165 p169 kc171; omega), (by clear n2 hy1 kc3 p19 p23 n31 p35 n37 p165 p169 kc171; omega)⟩, p29, p166, hP, p30⟩)
        · have kc1710 := tq_eqn (x := r161) (y := (0 : Int32)) rfl (b := 0) (by decide) c171
          have kc171 : 1 ≤ r161.toInt := (by clear n2 hy1 kc3 p19 p23 n31 p35 n37; omega)
          clear kc1710
          exfalso
          exact (by clear n2 hy1 kc3 p19 p23 n31 p35 n37; omega)
set_option maxHeartbeats 1000000 in
set_option maxRecDepth 100000 in
theorem t_X3_readPerson (K : Tr) (R : Tr) (P : Tr) (hK : iR BK K) (hR : iR BR R) (hP : iR BP P) (dnK : nK K) : D (f_X3_readPerson K R P) (fun (q : Int32 × Tr × Tr × Tr) => (0 ≤ (q.1).toInt ∧ (q.1).toInt ≤ 1) ∧ (iR BK (q.2.1)) ∧ (iR BR (q.2.2.1)) ∧ (iR BP (q.2.2.2)) ∧ (nK (q.2.1))) := by
  unfold f_X3_readPerson
  refine D_lt (fun y1 ey1 => ?_)
  have n2 : 0 ≤ (P 0 1).toInt ∧ (P 0 1).toInt ≤ 6 := hP 0 1
  have hy1 : y1.toInt = (P 0 1).toInt := by rw [ey1]
  refine D_ite (fun c3 => ?_) (fun c3 => ?_)
  · have kc3 := tq_le (x := (6 : Int32)) (y := y1) (a := 6) (by decide) rfl c3
    unfold fJ_X3_readPerson_J20
    have l0 : (0 : Int32).toInt = 0 := by decide
    have l2 : (2 : Int32).toInt = 2 := by decide
    refine D_bd2 (t_X3_expect K R (0 : Int32) (2 : Int32) hK hR ⟨(by clear n2 hy1 kc3; omega), (by clear n2 hy1 kc3; omega)⟩) (fun r4 R_5 eq7 hq6 => ?_)
    refine D_lte (y := r4) rfl ?_
    refine D_lte (y := R_5) rfl ?_
    obtain ⟨p8, p9, p10, p11, p12, p13⟩ : (0 ≤ r4.toInt ∧ r4.toInt ≤ 1) ∧ (iR BR R_5) ∧ (R_5 0 8 = (R 0 8)) ∧ (R_5 0 9 = (R 0 9)) ∧ (r4.toInt = (0 : Int32).toInt) ∧ (R_5 8 = R 8) := hq6
    refine D_ite (fun c14 => ?_) (fun c14 => ?_)
    · have kc14 := tq_eq (x := r4) (y := (0 : Int32)) rfl (b := 0) (by decide) c14
      exact D_some (show (0 ≤ (0 : Int32).toInt ∧ (0 : Int32).toInt ≤ 1) ∧ (iR BK K) ∧ (iR BR R_5) ∧ (iR BP P) ∧ (nK K) from ⟨⟨(by clear n2 hy1 kc3 p8 p12 kc14; omega), (by clear n2 hy1 kc3 p8 p12 kc14; omega)⟩, hK, p9, hP, dnK⟩)
    · have kc140 := tq_eqn (x := r4) (y := (0 : Int32)) rfl (b := 0) (by decide) c14
      have kc14 : 1 ≤ r4.toInt := (by clear n2 hy1 kc3; omega)
      clear kc140
      exfalso
      exact (by clear n2 hy1 kc3; omega)
  · have kc3 := tq_len (x := (6 : Int32)) (y := y1) (a := 6) (by decide) rfl c3
    unfold fJ_X3_readPerson_J20
    have l1 : (1 : Int32).toInt = 1 := by decide
    have l2 : (2 : Int32).toInt = 2 := by decide
    refine D_bd2 (t_X3_expect K R (1 : Int32) (2 : Int32) hK hR ⟨(by clear n2 hy1 kc3; omega), (by clear n2 hy1 kc3; omega)⟩) (fun r15 R_16 eq18 hq17 => ?_)
    refine D_lte (y := r15) rfl ?_
    refine D_lte (y := R_16) rfl ?_
    obtain ⟨p19, p20, p21, p22, p23, p24⟩ : (0 ≤ r15.toInt ∧ r15.toInt ≤ 1) ∧ (iR BR R_16) ∧ (R_16 0 8 = (R 0 8)) ∧ (R_16 0 9 = (R 0 9)) ∧ (r15.toInt = (1 : Int32).toInt) ∧ (R_16 8 = R 8) := hq17
    refine D_ite (fun c25 => ?_) (fun c25 => ?_)
    · have kc25 := tq_eq (x := r15) (y := (0 : Int32)) rfl (b := 0) (by decide) c25
      exfalso
      exact (by clear n2 hy1 kc3; omega)
    · skip
      refine D_bd (t_X5_advance K hK) (fun K_26 eq28 hq27 => ?_)
      obtain ⟨p29, p30⟩ : (iR BK K_26) ∧ (nK K_26) := hq27
      refine D_lt (fun y31 ey31 => ?_)
      have n32 := i_rng (K_26 0 3)
      have hy31 : y31.toInt = (K_26 0 3).toInt := by rw [ey31]
      have n34 : 0 ≤ (K_26 0 1).toInt ∧ (K_26 0 1).toInt ≤ 45 := p29 0 1
      refine D_ite (fun c33 => ?_) (fun c33 => ?_)
      · have kc33 := tq_eq (x := (K_26 0 1)) (y := (43 : Int32)) rfl (b := 43) (by decide) c33
        unfold fJ_X3_readPerson_J62
        refine D_bd2 (t_X3_expect K_26 R_16 (1 : Int32) (1 : Int32) p29 p20 ⟨(by clear n2 hy1 kc3 p19 p23 n32 hy31 n34 kc33; omega), (by clear n2 hy1 kc3 p19 p23 n32 hy31 n34 kc33; omega)⟩) (fun r35 R_36 eq38 hq37 => ?_)
        refine D_lte (y := r35) rfl ?_
        refine D_lte (y := R_36) rfl ?_
        obtain ⟨p39, p40, p41, p42, p43, p44⟩ : (0 ≤ r35.toInt ∧ r35.toInt ≤ 1) ∧ (iR BR R_36) ∧ (R_36 0 8 = (R_16 0 8)) ∧ (R_36 0 9 = (R_16 0 9)) ∧ (r35.toInt = (1 : Int32).toInt) ∧ (R_36 8 = R_16 8) := hq37
        refine D_ite (fun c45 => ?_) (fun c45 => ?_)
        · have kc45 := tq_eq (x := r35) (y := (0 : Int32)) rfl (b := 0) (by decide) c45
          exfalso
          exact (by clear n2 hy1 kc3 p19 p23 n32 hy31 n34 kc33; omega)
        · skip
          refine D_bd (t_X2_personNamed P y31 hP) (fun r46 eq48 hq47 => ?_)
          have p49 : (-1) ≤ r46.toInt ∧ r46.toInt ≤ 5 := hq47
          refine D_ite (fun c50 => ?_) (fun c50 => ?_)
          · have kc50 := tq_le (x := (0 : Int32)) (y := r46) (a := 0) (by decide) rfl c50
            unfold fJ_X3_readPerson_J86
            have l0 : (0 : Int32).toInt = 0 := by decide
            have l3 : (3 : Int32).toInt = 3 := by decide
            refine D_bd2 (t_X3_expect K_26 R_36 (0 : Int32) (3 : Int32) p29 p40 ⟨(by clear n2 hy1 kc3 p19 p23 n32 hy31 n34 kc33 p39 p43 p49 kc50; omega), (by clear n2 hy1 kc3 p19 p23 n32 hy31 n34 kc33 p39 p43 p49 kc50; omega)⟩) (fun r51 R_52 eq54 hq53 => ?_)
            refine D_lte (y := r51) rfl ?_
            refine D_lte (y := R_52) rfl ?_
            obtain ⟨p55, p56, p57, p58, p59, p60⟩ : (0 ≤ r51.toInt ∧ r51.toInt ≤ 1) ∧ (iR BR R_52) ∧ (R_52 0 8 = (R_36 0 8)) ∧ (R_52 0 9 = (R_36 0 9)) ∧ (r51.toInt = (0 : Int32).toInt) ∧ (R_52 8 = R_36 8) := hq53
            refine D_ite (fun c61 => ?_) (fun c61 => ?_)
            · have kc61 := tq_eq (x := r51) (y := (0 : Int32)) rfl (b := 0) (by decide) c61
              exact D_some (show (0 ≤ (0 : Int32).toInt ∧ (0 : Int32).toInt ≤ 1) ∧ (iR BK K_26) ∧ (iR BR R_52) ∧ (iR BP P) ∧ (nK K_26) from ⟨⟨(by clear n2 hy1 kc3 p19 p23 n32 hy31 n34 kc33 p39 p43 p49 kc50 p55 p59 kc61; omega), (by clear n2 hy1 kc3 p19 p23 n32 hy31 n34 kc33 p39 p43 p49 kc50 p55 p59 kc61; omega)⟩, p29, p56, hP, p30⟩)
            · have kc610 := tq_eqn (x := r51) (y := (0 : Int32)) rfl (b := 0) (by decide) c61
              have kc61 : 1 ≤ r51.toInt := (by clear n2 hy1 kc3 p19 p23 n32 hy31 n34 kc33 p39 p43 p49 kc50; omega)
              clear kc610
              exfalso
              exact (by clear n2 hy1 kc3 p19 p23 n32 hy31 n34 kc33 p39 p43 p49 kc50; omega)
          · have kc50 := tq_len (x := (0 : Int32)) (y := r46) (a := 0) (by decide) rfl c50
            unfold fJ_X3_readPerson_J86
            have l3 : (3 : Int32).toInt = 3 := by decide
            refine D_bd2 (t_X3_expect K_26 R_36 (1 : Int32) (3 : Int32) p29 p40 ⟨(by clear n2 hy1 kc3 p19 p23 n32 hy31 n34 kc33 p39 p43 p49 kc50; omega), (by clear n2 hy1 kc3 p19 p23 n32 hy31 n34 kc33 p39 p43 p49 kc50; omega)⟩) (fun r62 R_63 eq65 hq64 => ?_)
            refine D_lte (y := r62) rfl ?_
            refine D_lte (y := R_63) rfl ?_
            obtain ⟨p66, p67, p68, p69, p70, p71⟩ : (0 ≤ r62.toInt ∧ r62.toInt ≤ 1) ∧ (iR BR R_63) ∧ (R_63 0 8 = (R_36 0 8)) ∧ (R_63 0 9 = (R_36 0 9)) ∧ (r62.toInt = (1 : Int32).toInt) ∧ (R_63 8 = R_36 8) := hq64
            refine D_ite (fun c72 => ?_) (fun c72 => ?_)
            · have kc72 := tq_eq (x := r62) (y := (0 : Int32)) rfl (b := 0) (by decide) c72
              exfalso
              exact (by clear n2 hy1 kc3 p19 p23 n32 hy31 n34 kc33 p39 p43 p49 kc50; omega)
            · skip
              refine D_bd (t_X5_advance K_26 p29) (fun K_73 eq75 hq74 => ?_)
              obtain ⟨p76, p77⟩ : (iR BK K_73) ∧ (nK K_73) := hq74
              have l0 : (0 : Int32).toInt = 0 := by decide
              have l19 : (19 : Int32).toInt = 19 := by decide
              refine D_bd3 (t_X3_takeNumber K_73 R_63 (0 : Int32) (19 : Int32) p76 p67 p77) (fun r78 K_79 R_80 eq82 hq81 => ?_)
              refine D_lte (y := r78) rfl ?_
              refine D_lte (y := K_79) rfl ?_
              refine D_lte (y := R_80) rfl ?_
              obtain ⟨p83, p84, p85, p86⟩ : (iR BK K_79) ∧ (iR BR R_80) ∧ (nK K_79) ∧ (r78.toInt = -1 ∨ ((0 : Int32).toInt ≤ r78.toInt ∧ r78.toInt ≤ (19 : Int32).toInt)) := hq81
              have n87 := i_rng r78
              refine D_ite (fun c88 => ?_) (fun c88 => ?_)
              · have kc88 := tq_le (x := (0 : Int32)) (y := r78) (a := 0) (by decide) rfl c88
                have n89 := i_rng (r78 + 1)
                have l20 : (20 : Int32).toInt = 20 := by decide
                refine D_bd3 (t_X3_takeNumber K_79 R_80 (r78 + 1) (20 : Int32) p83 p84 p85) (fun r90 K_91 R_92 eq94 hq93 => ?_)
                refine D_lte (y := r90) rfl ?_
                refine D_lte (y := K_91) rfl ?_
                refine D_lte (y := R_92) rfl ?_
                obtain ⟨p95, p96, p97, p98⟩ : (iR BK K_91) ∧ (iR BR R_92) ∧ (nK K_91) ∧ (r90.toInt = -1 ∨ ((r78 + 1).toInt ≤ r90.toInt ∧ r90.toInt ≤ (20 : Int32).toInt)) := hq93
                have n99 := i_rng r90
                unfold fJ_X3_readPerson_J127
                refine D_ite (fun c100 => ?_) (fun c100 => ?_)
                · have kc100 := tq_le (x := (0 : Int32)) (y := r90) (a := 0) (by decide) rfl c100
                  have l99 : (99 : Int32).toInt = 99 := by decide
                  refine D_bd3 (t_X3_takeNumber K_91 R_92 (1 : Int32) (99 : Int32) p95 p96 p97) (fun r101 K_102 R_103 eq105 hq104 => ?_)
                  refine D_lte (y := r101) rfl ?_
                  refine D_lte (y := K_102) rfl ?_
                  refine D_lte (y := R_103) rfl ?_
                  obtain ⟨p106, p107, p108, p109⟩ : (iR BK K_102) ∧ (iR BR R_103) ∧ (nK K_102) ∧ (r101.toInt = -1 ∨ ((1 : Int32).toInt ≤ r101.toInt ∧ r101.toInt ≤ (99 : Int32).toInt)) := hq104
                  have n110 := i_rng r101
                  unfold fJ_X3_readPerson_J145
                  refine D_ite (fun c111 => ?_) (fun c111 => ?_)
                  · have kc111 := tq_le (x := (0 : Int32)) (y := r101) (a := 0) (by decide) rfl c111
                    refine D_ck (okI_of (by clear p19 p23 n32 hy31 n34 kc33 p39 p43 p49 kc50 p66 p70 p86 n87 kc88 n89 p98 n99 kc100 p109 n110 kc111; omega) (by clear p19 p23 n32 hy31 n34 kc33 p39 p43 p49 kc50 p66 p70 p86 n87 kc88 n89 p98 n99 kc100 p109 n110 kc111; omega)) ?_
                    refine D_lt (fun P_112 eP_112 => ?_)
                    have hP_112 : iR BP P_112 := by rw [eP_112]; exact iR_setU hP rfl
                    have n113 : (P_112 0 1).toInt = (P 0 1).toInt := by rw [eP_112]; rfl
                    refine D_lt (fun P_114 eP_114 => ?_)
                    have hP_114 : iR BP P_114 := by rw [eP_114]; exact iR_setU hP_112 rfl
                    have n115 : (P_114 0 1).toInt = (P_112 0 1).toInt := by rw [eP_114]; rfl
                    refine D_lt (fun P_116 eP_116 => ?_)
                    have hP_116 : iR BP P_116 := by rw [eP_116]; exact iR_set hP_114 (show (0 : Int) ≤ _ from (by clear n2 hy1 kc3 p19 p23 n32 hy31 n34 kc33 p39 p43 p49 kc50 p66 p70 p86 n87 kc88 p109 n110 kc111 n113 n115; omega)) (show _ ≤ (20 : Int) from (by clear n2 hy1 kc3 p19 p23 n32 hy31 n34 kc33 p39 p43 p49 kc50 p66 p70 p86 n87 kc88 p109 n110 kc111 n113 n115; omega))
                    have n117 : (P_116 0 1).toInt = (P_114 0 1).toInt := by rw [eP_116]; rfl
                    refine D_lt (fun P_118 eP_118 => ?_)
                    have hP_118 : iR BP P_118 := by rw [eP_118]; exact iR_setU hP_116 rfl
                    have n119 : (P_118 0 1).toInt = (P_116 0 1).toInt := by rw [eP_118]; rfl
                    have n121 : ((P_118 0 1) + 1).toInt = (P_118 0 1).toInt + 1 := i_addK rfl (by decide) (by clear p19 p23 n32 hy31 n34 kc33 p39 p43 p49 kc50 p66 p70 p86 n87 kc88 n89 p98 n99 kc100 p109 n110 kc111; omega) (by clear p19 p23 n32 hy31 n34 kc33 p39 p43 p49 kc50 p66 p70 p86 n87 kc88 n89 p98 n99 kc100 p109 n110 kc111; omega)
                    refine D_lt (fun P_120 eP_120 => ?_)
                    have hP_120 : iR BP P_120 := by rw [eP_120]; exact iR_set hP_118 (show (0 : Int) ≤ _ from (by clear p19 p23 n32 hy31 n34 kc33 p39 p43 p49 kc50 p66 p70 p86 n87 kc88 n89 p98 n99 kc100 p109 n110 kc111; omega)) (show _ ≤ (6 : Int) from (by clear p19 p23 n32 hy31 n34 kc33 p39 p43 p49 kc50 p66 p70 p86 n87 kc88 n89 p98 n99 kc100 p109 n110 kc111; omega))
                    have n122 : (P_120 0 1).toInt = ((P_118 0 1) + 1).toInt := by rw [eP_120]; rfl
                    exact D_some (show (0 ≤ (1 : Int32).toInt ∧ (1 : Int32).toInt ≤ 1) ∧ (iR BK K_102) ∧ (iR BR R_103) ∧ (iR BP P_120) ∧ (nK K_102) from ⟨⟨(by clear n2 hy1 kc3 p19 p23 n32 hy31 n34 kc33 p39 p43 p49 kc50 p66 p70 p86 n87 kc88 n89 p98 n99 kc100 p109 n110 kc111 n113 n115 n117 n119 n121 n122; omega), (by clear n2 hy1 kc3 p19 p23 n32 hy31 n34 kc33 p39 p43 p49 kc50 p66 p70 p86 n87 kc88 n89 p98 n99 kc100 p109 n110 kc111 n113 n115 n117 n119 n121 n122; omega)⟩, p106, p107, hP_120, p108⟩)
                  · have kc111 := tq_len (x := (0 : Int32)) (y := r101) (a := 0) (by decide) rfl c111
                    exact D_some (show (0 ≤ (0 : Int32).toInt ∧ (0 : Int32).toInt ≤ 1) ∧ (iR BK K_102) ∧ (iR BR R_103) ∧ (iR BP P) ∧ (nK K_102) from ⟨⟨(by clear n2 hy1 kc3 p19 p23 n32 hy31 n34 kc33 p39 p43 p49 kc50 p66 p70 p86 n87 kc88 n89 p98 n99 kc100 p109 n110 kc111; omega), (by clear n2 hy1 kc3 p19 p23 n32 hy31 n34 kc33 p39 p43 p49 kc50 p66 p70 p86 n87 kc88 n89 p98 n99 kc100 p109 n110 kc111; omega)⟩, p106, p107, hP, p108⟩)
                · have kc100 := tq_len (x := (0 : Int32)) (y := r90) (a := 0) (by decide) rfl c100
                  unfold fJ_X3_readPerson_J145
                  have lm1 : ((-1) : Int32).toInt = (-1) := by decide
                  refine D_ite (fun c123 => ?_) (fun c123 => ?_)
                  · have kc123 := tq_le (x := (0 : Int32)) (y := ((-1) : Int32)) (a := 0) (by decide) (b := (-1)) (by decide) c123
                    exfalso
                    exact (by clear n2 hy1 kc3 p19 p23 n32 hy31 n34 kc33 p39 p43 p49 kc50 p66 p70 p86 n87 kc88 n89 p98 n99 kc100; omega)
                  · have kc123 := tq_len (x := (0 : Int32)) (y := ((-1) : Int32)) (a := 0) (by decide) (b := (-1)) (by decide) c123
                    exact D_some (show (0 ≤ (0 : Int32).toInt ∧ (0 : Int32).toInt ≤ 1) ∧ (iR BK K_91) ∧ (iR BR R_92) ∧ (iR BP P) ∧ (nK K_91) from ⟨⟨(by clear n2 hy1 kc3 p19 p23 n32 hy31 n34 kc33 p39 p43 p49 kc50 p66 p70 p86 n87 kc88 n89 p98 n99 kc100; omega), (by clear n2 hy1 kc3 p19 p23 n32 hy31 n34 kc33 p39 p43 p49 kc50 p66 p70 p86 n87 kc88 n89 p98 n99 kc100; omega)⟩, p95, p96, hP, p97⟩)
              · have kc88 := tq_len (x := (0 : Int32)) (y := r78) (a := 0) (by decide) rfl c88
                unfold fJ_X3_readPerson_J127
                have lm1 : ((-1) : Int32).toInt = (-1) := by decide
                refine D_ite (fun c124 => ?_) (fun c124 => ?_)
                · have kc124 := tq_le (x := (0 : Int32)) (y := ((-1) : Int32)) (a := 0) (by decide) (b := (-1)) (by decide) c124
                  exfalso
                  exact (by clear n2 hy1 kc3 p19 p23 n32 hy31 n34 kc33 p39 p43 p49 kc50 p66 p70 p86 n87 kc88; omega)
                · have kc124 := tq_len (x := (0 : Int32)) (y := ((-1) : Int32)) (a := 0) (by decide) (b := (-1)) (by decide) c124
                  unfold fJ_X3_readPerson_J145
                  refine D_ite (fun c125 => ?_) (fun c125 => ?_)
                  · have kc125 := tq_le (x := (0 : Int32)) (y := ((-1) : Int32)) (a := 0) (by decide) (b := (-1)) (by decide) c125
                    exfalso
                    exact (by clear n2 hy1 kc3 p19 p23 n32 hy31 n34 kc33 p39 p43 p49 kc50 p66 p70 p86 n87 kc88; omega)
                  · have kc125 := tq_len (x := (0 : Int32)) (y := ((-1) : Int32)) (a := 0) (by decide) (b := (-1)) (by decide) c125
                    exact D_some (show (0 ≤ (0 : Int32).toInt ∧ (0 : Int32).toInt ≤ 1) ∧ (iR BK K_79) ∧ (iR BR R_80) ∧ (iR BP P) ∧ (nK K_79) from ⟨⟨(by clear n2 hy1 kc3 p19 p23 n32 hy31 n34 kc33 p39 p43 p49 kc50 p66 p70 p86 n87 kc88; omega), (by clear n2 hy1 kc3 p19 p23 n32 hy31 n34 kc33 p39 p43 p49 kc50 p66 p70 p86 n87 kc88; omega)⟩, p83, p84, hP, p85⟩)
      · skip
        unfold fJ_X3_readPerson_J62
        have l0 : (0 : Int32).toInt = 0 := by decide
        refine D_bd2 (t_X3_expect K_26 R_16 (0 : Int32) (1 : Int32) p29 p20 ⟨(by clear n2 hy1 kc3 p19 p23 n32 hy31 n34; omega), (by clear n2 hy1 kc3 p19 p23 n32 hy31 n34; omega)⟩) (fun r126 R_127 eq129 hq128 => ?_)
        refine D_lte (y := r126) rfl ?_
        refine D_lte (y := R_127) rfl ?_
        obtain ⟨p130, p131, p132, p133, p134, p135⟩ : (0 ≤ r126.toInt ∧ r126.toInt ≤ 1) ∧ (iR BR R_127) ∧ (R_127 0 8 = (R_16 0 8)) ∧ (R_127 0 9 = (R_16 0 9)) ∧ (r126.toInt = (0 : Int32).toInt) ∧ (R_127 8 = R_16 8) := hq128
        refine D_ite (fun c136 => ?_) (fun c136 => ?_)
        · have kc136 := tq_eq (x := r126) (y := (0 : Int32)) rfl (b := 0) (by decide) c136
          exact D_some (show (0 ≤ (0 : Int32).toInt ∧ (0 : Int32).toInt ≤ 1) ∧ (iR BK K_26) ∧ (iR BR R_127) ∧ (iR BP P) ∧ (nK K_26) from ⟨⟨(by clear n2 hy1 kc3 p19 p23 n32 hy31 n34 p130 p134 kc136; omega), (by clear n2 hy1 kc3 p19 p23 n32 hy31 n34 p130 p134 kc136; omega)⟩, p29, p131, hP, p30⟩)
        · have kc1360 := tq_eqn (x := r126) (y := (0 : Int32)) rfl (b := 0) (by decide) c136
          have kc136 : 1 ≤ r126.toInt := (by clear n2 hy1 kc3 p19 p23 n32 hy31 n34; omega)
          clear kc1360
          exfalso
          exact (by clear n2 hy1 kc3 p19 p23 n32 hy31 n34; omega)
set_option maxHeartbeats 1000000 in
set_option maxRecDepth 100000 in
theorem t_X3_readPlace (K : Tr) (R : Tr) (P : Tr) (hK : iR BK K) (hR : iR BR R) (hP : iR BP P) (dnK : nK K) : D (f_X3_readPlace K R P) (fun (q : Int32 × Tr × Tr × Tr) => (0 ≤ (q.1).toInt ∧ (q.1).toInt ≤ 1) ∧ (iR BK (q.2.1)) ∧ (iR BR (q.2.2.1)) ∧ (iR BP (q.2.2.2)) ∧ (nK (q.2.1))) := by
  unfold f_X3_readPlace
  refine D_lt (fun y1 ey1 => ?_)
  have n2 : 0 ≤ (P 0 0).toInt ∧ (P 0 0).toInt ≤ 5 := hP 0 0
  have hy1 : y1.toInt = (P 0 0).toInt := by rw [ey1]
  refine D_ite (fun c3 => ?_) (fun c3 => ?_)
  · have kc3 := tq_le (x := (5 : Int32)) (y := y1) (a := 5) (by decide) rfl c3
    unfold fJ_X3_readPlace_J19
    have l0 : (0 : Int32).toInt = 0 := by decide
    have l2 : (2 : Int32).toInt = 2 := by decide
    refine D_bd2 (t_X3_expect K R (0 : Int32) (2 : Int32) hK hR ⟨(by clear n2 hy1 kc3; omega), (by clear n2 hy1 kc3; omega)⟩) (fun r4 R_5 eq7 hq6 => ?_)
    refine D_lte (y := r4) rfl ?_
    refine D_lte (y := R_5) rfl ?_
    obtain ⟨p8, p9, p10, p11, p12, p13⟩ : (0 ≤ r4.toInt ∧ r4.toInt ≤ 1) ∧ (iR BR R_5) ∧ (R_5 0 8 = (R 0 8)) ∧ (R_5 0 9 = (R 0 9)) ∧ (r4.toInt = (0 : Int32).toInt) ∧ (R_5 8 = R 8) := hq6
    refine D_ite (fun c14 => ?_) (fun c14 => ?_)
    · have kc14 := tq_eq (x := r4) (y := (0 : Int32)) rfl (b := 0) (by decide) c14
      exact D_some (show (0 ≤ (0 : Int32).toInt ∧ (0 : Int32).toInt ≤ 1) ∧ (iR BK K) ∧ (iR BR R_5) ∧ (iR BP P) ∧ (nK K) from ⟨⟨(by clear n2 hy1 kc3 p8 p12 kc14; omega), (by clear n2 hy1 kc3 p8 p12 kc14; omega)⟩, hK, p9, hP, dnK⟩)
    · have kc140 := tq_eqn (x := r4) (y := (0 : Int32)) rfl (b := 0) (by decide) c14
      have kc14 : 1 ≤ r4.toInt := (by clear n2 hy1 kc3; omega)
      clear kc140
      exfalso
      exact (by clear n2 hy1 kc3; omega)
  · have kc3 := tq_len (x := (5 : Int32)) (y := y1) (a := 5) (by decide) rfl c3
    unfold fJ_X3_readPlace_J19
    have l1 : (1 : Int32).toInt = 1 := by decide
    have l2 : (2 : Int32).toInt = 2 := by decide
    refine D_bd2 (t_X3_expect K R (1 : Int32) (2 : Int32) hK hR ⟨(by clear n2 hy1 kc3; omega), (by clear n2 hy1 kc3; omega)⟩) (fun r15 R_16 eq18 hq17 => ?_)
    refine D_lte (y := r15) rfl ?_
    refine D_lte (y := R_16) rfl ?_
    obtain ⟨p19, p20, p21, p22, p23, p24⟩ : (0 ≤ r15.toInt ∧ r15.toInt ≤ 1) ∧ (iR BR R_16) ∧ (R_16 0 8 = (R 0 8)) ∧ (R_16 0 9 = (R 0 9)) ∧ (r15.toInt = (1 : Int32).toInt) ∧ (R_16 8 = R 8) := hq17
    refine D_ite (fun c25 => ?_) (fun c25 => ?_)
    · have kc25 := tq_eq (x := r15) (y := (0 : Int32)) rfl (b := 0) (by decide) c25
      exfalso
      exact (by clear n2 hy1 kc3; omega)
    · skip
      refine D_bd (t_X5_advance K hK) (fun K_26 eq28 hq27 => ?_)
      obtain ⟨p29, p30⟩ : (iR BK K_26) ∧ (nK K_26) := hq27
      have l8 : (8 : Int32).toInt = 8 := by decide
      have l12 : (12 : Int32).toInt = 12 := by decide
      refine D_bd3 (t_X3_takeWord K_26 R_16 (8 : Int32) (12 : Int32) p29 p20 p30 ⟨(by clear n2 hy1 kc3 p19 p23; omega), (by clear n2 hy1 kc3 p19 p23; omega)⟩ ⟨(by clear n2 hy1 kc3 p19 p23; omega), (by clear n2 hy1 kc3 p19 p23; omega)⟩) (fun r31 K_32 R_33 eq35 hq34 => ?_)
      refine D_lte (y := r31) rfl ?_
      refine D_lte (y := K_32) rfl ?_
      refine D_lte (y := R_33) rfl ?_
      obtain ⟨p36, p37, p38, p39⟩ : (iR BK K_32) ∧ (iR BR R_33) ∧ (nK K_32) ∧ (r31.toInt = -1 ∨ (0 ≤ r31.toInt ∧ r31.toInt ≤ (12 : Int32).toInt - (8 : Int32).toInt)) := hq34
      have n40 := i_rng r31
      refine D_ite (fun c41 => ?_) (fun c41 => ?_)
      · have kc41 := tq_le (x := (0 : Int32)) (y := r31) (a := 0) (by decide) rfl c41
        have l0 : (0 : Int32).toInt = 0 := by decide
        have l999 : (999 : Int32).toInt = 999 := by decide
        refine D_bd3 (t_X3_takeNumber K_32 R_33 (0 : Int32) (999 : Int32) p36 p37 p38) (fun r42 K_43 R_44 eq46 hq45 => ?_)
        refine D_lte (y := r42) rfl ?_
        refine D_lte (y := K_43) rfl ?_
        refine D_lte (y := R_44) rfl ?_
        obtain ⟨p47, p48, p49, p50⟩ : (iR BK K_43) ∧ (iR BR R_44) ∧ (nK K_43) ∧ (r42.toInt = -1 ∨ ((0 : Int32).toInt ≤ r42.toInt ∧ r42.toInt ≤ (999 : Int32).toInt)) := hq45
        have n51 := i_rng r42
        unfold fJ_X3_readPlace_J60
        refine D_ite (fun c52 => ?_) (fun c52 => ?_)
        · have kc52 := tq_le (x := (0 : Int32)) (y := r42) (a := 0) (by decide) rfl c52
          refine D_ck (okI_of (by clear p19 p23 p39 n40 kc41 p50 n51 kc52; omega) (by clear p19 p23 p39 n40 kc41 p50 n51 kc52; omega)) ?_
          refine D_lt (fun P_53 eP_53 => ?_)
          have hP_53 : iR BP P_53 := by rw [eP_53]; exact iR_setU hP rfl
          have n54 : (P_53 0 0).toInt = (P 0 0).toInt := by rw [eP_53]; rfl
          refine D_lt (fun P_55 eP_55 => ?_)
          have hP_55 : iR BP P_55 := by rw [eP_55]; exact iR_setU hP_53 rfl
          have n56 : (P_55 0 0).toInt = (P_53 0 0).toInt := by rw [eP_55]; rfl
          have n58 : ((P_55 0 0) + 1).toInt = (P_55 0 0).toInt + 1 := i_addK rfl (by decide) (by clear p19 p23 p39 n40 kc41 p50 n51 kc52; omega) (by clear p19 p23 p39 n40 kc41 p50 n51 kc52; omega)
          refine D_lt (fun P_57 eP_57 => ?_)
          have hP_57 : iR BP P_57 := by rw [eP_57]; exact iR_set hP_55 (show (0 : Int) ≤ _ from (by clear p19 p23 p39 n40 kc41 p50 n51 kc52; omega)) (show _ ≤ (5 : Int) from (by clear p19 p23 p39 n40 kc41 p50 n51 kc52; omega))
          have n59 : (P_57 0 0).toInt = ((P_55 0 0) + 1).toInt := by rw [eP_57]; rfl
          exact D_some (show (0 ≤ (1 : Int32).toInt ∧ (1 : Int32).toInt ≤ 1) ∧ (iR BK K_43) ∧ (iR BR R_44) ∧ (iR BP P_57) ∧ (nK K_43) from ⟨⟨(by clear n2 hy1 kc3 p19 p23 p39 n40 kc41 p50 n51 kc52 n54 n56 n58 n59; omega), (by clear n2 hy1 kc3 p19 p23 p39 n40 kc41 p50 n51 kc52 n54 n56 n58 n59; omega)⟩, p47, p48, hP_57, p49⟩)
        · have kc52 := tq_len (x := (0 : Int32)) (y := r42) (a := 0) (by decide) rfl c52
          exact D_some (show (0 ≤ (0 : Int32).toInt ∧ (0 : Int32).toInt ≤ 1) ∧ (iR BK K_43) ∧ (iR BR R_44) ∧ (iR BP P) ∧ (nK K_43) from ⟨⟨(by clear n2 hy1 kc3 p19 p23 p39 n40 kc41 p50 n51 kc52; omega), (by clear n2 hy1 kc3 p19 p23 p39 n40 kc41 p50 n51 kc52; omega)⟩, p47, p48, hP, p49⟩)
      · have kc41 := tq_len (x := (0 : Int32)) (y := r31) (a := 0) (by decide) rfl c41
        unfold fJ_X3_readPlace_J60
        have lm1 : ((-1) : Int32).toInt = (-1) := by decide
        have l0 : (0 : Int32).toInt = 0 := by decide
        refine D_ite (fun c60 => ?_) (fun c60 => ?_)
        · have kc60 := tq_le (x := (0 : Int32)) (y := ((-1) : Int32)) (a := 0) (by decide) (b := (-1)) (by decide) c60
          exfalso
          exact (by clear n2 hy1 kc3 p19 p23 p39 n40 kc41; omega)
        · have kc60 := tq_len (x := (0 : Int32)) (y := ((-1) : Int32)) (a := 0) (by decide) (b := (-1)) (by decide) c60
          exact D_some (show (0 ≤ (0 : Int32).toInt ∧ (0 : Int32).toInt ≤ 1) ∧ (iR BK K_32) ∧ (iR BR R_33) ∧ (iR BP P) ∧ (nK K_32) from ⟨⟨(by clear n2 hy1 kc3 p19 p23 p39 n40 kc41; omega), (by clear n2 hy1 kc3 p19 p23 p39 n40 kc41; omega)⟩, p36, p37, hP, p38⟩)
set_option maxHeartbeats 1000000 in
set_option maxRecDepth 100000 in
theorem t_X3_readLine (K : Tr) (R : Tr) (P : Tr) (hK : iR BK K) (hR : iR BR R) (hP : iR BP P) (dnK : nK K) : D (f_X3_readLine K R P) (fun (q : Int32 × Tr × Tr × Tr) => (0 ≤ (q.1).toInt ∧ (q.1).toInt ≤ 1) ∧ (iR BK (q.2.1)) ∧ (iR BR (q.2.2.1)) ∧ (iR BP (q.2.2.2)) ∧ (nK (q.2.1))) := by
  unfold f_X3_readLine
  refine D_lt (fun y1 ey1 => ?_)
  have n2 : 0 ≤ (K 0 1).toInt ∧ (K 0 1).toInt ≤ 45 := hK 0 1
  have hy1 : y1.toInt = (K 0 1).toInt := by rw [ey1]
  refine D_ite (fun c3 => ?_) (fun c3 => ?_)
  · have kc3 := tq_eq (x := y1) (y := (0 : Int32)) rfl (b := 0) (by decide) c3
    refine D_bd4 (t_X3_readPlace K R P hK hR hP dnK) (fun r4 K_5 R_6 P_7 eq9 hq8 => ?_)
    refine D_lte (y := r4) rfl ?_
    refine D_lte (y := K_5) rfl ?_
    refine D_lte (y := R_6) rfl ?_
    refine D_lte (y := P_7) rfl ?_
    obtain ⟨p10, p11, p12, p13, p14⟩ : (0 ≤ r4.toInt ∧ r4.toInt ≤ 1) ∧ (iR BK K_5) ∧ (iR BR R_6) ∧ (iR BP P_7) ∧ (nK K_5) := hq8
    refine D_ck (okB_01 (by clear n2 hy1 kc3; omega)) ?_
    exact D_some (show (0 ≤ r4.toInt ∧ r4.toInt ≤ 1) ∧ (iR BK K_5) ∧ (iR BR R_6) ∧ (iR BP P_7) ∧ (nK K_5) from ⟨⟨(by clear n2 hy1 kc3; omega), (by clear n2 hy1 kc3; omega)⟩, p11, p12, p13, p14⟩)
  · skip
    refine D_ite (fun c15 => ?_) (fun c15 => ?_)
    · have kc15 := tq_eq (x := y1) (y := (1 : Int32)) rfl (b := 1) (by decide) c15
      refine D_bd4 (t_X3_readPerson K R P hK hR hP dnK) (fun r16 K_17 R_18 P_19 eq21 hq20 => ?_)
      refine D_lte (y := r16) rfl ?_
      refine D_lte (y := K_17) rfl ?_
      refine D_lte (y := R_18) rfl ?_
      refine D_lte (y := P_19) rfl ?_
      obtain ⟨p22, p23, p24, p25, p26⟩ : (0 ≤ r16.toInt ∧ r16.toInt ≤ 1) ∧ (iR BK K_17) ∧ (iR BR R_18) ∧ (iR BP P_19) ∧ (nK K_17) := hq20
      refine D_ck (okB_01 (by clear n2 hy1 kc15; omega)) ?_
      exact D_some (show (0 ≤ r16.toInt ∧ r16.toInt ≤ 1) ∧ (iR BK K_17) ∧ (iR BR R_18) ∧ (iR BP P_19) ∧ (nK K_17) from ⟨⟨(by clear n2 hy1 kc15; omega), (by clear n2 hy1 kc15; omega)⟩, p23, p24, p25, p26⟩)
    · skip
      refine D_ite (fun c27 => ?_) (fun c27 => ?_)
      · have kc27 := tq_eq (x := y1) (y := (2 : Int32)) rfl (b := 2) (by decide) c27
        refine D_bd4 (t_X3_readPiece K R P hK hR hP dnK) (fun r28 K_29 R_30 P_31 eq33 hq32 => ?_)
        refine D_lte (y := r28) rfl ?_
        refine D_lte (y := K_29) rfl ?_
        refine D_lte (y := R_30) rfl ?_
        refine D_lte (y := P_31) rfl ?_
        obtain ⟨p34, p35, p36, p37, p38⟩ : (0 ≤ r28.toInt ∧ r28.toInt ≤ 1) ∧ (iR BK K_29) ∧ (iR BR R_30) ∧ (iR BP P_31) ∧ (nK K_29) := hq32
        refine D_ck (okB_01 (by clear n2 hy1 kc27; omega)) ?_
        exact D_some (show (0 ≤ r28.toInt ∧ r28.toInt ≤ 1) ∧ (iR BK K_29) ∧ (iR BR R_30) ∧ (iR BP P_31) ∧ (nK K_29) from ⟨⟨(by clear n2 hy1 kc27; omega), (by clear n2 hy1 kc27; omega)⟩, p35, p36, p37, p38⟩)
      · skip
        refine D_ite (fun c39 => ?_) (fun c39 => ?_)
        · have kc39 := tq_eq (x := y1) (y := (3 : Int32)) rfl (b := 3) (by decide) c39
          refine D_bd4 (t_X3_readWait K R P hK hR hP dnK) (fun r40 K_41 R_42 P_43 eq45 hq44 => ?_)
          refine D_lte (y := r40) rfl ?_
          refine D_lte (y := K_41) rfl ?_
          refine D_lte (y := R_42) rfl ?_
          refine D_lte (y := P_43) rfl ?_
          obtain ⟨p46, p47, p48, p49, p50⟩ : (0 ≤ r40.toInt ∧ r40.toInt ≤ 1) ∧ (iR BK K_41) ∧ (iR BR R_42) ∧ (iR BP P_43) ∧ (nK K_41) := hq44
          refine D_ck (okB_01 (by clear n2 hy1 kc39; omega)) ?_
          exact D_some (show (0 ≤ r40.toInt ∧ r40.toInt ≤ 1) ∧ (iR BK K_41) ∧ (iR BR R_42) ∧ (iR BP P_43) ∧ (nK K_41) from ⟨⟨(by clear n2 hy1 kc39; omega), (by clear n2 hy1 kc39; omega)⟩, p47, p48, p49, p50⟩)
        · skip
          refine D_ite (fun c51 => ?_) (fun c51 => ?_)
          · have kc51 := tq_eq (x := y1) (y := (4 : Int32)) rfl (b := 4) (by decide) c51
            refine D_bd4 (t_X3_readRule K R P hK hR hP dnK) (fun r52 K_53 R_54 P_55 eq57 hq56 => ?_)
            refine D_lte (y := r52) rfl ?_
            refine D_lte (y := K_53) rfl ?_
            refine D_lte (y := R_54) rfl ?_
            refine D_lte (y := P_55) rfl ?_
            obtain ⟨p58, p59, p60, p61, p62⟩ : (0 ≤ r52.toInt ∧ r52.toInt ≤ 1) ∧ (iR BK K_53) ∧ (iR BR R_54) ∧ (iR BP P_55) ∧ (nK K_53) := hq56
            refine D_ck (okB_01 (by clear n2 hy1 kc51; omega)) ?_
            exact D_some (show (0 ≤ r52.toInt ∧ r52.toInt ≤ 1) ∧ (iR BK K_53) ∧ (iR BR R_54) ∧ (iR BP P_55) ∧ (nK K_53) from ⟨⟨(by clear n2 hy1 kc51; omega), (by clear n2 hy1 kc51; omega)⟩, p59, p60, p61, p62⟩)
          · skip
            refine D_ite (fun c63 => ?_) (fun c63 => ?_)
            · have kc63 := tq_eq (x := y1) (y := (5 : Int32)) rfl (b := 5) (by decide) c63
              refine D_bd4 (t_X3_readCurve K R P hK hR hP dnK) (fun r64 K_65 R_66 P_67 eq69 hq68 => ?_)
              refine D_lte (y := r64) rfl ?_
              refine D_lte (y := K_65) rfl ?_
              refine D_lte (y := R_66) rfl ?_
              refine D_lte (y := P_67) rfl ?_
              obtain ⟨p70, p71, p72, p73, p74⟩ : (0 ≤ r64.toInt ∧ r64.toInt ≤ 1) ∧ (iR BK K_65) ∧ (iR BR R_66) ∧ (iR BP P_67) ∧ (nK K_65) := hq68
              refine D_ck (okB_01 (by clear n2 hy1 kc63; omega)) ?_
              exact D_some (show (0 ≤ r64.toInt ∧ r64.toInt ≤ 1) ∧ (iR BK K_65) ∧ (iR BR R_66) ∧ (iR BP P_67) ∧ (nK K_65) from ⟨⟨(by clear n2 hy1 kc63; omega), (by clear n2 hy1 kc63; omega)⟩, p71, p72, p73, p74⟩)
            · skip
              refine D_ite (fun c75 => ?_) (fun c75 => ?_)
              · have kc75 := tq_eq (x := y1) (y := (6 : Int32)) rfl (b := 6) (by decide) c75
                refine D_bd4 (t_X3_readSeed K R P hK hR hP dnK) (fun r76 K_77 R_78 P_79 eq81 hq80 => ?_)
                refine D_lte (y := r76) rfl ?_
                refine D_lte (y := K_77) rfl ?_
                refine D_lte (y := R_78) rfl ?_
                refine D_lte (y := P_79) rfl ?_
                obtain ⟨p82, p83, p84, p85, p86⟩ : (0 ≤ r76.toInt ∧ r76.toInt ≤ 1) ∧ (iR BK K_77) ∧ (iR BR R_78) ∧ (iR BP P_79) ∧ (nK K_77) := hq80
                refine D_ck (okB_01 (by clear n2 hy1 kc75; omega)) ?_
                exact D_some (show (0 ≤ r76.toInt ∧ r76.toInt ≤ 1) ∧ (iR BK K_77) ∧ (iR BR R_78) ∧ (iR BP P_79) ∧ (nK K_77) from ⟨⟨(by clear n2 hy1 kc75; omega), (by clear n2 hy1 kc75; omega)⟩, p83, p84, p85, p86⟩)
              · skip
                refine D_ite (fun c87 => ?_) (fun c87 => ?_)
                · have kc87 := tq_eq (x := y1) (y := (7 : Int32)) rfl (b := 7) (by decide) c87
                  refine D_bd4 (t_X3_readLaw K R P hK hR hP dnK) (fun r88 K_89 R_90 P_91 eq93 hq92 => ?_)
                  refine D_lte (y := r88) rfl ?_
                  refine D_lte (y := K_89) rfl ?_
                  refine D_lte (y := R_90) rfl ?_
                  refine D_lte (y := P_91) rfl ?_
                  obtain ⟨p94, p95, p96, p97, p98⟩ : (0 ≤ r88.toInt ∧ r88.toInt ≤ 1) ∧ (iR BK K_89) ∧ (iR BR R_90) ∧ (iR BP P_91) ∧ (nK K_89) := hq92
                  refine D_ck (okB_01 (by clear n2 hy1 kc87; omega)) ?_
                  exact D_some (show (0 ≤ r88.toInt ∧ r88.toInt ≤ 1) ∧ (iR BK K_89) ∧ (iR BR R_90) ∧ (iR BP P_91) ∧ (nK K_89) from ⟨⟨(by clear n2 hy1 kc87; omega), (by clear n2 hy1 kc87; omega)⟩, p95, p96, p97, p98⟩)
                · skip
                  have l0 : (0 : Int32).toInt = 0 := by decide
                  have l1 : (1 : Int32).toInt = 1 := by decide
                  refine D_bd2 (t_X3_expect K R (0 : Int32) (1 : Int32) hK hR ⟨(by omega), (by omega)⟩) (fun r99 R_100 eq102 hq101 => ?_)
                  refine D_lte (y := r99) rfl ?_
                  refine D_lte (y := R_100) rfl ?_
                  obtain ⟨p103, p104, p105, p106, p107, p108⟩ : (0 ≤ r99.toInt ∧ r99.toInt ≤ 1) ∧ (iR BR R_100) ∧ (R_100 0 8 = (R 0 8)) ∧ (R_100 0 9 = (R 0 9)) ∧ (r99.toInt = (0 : Int32).toInt) ∧ (R_100 8 = R 8) := hq101
                  refine D_ck (okB_01 (by omega)) ?_
                  exact D_some (show (0 ≤ r99.toInt ∧ r99.toInt ≤ 1) ∧ (iR BK K) ∧ (iR BR R_100) ∧ (iR BP P) ∧ (nK K) from ⟨⟨(by omega), (by omega)⟩, hK, p104, hP, dnK⟩)
set_option maxHeartbeats 1000000 in
set_option maxRecDepth 100000 in
theorem tl_X3_readText_L42     (N : Nat) : ∀ (x2 : Int32) (K : Tr) (R : Tr) (P : Tr), nK K → iR BK K → iR BR R → iR BP P → 0 ≤ x2.toInt ∧ x2.toInt ≤ 1000 → 1000 - x2.toInt < (N : Int) → D (lpF (fun _ _ _ _ => none) (fB_X3_readText_L42 ) N x2 K R P) (fun (q : Int32 × Tr × Tr × Tr) => (0 ≤ (q.1).toInt ∧ (q.1).toInt ≤ 1) ∧ (iR BK (q.2.1)) ∧ (iR BR (q.2.2.1)) ∧ (iR BP (q.2.2.2)) ∧ (nK (q.2.1))) := by
  induction N with
  | zero =>
    intro x2 K R P dnK hK hR hP hx2 hN
    exfalso
    omega
  | succ N42 ih =>
    intro x2 K R P dnK hK hR hP hx2 hN
    have hk42 : ∀ (x2 : Int32) (K : Tr) (R : Tr) (P : Tr), nK K → iR BK K → iR BR R → iR BP P → 0 ≤ x2.toInt ∧ x2.toInt ≤ 1000 → 1000 - x2.toInt < (N42 : Int) → D (lpF (fun _ _ _ _ => none) (fB_X3_readText_L42 ) N42 x2 K R P) (fun (q : Int32 × Tr × Tr × Tr) => (0 ≤ (q.1).toInt ∧ (q.1).toInt ≤ 1) ∧ (iR BK (q.2.1)) ∧ (iR BR (q.2.2.1)) ∧ (iR BP (q.2.2.2)) ∧ (nK (q.2.1))) := ih
    show D (fB_X3_readText_L42  (lpF (fun _ _ _ _ => none) (fB_X3_readText_L42 ) N42) x2 K R P) _
    generalize lpF (fun _ _ _ _ => none) (fB_X3_readText_L42 ) N42 = k42 at hk42 ⊢
    have hN42 : 1000 - x2.toInt < (N42 : Int) + 1 := by omega
    clear ih
    unfold fB_X3_readText_L42
    refine D_ite (fun c30 => ?_) (fun c30 => ?_)
    · have kc30 := tq_lt (x := (700 : Int32)) (y := x2) (a := 700) (by decide) rfl c30
      unfold fJ_X3_readText_J123
      have n32 := i_rng (R 0 1)
      refine D_ite (fun c31 => ?_) (fun c31 => ?_)
      · have kc31 := tq_eq (x := (R 0 1)) (y := (0 : Int32)) rfl (b := 0) (by decide) c31
        have l1 : (1 : Int32).toInt = 1 := by decide
        exact D_some (show (0 ≤ (1 : Int32).toInt ∧ (1 : Int32).toInt ≤ 1) ∧ (iR BK K) ∧ (iR BR R) ∧ (iR BP P) ∧ (nK K) from ⟨⟨(by clear hx2 hN42 hN kc30 n32 kc31; omega), (by clear hx2 hN42 hN kc30 n32 kc31; omega)⟩, hK, hR, hP, dnK⟩)
      · skip
        have l0 : (0 : Int32).toInt = 0 := by decide
        exact D_some (show (0 ≤ (0 : Int32).toInt ∧ (0 : Int32).toInt ≤ 1) ∧ (iR BK K) ∧ (iR BR R) ∧ (iR BP P) ∧ (nK K) from ⟨⟨(by clear hx2 hN42 hN kc30 n32; omega), (by clear hx2 hN42 hN kc30 n32; omega)⟩, hK, hR, hP, dnK⟩)
    · have kc30 := tq_ltn (x := (700 : Int32)) (y := x2) (a := 700) (by decide) rfl c30
      have n34 := i_rng (R 0 1)
      refine D_ite (fun c33 => ?_) (fun c33 => ?_)
      · have kc33 := tq_eq (x := (R 0 1)) (y := (0 : Int32)) rfl (b := 0) (by decide) c33
        have n36 : 0 ≤ (K 0 1).toInt ∧ (K 0 1).toInt ≤ 45 := hK 0 1
        refine D_ite (fun c35 => ?_) (fun c35 => ?_)
        · have kc35 := tq_eq (x := (K 0 1)) (y := (45 : Int32)) rfl (b := 45) (by decide) c35
          unfold fJ_X3_readText_J123
          refine D_ite (fun c37 => ?_) (fun c37 => ?_)
          · have kc37 := tq_eq (x := (R 0 1)) (y := (0 : Int32)) rfl (b := 0) (by decide) c37
            have l1 : (1 : Int32).toInt = 1 := by decide
            exact D_some (show (0 ≤ (1 : Int32).toInt ∧ (1 : Int32).toInt ≤ 1) ∧ (iR BK K) ∧ (iR BR R) ∧ (iR BP P) ∧ (nK K) from ⟨⟨(by clear hx2 hN42 hN kc30 n34 kc33 n36 kc35 kc37; omega), (by clear hx2 hN42 hN kc30 n34 kc33 n36 kc35 kc37; omega)⟩, hK, hR, hP, dnK⟩)
          · have kc370 := tq_eqn (x := (R 0 1)) (y := (0 : Int32)) rfl (b := 0) (by decide) c37
            have kc37 : 1 ≤ (R 0 1).toInt := (by clear hx2 hN42 hN kc30 n36 kc35; omega)
            clear kc370
            exfalso
            exact (by clear hx2 hN42 hN kc30 n36 kc35; omega)
        · have kc350 := tq_eqn (x := (K 0 1)) (y := (45 : Int32)) rfl (b := 45) (by decide) c35
          have kc35 : (K 0 1).toInt ≤ 44 := (by clear hx2 hN42 hN kc30 n34 kc33; omega)
          clear kc350
          refine D_bd4 (t_X3_readLine K R P hK hR hP dnK) (fun r38 K_39 R_40 P_41 eq43 hq42 => ?_)
          refine D_lte (y := r38) rfl ?_
          refine D_lte (y := K_39) rfl ?_
          refine D_lte (y := R_40) rfl ?_
          refine D_lte (y := P_41) rfl ?_
          obtain ⟨p44, p45, p46, p47, p48⟩ : (0 ≤ r38.toInt ∧ r38.toInt ≤ 1) ∧ (iR BK K_39) ∧ (iR BR R_40) ∧ (iR BP P_41) ∧ (nK K_39) := hq42
          refine D_ite (fun c49 => ?_) (fun c49 => ?_)
          · have kc49 := tq_eq (x := r38) (y := (0 : Int32)) rfl (b := 0) (by decide) c49
            have n51 : (x2 + 1).toInt = x2.toInt + 1 := i_addK rfl (by decide) (by clear hN42 hN n34 kc33 n36 kc35 p44 kc49; omega) (by clear hN42 hN n34 kc33 n36 kc35 p44 kc49; omega)
            refine D_lt (fun y50 ey50 => ?_)
            have hy50 : y50.toInt = (x2 + 1 : Int32).toInt := by rw [ey50]
            exact hk42 y50 K_39 R_40 P_41 p48 p45 p46 p47 ⟨(by clear hN42 hN n34 kc33 n36 kc35 p44 kc49; omega), (by clear hN42 hN n34 kc33 n36 kc35 p44 kc49; omega)⟩ (by clear n34 kc33 n36 kc35 p44 kc49; omega)
          · have kc490 := tq_eqn (x := r38) (y := (0 : Int32)) rfl (b := 0) (by decide) c49
            have kc49 : 1 ≤ r38.toInt := (by clear hx2 hN42 hN kc30 n34 kc33 n36 kc35; omega)
            clear kc490
            have n53 : 0 ≤ (K_39 0 1).toInt ∧ (K_39 0 1).toInt ≤ 45 := p45 0 1
            refine D_ite (fun c52 => ?_) (fun c52 => ?_)
            · have kc52 := tq_eq (x := (K_39 0 1)) (y := (41 : Int32)) rfl (b := 41) (by decide) c52
              unfold fJ_X3_readText_J93
              have l1 : (1 : Int32).toInt = 1 := by decide
              refine D_bd2 (t_X3_expect K_39 R_40 (1 : Int32) (1 : Int32) p45 p46 ⟨(by clear hx2 hN42 hN kc30 n34 kc33 n36 kc35 p44 kc49 n53 kc52; omega), (by clear hx2 hN42 hN kc30 n34 kc33 n36 kc35 p44 kc49 n53 kc52; omega)⟩) (fun r54 R_55 eq57 hq56 => ?_)
              refine D_lte (y := r54) rfl ?_
              refine D_lte (y := R_55) rfl ?_
              obtain ⟨p58, p59, p60, p61, p62, p63⟩ : (0 ≤ r54.toInt ∧ r54.toInt ≤ 1) ∧ (iR BR R_55) ∧ (R_55 0 8 = (R_40 0 8)) ∧ (R_55 0 9 = (R_40 0 9)) ∧ (r54.toInt = (1 : Int32).toInt) ∧ (R_55 8 = R_40 8) := hq56
              refine D_ite (fun c64 => ?_) (fun c64 => ?_)
              · have kc64 := tq_eq (x := r54) (y := (0 : Int32)) rfl (b := 0) (by decide) c64
                exfalso
                exact (by clear hx2 hN42 hN kc30 n34 kc33 n36 kc35 p44 kc49 n53 kc52; omega)
              · skip
                refine D_bd (t_X5_advance K_39 p45) (fun K_65 eq67 hq66 => ?_)
                obtain ⟨p68, p69⟩ : (iR BK K_65) ∧ (nK K_65) := hq66
                refine D_lt (fun R_70 eR_70 => ?_)
                have hR_70 : iR BR R_70 := by rw [eR_70]; exact iR_setU p59 rfl
                have n72 : (x2 + 1).toInt = x2.toInt + 1 := i_addK rfl (by decide) (by clear hN42 hN n34 kc33 n36 kc35 p44 kc49 n53 kc52 p58 p62; omega) (by clear hN42 hN n34 kc33 n36 kc35 p44 kc49 n53 kc52 p58 p62; omega)
                refine D_lt (fun y71 ey71 => ?_)
                have hy71 : y71.toInt = (x2 + 1 : Int32).toInt := by rw [ey71]
                exact hk42 y71 K_65 R_70 P_41 p69 p68 hR_70 p47 ⟨(by clear hN42 hN n34 kc33 n36 kc35 p44 kc49 n53 kc52 p58 p62; omega), (by clear hN42 hN n34 kc33 n36 kc35 p44 kc49 n53 kc52 p58 p62; omega)⟩ (by clear n34 kc33 n36 kc35 p44 kc49 n53 kc52 p58 p62; omega)
            · skip
              unfold fJ_X3_readText_J93
              have l0 : (0 : Int32).toInt = 0 := by decide
              have l1 : (1 : Int32).toInt = 1 := by decide
              refine D_bd2 (t_X3_expect K_39 R_40 (0 : Int32) (1 : Int32) p45 p46 ⟨(by clear hx2 hN42 hN kc30 n34 kc33 n36 kc35 p44 kc49 n53; omega), (by clear hx2 hN42 hN kc30 n34 kc33 n36 kc35 p44 kc49 n53; omega)⟩) (fun r73 R_74 eq76 hq75 => ?_)
              refine D_lte (y := r73) rfl ?_
              refine D_lte (y := R_74) rfl ?_
              obtain ⟨p77, p78, p79, p80, p81, p82⟩ : (0 ≤ r73.toInt ∧ r73.toInt ≤ 1) ∧ (iR BR R_74) ∧ (R_74 0 8 = (R_40 0 8)) ∧ (R_74 0 9 = (R_40 0 9)) ∧ (r73.toInt = (0 : Int32).toInt) ∧ (R_74 8 = R_40 8) := hq75
              refine D_ite (fun c83 => ?_) (fun c83 => ?_)
              · have kc83 := tq_eq (x := r73) (y := (0 : Int32)) rfl (b := 0) (by decide) c83
                have n85 : (x2 + 1).toInt = x2.toInt + 1 := i_addK rfl (by decide) (by clear hN42 hN n34 kc33 n36 kc35 p44 kc49 n53 p77 p81 kc83; omega) (by clear hN42 hN n34 kc33 n36 kc35 p44 kc49 n53 p77 p81 kc83; omega)
                refine D_lt (fun y84 ey84 => ?_)
                have hy84 : y84.toInt = (x2 + 1 : Int32).toInt := by rw [ey84]
                exact hk42 y84 K_39 R_74 P_41 p48 p45 p78 p47 ⟨(by clear hN42 hN n34 kc33 n36 kc35 p44 kc49 n53 p77 p81 kc83; omega), (by clear hN42 hN n34 kc33 n36 kc35 p44 kc49 n53 p77 p81 kc83; omega)⟩ (by clear n34 kc33 n36 kc35 p44 kc49 n53 p77 p81 kc83; omega)
              · have kc830 := tq_eqn (x := r73) (y := (0 : Int32)) rfl (b := 0) (by decide) c83
                have kc83 : 1 ≤ r73.toInt := (by clear hx2 hN42 hN kc30 n34 kc33 n36 kc35 p44 kc49 n53; omega)
                clear kc830
                exfalso
                exact (by clear hx2 hN42 hN kc30 n34 kc33 n36 kc35 p44 kc49 n53; omega)
      · skip
        unfold fJ_X3_readText_J123
        refine D_ite (fun c86 => ?_) (fun c86 => ?_)
        · have kc86 := tq_eq (x := (R 0 1)) (y := (0 : Int32)) rfl (b := 0) (by decide) c86
          have l1 : (1 : Int32).toInt = 1 := by decide
          exact D_some (show (0 ≤ (1 : Int32).toInt ∧ (1 : Int32).toInt ≤ 1) ∧ (iR BK K) ∧ (iR BR R) ∧ (iR BP P) ∧ (nK K) from ⟨⟨(by clear hx2 hN42 hN kc30 n34 kc86; omega), (by clear hx2 hN42 hN kc30 n34 kc86; omega)⟩, hK, hR, hP, dnK⟩)
        · skip
          have l0 : (0 : Int32).toInt = 0 := by decide
          exact D_some (show (0 ≤ (0 : Int32).toInt ∧ (0 : Int32).toInt ≤ 1) ∧ (iR BK K) ∧ (iR BR R) ∧ (iR BP P) ∧ (nK K) from ⟨⟨(by clear hx2 hN42 hN kc30 n34; omega), (by clear hx2 hN42 hN kc30 n34; omega)⟩, hK, hR, hP, dnK⟩)
set_option maxHeartbeats 1000000 in
set_option maxRecDepth 100000 in
theorem t_X3_readText (K : Tr) (R : Tr) (P : Tr) (x1 : Int32) (hK : iR BK K) (hR : iR BR R) (hP : iR BP P) (hx1 : 0 ≤ x1.toInt ∧ x1.toInt ≤ 700) : D (f_X3_readText K R P x1) (fun (q : Int32 × Tr × Tr × Tr) => (0 ≤ (q.1).toInt ∧ (q.1).toInt ≤ 1) ∧ (iR BK (q.2.1)) ∧ (iR BR (q.2.2.1)) ∧ (iR BP (q.2.2.2)) ∧ (nK (q.2.1))) := by
  unfold f_X3_readText
  refine D_bd (t_X2_clear P hP) (fun P_1 eq3 hq2 => ?_)
  have p4 : iR BP P_1 := hq2
  refine D_lt (fun R_5 eR_5 => ?_)
  have hR_5 : iR BR R_5 := by rw [eR_5]; exact iR_setU hR rfl
  have l0 : (0 : Int32).toInt = 0 := by decide
  have n6 : (R_5 0 1).toInt = (0 : Int32).toInt := by rw [eR_5]; rfl
  refine D_lt (fun R_7 eR_7 => ?_)
  have hR_7 : iR BR R_7 := by rw [eR_7]; exact iR_setU hR_5 rfl
  have n8 : (R_7 0 1).toInt = (R_5 0 1).toInt := by rw [eR_7]; rfl
  have lm1 : ((-1) : Int32).toInt = (-1) := by decide
  have n9 : (R_7 0 2).toInt = ((-1) : Int32).toInt := by rw [eR_7]; rfl
  refine D_lt (fun R_10 eR_10 => ?_)
  have hR_10 : iR BR R_10 := by rw [eR_10]; exact iR_setU hR_7 rfl
  have n11 : (R_10 0 2).toInt = (R_7 0 2).toInt := by rw [eR_10]; rfl
  have n12 : (R_10 0 1).toInt = (R_7 0 1).toInt := by rw [eR_10]; rfl
  have n13 : (R_10 0 3).toInt = (0 : Int32).toInt := by rw [eR_10]; rfl
  refine D_lt (fun R_14 eR_14 => ?_)
  have hR_14 : iR BR R_14 := by rw [eR_14]; exact iR_setU hR_10 rfl
  have n15 : (R_14 0 2).toInt = (R_10 0 2).toInt := by rw [eR_14]; rfl
  have n16 : (R_14 0 3).toInt = (R_10 0 3).toInt := by rw [eR_14]; rfl
  have n17 : (R_14 0 1).toInt = (R_10 0 1).toInt := by rw [eR_14]; rfl
  have n18 : (R_14 0 5).toInt = (0 : Int32).toInt := by rw [eR_14]; rfl
  refine D_lt (fun R_19 eR_19 => ?_)
  have hR_19 : iR BR R_19 := by rw [eR_19]; exact iR_setU hR_14 rfl
  have n20 : (R_19 0 2).toInt = (R_14 0 2).toInt := by rw [eR_19]; rfl
  have n21 : (R_19 0 5).toInt = (R_14 0 5).toInt := by rw [eR_19]; rfl
  have n22 : (R_19 0 3).toInt = (R_14 0 3).toInt := by rw [eR_19]; rfl
  have n23 : (R_19 0 1).toInt = (R_14 0 1).toInt := by rw [eR_19]; rfl
  have n24 : (R_19 0 6).toInt = (0 : Int32).toInt := by rw [eR_19]; rfl
  refine D_bd (t_X5_begin K x1 hK ⟨(by clear n6 n8 n9 n11 n12 n13 n15 n16 n17 n18 n20 n21 n22 n23 n24; omega), (by clear n6 n8 n9 n11 n12 n13 n15 n16 n17 n18 n20 n21 n22 n23 n24; omega)⟩) (fun K_25 eq27 hq26 => ?_)
  obtain ⟨p28, p29⟩ : (iR BK K_25) ∧ (nK K_25) := hq26
  exact tl_X3_readText_L42     2000 (0 : Int32) K_25 R_19 P_1 p29 p28 hR_19 p4 ⟨(by clear hx1 n6 n8 n9 n11 n12 n13 n15 n16 n17 n18 n20 n21 n22 n23 n24; omega), (by clear hx1 n6 n8 n9 n11 n12 n13 n15 n16 n17 n18 n20 n21 n22 n23 n24; omega)⟩ (by clear hx1 n6 n8 n9 n11 n12 n13 n15 n16 n17 n18 n20 n21 n22 n23 n24; omega)
