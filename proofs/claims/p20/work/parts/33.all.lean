set_option maxHeartbeats 1000000 in
set_option maxRecDepth 100000 in
theorem tl_X6_begin_L133 (pa : Nat → Nat) (P : Tr) (q : Nat) (hP : iR BP P) (hq : q = pa 0)   (N : Nat) : ∀ (x2 : Int32) (T : Tr), z0T T → iR BT T → 0 ≤ x2.toInt ∧ x2.toInt ≤ 1000 → 1000 - x2.toInt < (N : Int) → D (lpF (fun _ _ => none) (fB_X6_begin_L133 pa P q) N x2 T) (fun (q : Tr × Nat) => (iR BT (q.1)) ∧ (z0T (q.1)) ∧ ((q.2) = pa 0)) := by
  induction N with
  | zero =>
    intro x2 T dz0 hT hx2 hN
    exfalso
    omega
  | succ N133 ih =>
    intro x2 T dz0 hT hx2 hN
    have hk133 : ∀ (x2 : Int32) (T : Tr), z0T T → iR BT T → 0 ≤ x2.toInt ∧ x2.toInt ≤ 1000 → 1000 - x2.toInt < (N133 : Int) → D (lpF (fun _ _ => none) (fB_X6_begin_L133 pa P q) N133 x2 T) (fun (q : Tr × Nat) => (iR BT (q.1)) ∧ (z0T (q.1)) ∧ ((q.2) = pa 0)) := ih
    show D (fB_X6_begin_L133 pa P q (lpF (fun _ _ => none) (fB_X6_begin_L133 pa P q) N133) x2 T) _
    generalize lpF (fun _ _ => none) (fB_X6_begin_L133 pa P q) N133 = k133 at hk133 ⊢
    have hN133 : 1000 - x2.toInt < (N133 : Int) + 1 := by omega
    clear ih
    unfold fB_X6_begin_L133
    refine D_ite (fun c31 => ?_) (fun c31 => ?_)
    · have kc31 := tq_le (x := (5 : Int32)) (y := x2) (a := 5) (by decide) rfl c31
      exact D_some (show (iR BT T) ∧ (z0T T) ∧ (q = pa 0) from ⟨hT, dz0, hq⟩)
    · have kc31 := tq_len (x := (5 : Int32)) (y := x2) (a := 5) (by decide) rfl c31
      refine D_ck (okI_of (by omega) (by omega)) ?_
      have l0 : (0 : Int32).toInt = 0 := by decide
      refine D_lt (fun T_32 eT_32 => ?_)
      have hT_32 : iR BT T_32 := by rw [eT_32]; exact iR_set hT (show (0 : Int) ≤ _ from (by clear hx2 hN133 hN kc31; omega)) (show _ ≤ (10 : Int) from (by clear hx2 hN133 hN kc31; omega))
      have kz0_t33 : z0T T_32 := by rw [eT_32]; exact dz0
      refine D_lt (fun T_34 eT_34 => ?_)
      have hT_34 : iR BT T_34 := by rw [eT_34]; exact iR_setU hT_32 rfl
      have kz0_t35 : z0T T_34 := by rw [eT_34]; exact kz0_t33
      have n37 : (x2 + 1).toInt = x2.toInt + 1 := i_addK rfl (by decide) (by omega) (by omega)
      refine D_lt (fun y36 ey36 => ?_)
      have hy36 : y36.toInt = (x2 + 1 : Int32).toInt := by rw [ey36]
      exact hk133 y36 T_34 kz0_t35 hT_34 ⟨(by omega), (by omega)⟩ (by omega)
set_option maxHeartbeats 1000000 in
set_option maxRecDepth 100000 in
theorem tl_X6_begin_L93 (pa : Nat → Nat) (P : Tr) (q : Nat) (hP : iR BP P) (hq : q = pa 0)   (N : Nat) : ∀ (x2 : Int32) (T : Tr), z0T T → iR BT T → 0 ≤ x2.toInt ∧ x2.toInt ≤ 1000 → 1000 - x2.toInt < (N : Int) → D (lpF (fun _ _ => none) (fB_X6_begin_L93 pa P q) N x2 T) (fun (q : Tr × Nat) => (iR BT (q.1)) ∧ (z0T (q.1)) ∧ ((q.2) = pa 0)) := by
  induction N with
  | zero =>
    intro x2 T dz0 hT hx2 hN
    exfalso
    omega
  | succ N93 ih =>
    intro x2 T dz0 hT hx2 hN
    have hk93 : ∀ (x2 : Int32) (T : Tr), z0T T → iR BT T → 0 ≤ x2.toInt ∧ x2.toInt ≤ 1000 → 1000 - x2.toInt < (N93 : Int) → D (lpF (fun _ _ => none) (fB_X6_begin_L93 pa P q) N93 x2 T) (fun (q : Tr × Nat) => (iR BT (q.1)) ∧ (z0T (q.1)) ∧ ((q.2) = pa 0)) := ih
    show D (fB_X6_begin_L93 pa P q (lpF (fun _ _ => none) (fB_X6_begin_L93 pa P q) N93) x2 T) _
    generalize lpF (fun _ _ => none) (fB_X6_begin_L93 pa P q) N93 = k93 at hk93 ⊢
    have hN93 : 1000 - x2.toInt < (N93 : Int) + 1 := by omega
    clear ih
    unfold fB_X6_begin_L93
    refine D_ite (fun c30 => ?_) (fun c30 => ?_)
    · have kc30 := tq_le (x := (10 : Int32)) (y := x2) (a := 10) (by decide) rfl c30
      have l0 : (0 : Int32).toInt = 0 := by decide
      exact tl_X6_begin_L133 pa P q hP hq   2000 (0 : Int32) T dz0 hT ⟨(by clear hx2 hN93 hN kc30; omega), (by clear hx2 hN93 hN kc30; omega)⟩ (by clear hx2 hN93 hN kc30; omega)
    · have kc30 := tq_len (x := (10 : Int32)) (y := x2) (a := 10) (by decide) rfl c30
      refine D_ck (okI_of (by omega) (by omega)) ?_
      have n39 : (-1) ≤ (P 17 x2.toNatClampNeg).toInt ∧ (P 17 x2.toNatClampNeg).toInt ≤ 4 := hP 17 x2.toNatClampNeg
      refine D_lt (fun T_38 eT_38 => ?_)
      have hT_38 : iR BT T_38 := by rw [eT_38]; exact iR_set hT (show ((-1) : Int) ≤ _ from (by clear hx2 hN93 hN kc30; omega)) (show _ ≤ (4 : Int) from (by clear hx2 hN93 hN kc30; omega))
      have kz0_t40 : z0T T_38 := by rw [eT_38]; exact dz0
      refine D_lt (fun T_41 eT_41 => ?_)
      have hT_41 : iR BT T_41 := by rw [eT_41]; exact iR_setU hT_38 rfl
      have kz0_t42 : z0T T_41 := by rw [eT_41]; exact kz0_t40
      have lm1 : ((-1) : Int32).toInt = (-1) := by decide
      refine D_lt (fun T_43 eT_43 => ?_)
      have hT_43 : iR BT T_43 := by rw [eT_43]; exact iR_set hT_41 (show ((-1) : Int) ≤ _ from (by clear hx2 hN93 hN kc30 n39; omega)) (show _ ≤ (4 : Int) from (by clear hx2 hN93 hN kc30 n39; omega))
      have kz0_t44 : z0T T_43 := by rw [eT_43]; exact kz0_t42
      have n46 : (x2 + 1).toInt = x2.toInt + 1 := i_addK rfl (by decide) (by clear hN93 hN n39; omega) (by clear hN93 hN n39; omega)
      refine D_lt (fun y45 ey45 => ?_)
      have hy45 : y45.toInt = (x2 + 1 : Int32).toInt := by rw [ey45]
      exact hk93 y45 T_43 kz0_t44 hT_43 ⟨(by clear hN93 hN n39; omega), (by clear hN93 hN n39; omega)⟩ (by omega)
set_option maxHeartbeats 1000000 in
set_option maxRecDepth 100000 in
theorem tl_X6_begin_L41 (pa : Nat → Nat) (P : Tr) (q : Nat) (hP : iR BP P) (hq : q = pa 0)   (N : Nat) : ∀ (x2 : Int32) (T : Tr), z0T T → iR BT T → 0 ≤ x2.toInt ∧ x2.toInt ≤ 1000 → 1000 - x2.toInt < (N : Int) → D (lpF (fun _ _ => none) (fB_X6_begin_L41 pa P q) N x2 T) (fun (q : Tr × Nat) => (iR BT (q.1)) ∧ (z0T (q.1)) ∧ ((q.2) = pa 0)) := by
  induction N with
  | zero =>
    intro x2 T dz0 hT hx2 hN
    exfalso
    omega
  | succ N41 ih =>
    intro x2 T dz0 hT hx2 hN
    have hk41 : ∀ (x2 : Int32) (T : Tr), z0T T → iR BT T → 0 ≤ x2.toInt ∧ x2.toInt ≤ 1000 → 1000 - x2.toInt < (N41 : Int) → D (lpF (fun _ _ => none) (fB_X6_begin_L41 pa P q) N41 x2 T) (fun (q : Tr × Nat) => (iR BT (q.1)) ∧ (z0T (q.1)) ∧ ((q.2) = pa 0)) := ih
    show D (fB_X6_begin_L41 pa P q (lpF (fun _ _ => none) (fB_X6_begin_L41 pa P q) N41) x2 T) _
    generalize lpF (fun _ _ => none) (fB_X6_begin_L41 pa P q) N41 = k41 at hk41 ⊢
    have hN41 : 1000 - x2.toInt < (N41 : Int) + 1 := by omega
    clear ih
    unfold fB_X6_begin_L41
    refine D_ite (fun c29 => ?_) (fun c29 => ?_)
    · have kc29 := tq_le (x := (6 : Int32)) (y := x2) (a := 6) (by decide) rfl c29
      have l0 : (0 : Int32).toInt = 0 := by decide
      exact tl_X6_begin_L93 pa P q hP hq   2000 (0 : Int32) T dz0 hT ⟨(by clear hx2 hN41 hN kc29; omega), (by clear hx2 hN41 hN kc29; omega)⟩ (by clear hx2 hN41 hN kc29; omega)
    · have kc29 := tq_len (x := (6 : Int32)) (y := x2) (a := 6) (by decide) rfl c29
      refine D_ck (okI_of (by omega) (by omega)) ?_
      refine D_lt (fun T_47 eT_47 => ?_)
      have hT_47 : iR BT T_47 := by rw [eT_47]; exact iR_setU hT rfl
      have kz0_t48 : z0T T_47 := by rw [eT_47]; exact dz0
      refine D_lt (fun T_49 eT_49 => ?_)
      have hT_49 : iR BT T_49 := by rw [eT_49]; exact iR_setU hT_47 rfl
      have kz0_t50 : z0T T_49 := by rw [eT_49]; exact kz0_t48
      refine D_lt (fun T_51 eT_51 => ?_)
      have hT_51 : iR BT T_51 := by rw [eT_51]; exact iR_setU hT_49 rfl
      have kz0_t52 : z0T T_51 := by rw [eT_51]; exact kz0_t50
      refine D_lt (fun T_53 eT_53 => ?_)
      have hT_53 : iR BT T_53 := by rw [eT_53]; exact iR_setU hT_51 rfl
      have kz0_t54 : z0T T_53 := by rw [eT_53]; exact kz0_t52
      have n56 : (x2 + 1).toInt = x2.toInt + 1 := i_addK rfl (by decide) (by omega) (by omega)
      refine D_lt (fun y55 ey55 => ?_)
      have hy55 : y55.toInt = (x2 + 1 : Int32).toInt := by rw [ey55]
      exact hk41 y55 T_53 kz0_t54 hT_53 ⟨(by omega), (by omega)⟩ (by omega)
set_option maxHeartbeats 1000000 in
set_option maxRecDepth 100000 in
theorem t_X6_begin (pa : Nat → Nat) (T : Tr) (P : Tr) (q : Nat) (hT : iR BT T) (hP : iR BP P) : D (f_X6_begin pa T P q) (fun (q : Tr × Nat) => (iR BT (q.1)) ∧ (z0T (q.1)) ∧ ((q.2) = pa 0)) := by
  unfold f_X6_begin
  have l0 : (0 : Int32).toInt = 0 := by decide
  refine D_lt (fun T_1 eT_1 => ?_)
  have hT_1 : iR BT T_1 := by rw [eT_1]; exact iR_set hT (show (0 : Int) ≤ _ from (by omega)) (show _ ≤ (21 : Int) from (by omega))
  have kz0_t2 : z0T T_1 := (by rw [eT_1]; rfl)
  have n3 : (T_1 0 0).toInt = (0 : Int32).toInt := by rw [eT_1]; rfl
  refine D_lt (fun T_4 eT_4 => ?_)
  have hT_4 : iR BT T_4 := by rw [eT_4]; exact iR_setU hT_1 rfl
  have kz0_t5 : z0T T_4 := by rw [eT_4]; exact kz0_t2
  have n6 : (T_4 0 0).toInt = (T_1 0 0).toInt := by rw [eT_4]; rfl
  have n7 : (T_4 0 1).toInt = (0 : Int32).toInt := by rw [eT_4]; rfl
  refine D_lt (fun T_8 eT_8 => ?_)
  have hT_8 : iR BT T_8 := by rw [eT_8]; exact iR_setU hT_4 rfl
  have kz0_t9 : z0T T_8 := by rw [eT_8]; exact kz0_t5
  have n10 : (T_8 0 0).toInt = (T_4 0 0).toInt := by rw [eT_8]; rfl
  have n11 : (T_8 0 1).toInt = (T_4 0 1).toInt := by rw [eT_8]; rfl
  have n12 := i_rng (P 0 6)
  have n13 : (T_8 0 2).toInt = (P 0 6).toInt := by rw [eT_8]; rfl
  refine D_lt (fun T_14 eT_14 => ?_)
  have hT_14 : iR BT T_14 := by rw [eT_14]; exact iR_setU hT_8 rfl
  have kz0_t15 : z0T T_14 := by rw [eT_14]; exact kz0_t9
  have n16 : (T_14 0 2).toInt = (T_8 0 2).toInt := by rw [eT_14]; rfl
  have n17 : (T_14 0 1).toInt = (T_8 0 1).toInt := by rw [eT_14]; rfl
  have n18 : (T_14 0 0).toInt = (T_8 0 0).toInt := by rw [eT_14]; rfl
  have n19 := i_rng (P 0 4)
  have n20 : (T_14 0 3).toInt = (P 0 4).toInt := by rw [eT_14]; rfl
  refine D_lt (fun T_21 eT_21 => ?_)
  have hT_21 : iR BT T_21 := by rw [eT_21]; exact iR_setU hT_14 rfl
  have kz0_t22 : z0T T_21 := by rw [eT_21]; exact kz0_t15
  have n23 : (T_21 0 2).toInt = (T_14 0 2).toInt := by rw [eT_21]; rfl
  have n24 : (T_21 0 0).toInt = (T_14 0 0).toInt := by rw [eT_21]; rfl
  have n25 : (T_21 0 3).toInt = (T_14 0 3).toInt := by rw [eT_21]; rfl
  have n26 : (T_21 0 1).toInt = (T_14 0 1).toInt := by rw [eT_21]; rfl
  have n27 := i_rng (P 0 5)
  have n28 : (T_21 0 4).toInt = (P 0 5).toInt := by rw [eT_21]; rfl
  exact tl_X6_begin_L41 pa P (pa 0) hP rfl   2000 (0 : Int32) T_21 kz0_t22 hT_21 ⟨(by clear n3 n6 n7 n10 n11 n12 n13 n16 n17 n18 n19 n20 n23 n24 n25 n26 n27 n28; omega), (by clear n3 n6 n7 n10 n11 n12 n13 n16 n17 n18 n19 n20 n23 n24 n25 n26 n27 n28; omega)⟩ (by clear n3 n6 n7 n10 n11 n12 n13 n16 n17 n18 n19 n20 n23 n24 n25 n26 n27 n28; omega)
set_option maxHeartbeats 1000000 in
set_option maxRecDepth 100000 in
theorem tl_X4_agreeWith_x_ua0_L2 (pa : Nat → Nat) (qa : Nat → Nat) (Tu : Tr) (Z : Tr) (hTu : iR BT Tu) (hZ : iR BZ Z) (ddZ : dZ Z)   (N : Nat) : ∀ (x2 : Int32), 0 ≤ x2.toInt ∧ x2.toInt ≤ 1000 → 1000 - x2.toInt < (N : Int) → D (lpF (fun _ => none) (fB_X4_agreeWith_x_ua0_L2 pa qa Tu Z) N x2) (fun (q : Int32) => (0 ≤ q.toInt ∧ q.toInt ≤ 1)) := by
  induction N with
  | zero =>
    intro x2 hx2 hN
    exfalso
    omega
  | succ N2 ih =>
    intro x2 hx2 hN
    have hk2 : ∀ (x2 : Int32), 0 ≤ x2.toInt ∧ x2.toInt ≤ 1000 → 1000 - x2.toInt < (N2 : Int) → D (lpF (fun _ => none) (fB_X4_agreeWith_x_ua0_L2 pa qa Tu Z) N2 x2) (fun (q : Int32) => (0 ≤ q.toInt ∧ q.toInt ≤ 1)) := ih
    show D (fB_X4_agreeWith_x_ua0_L2 pa qa Tu Z (lpF (fun _ => none) (fB_X4_agreeWith_x_ua0_L2 pa qa Tu Z) N2) x2) _
    generalize lpF (fun _ => none) (fB_X4_agreeWith_x_ua0_L2 pa qa Tu Z) N2 = k2 at hk2 ⊢
    have hN2 : 1000 - x2.toInt < (N2 : Int) + 1 := by omega
    clear ih
    unfold fB_X4_agreeWith_x_ua0_L2
    have n2 : 0 ≤ (Z 0 0).toInt ∧ (Z 0 0).toInt ≤ 24 := hZ 0 0
    refine D_ite (fun c1 => ?_) (fun c1 => ?_)
    · have kc1 := tq_le (x := (Z 0 0)) (y := x2) rfl rfl c1
      have l1 : (1 : Int32).toInt = 1 := by decide
      exact D_some (show (0 ≤ (1 : Int32).toInt ∧ (1 : Int32).toInt ≤ 1) from ⟨(by clear hx2 hN2 hN n2 kc1; omega), (by clear hx2 hN2 hN n2 kc1; omega)⟩)
    · have kc1 := tq_len (x := (Z 0 0)) (y := x2) rfl rfl c1
      refine D_ck (okI_of (by omega) (by omega)) ?_
      have n4 := i_rng (Z 7 x2.toNatClampNeg)
      refine D_ite (fun c3 => ?_) (fun c3 => ?_)
      · have kc3 := tq_eq (x := (Z 7 x2.toNatClampNeg)) (y := (0 : Int32)) rfl (b := 0) (by decide) c3
        have n6 : (x2 + 1).toInt = x2.toInt + 1 := i_addK rfl (by decide) (by clear hN2 hN n4 kc3; omega) (by clear hN2 hN n4 kc3; omega)
        refine D_lt (fun y5 ey5 => ?_)
        have hy5 : y5.toInt = (x2 + 1 : Int32).toInt := by rw [ey5]
        exact hk2 y5 ⟨(by clear hN2 hN n4 kc3; omega), (by clear hN2 hN n4 kc3; omega)⟩ (by omega)
      · skip
        have n8 := i_rng (Z 3 x2.toNatClampNeg)
        have n9 : 0 ≤ (Tu 0 0).toInt ∧ (Tu 0 0).toInt ≤ 21 := hTu 0 0
        refine D_ite (fun c7 => ?_) (fun c7 => ?_)
        · have kc7 := tq_eq (x := (Z 3 x2.toNatClampNeg)) (y := (Tu 0 0)) rfl rfl c7
          have n10 : 0 ≤ (Z 4 x2.toNatClampNeg).toInt ∧ (Z 4 x2.toNatClampNeg).toInt ≤ 23 := hZ 4 x2.toNatClampNeg
          have n11 : (Z 4 x2.toNatClampNeg).toInt ≤ 9 := ddZ x2.toNatClampNeg (by clear hx2 hN2 hN n2 kc1 n4 n10; omega)
          refine D_ck (okI_of (by clear hx2 hN2 hN n2 kc1 n4 n8 n9 kc7; omega) (by clear hx2 hN2 hN n2 kc1 n4 n8 n9 kc7; omega)) ?_
          have n13 : (-1) ≤ (Tu 15 (Z 4 x2.toNatClampNeg).toNatClampNeg).toInt ∧ (Tu 15 (Z 4 x2.toNatClampNeg).toNatClampNeg).toInt ≤ 4 := hTu 15 ((Z 4 x2.toNatClampNeg).toNatClampNeg)
          have n14 := i_rng (Z 5 x2.toNatClampNeg)
          refine D_ite (fun c12 => ?_) (fun c12 => ?_)
          · have kc12 := tq_eq (x := (Tu 15 (Z 4 x2.toNatClampNeg).toNatClampNeg)) (y := (Z 5 x2.toNatClampNeg)) rfl rfl c12
            unfold fJ_X4_agreeWith_x_ua0_J57
            refine D_ck (okI_of (by clear hN2 hN n4 n8 n9 kc7 n10 n11 n13 n14 kc12; omega) (by clear hN2 hN n4 n8 n9 kc7 n10 n11 n13 n14 kc12; omega)) ?_
            have n16 := i_rng (Z 6 x2.toNatClampNeg)
            refine D_ite (fun c15 => ?_) (fun c15 => ?_)
            · have kc15 := tq_eq (x := (Z 6 x2.toNatClampNeg)) (y := (1 : Int32)) rfl (b := 1) (by decide) c15
              unfold fJ_X4_agreeWith_x_ua0_J72
              have l1 : (1 : Int32).toInt = 1 := by decide
              refine D_ite (fun c17 => ?_) (fun c17 => ?_)
              · have kc17 := tq_eq (x := (1 : Int32)) (y := (1 : Int32)) rfl rfl c17
                have n19 : (x2 + 1).toInt = x2.toInt + 1 := i_addK rfl (by decide) (by clear hN2 hN n4 n8 n9 kc7 n10 n11 n13 n14 kc12 n16 kc15; omega) (by clear hN2 hN n4 n8 n9 kc7 n10 n11 n13 n14 kc12 n16 kc15; omega)
                refine D_lt (fun y18 ey18 => ?_)
                have hy18 : y18.toInt = (x2 + 1 : Int32).toInt := by rw [ey18]
                exact hk2 y18 ⟨(by clear hN2 hN n4 n8 n9 kc7 n10 n11 n13 n14 kc12 n16 kc15; omega), (by clear hN2 hN n4 n8 n9 kc7 n10 n11 n13 n14 kc12 n16 kc15; omega)⟩ (by clear n4 n8 n9 kc7 n10 n11 n13 n14 kc12 n16 kc15; omega)
              · have kc170 := tq_eqn (x := (1 : Int32)) (y := (1 : Int32)) rfl rfl c17
                have kc17 : 2 ≤ (1 : Int32).toInt := (by clear hx2 hN2 hN n2 kc1 n4 n8 n9 kc7 n10 n11 n13 n14 kc12 n16 kc15; omega)
                clear kc170
                exfalso
                exact (by clear hx2 hN2 hN n2 kc1 n4 n8 n9 kc7 n10 n11 n13 n14 kc12 n16 kc15; omega)
            · skip
              unfold fJ_X4_agreeWith_x_ua0_J72
              have l1 : (1 : Int32).toInt = 1 := by decide
              have l0 : (0 : Int32).toInt = 0 := by decide
              refine D_ite (fun c20 => ?_) (fun c20 => ?_)
              · have kc20 := tq_eq (x := (1 : Int32)) (y := (0 : Int32)) (a := 1) (by decide) (b := 0) (by decide) c20
                exfalso
                exact (by clear hx2 hN2 hN n2 kc1 n4 n8 n9 kc7 n10 n11 n13 n14 kc12 n16; omega)
              · skip
                exact D_some (show (0 ≤ (0 : Int32).toInt ∧ (0 : Int32).toInt ≤ 1) from ⟨(by clear hx2 hN2 hN n2 kc1 n4 n8 n9 kc7 n10 n11 n13 n14 kc12 n16; omega), (by clear hx2 hN2 hN n2 kc1 n4 n8 n9 kc7 n10 n11 n13 n14 kc12 n16; omega)⟩)
          · skip
            unfold fJ_X4_agreeWith_x_ua0_J57
            refine D_ck (okI_of (by clear hN2 hN n4 n8 n9 kc7 n10 n11 n13 n14; omega) (by clear hN2 hN n4 n8 n9 kc7 n10 n11 n13 n14; omega)) ?_
            have n22 := i_rng (Z 6 x2.toNatClampNeg)
            refine D_ite (fun c21 => ?_) (fun c21 => ?_)
            · have kc21 := tq_eq (x := (Z 6 x2.toNatClampNeg)) (y := (1 : Int32)) rfl (b := 1) (by decide) c21
              unfold fJ_X4_agreeWith_x_ua0_J72
              have l0 : (0 : Int32).toInt = 0 := by decide
              have l1 : (1 : Int32).toInt = 1 := by decide
              refine D_ite (fun c23 => ?_) (fun c23 => ?_)
              · have kc23 := tq_eq (x := (0 : Int32)) (y := (1 : Int32)) (a := 0) (by decide) (b := 1) (by decide) c23
                exfalso
                exact (by clear hx2 hN2 hN n2 kc1 n4 n8 n9 kc7 n10 n11 n13 n14 n22 kc21; omega)
              · skip
                exact D_some (show (0 ≤ (0 : Int32).toInt ∧ (0 : Int32).toInt ≤ 1) from ⟨(by clear hx2 hN2 hN n2 kc1 n4 n8 n9 kc7 n10 n11 n13 n14 n22 kc21; omega), (by clear hx2 hN2 hN n2 kc1 n4 n8 n9 kc7 n10 n11 n13 n14 n22 kc21; omega)⟩)
            · skip
              unfold fJ_X4_agreeWith_x_ua0_J72
              have l0 : (0 : Int32).toInt = 0 := by decide
              refine D_ite (fun c24 => ?_) (fun c24 => ?_)
              · have kc24 := tq_eq (x := (0 : Int32)) (y := (0 : Int32)) rfl rfl c24
                have n26 : (x2 + 1).toInt = x2.toInt + 1 := i_addK rfl (by decide) (by clear hN2 hN n4 n8 n9 kc7 n10 n11 n13 n14 n22; omega) (by clear hN2 hN n4 n8 n9 kc7 n10 n11 n13 n14 n22; omega)
                refine D_lt (fun y25 ey25 => ?_)
                have hy25 : y25.toInt = (x2 + 1 : Int32).toInt := by rw [ey25]
                exact hk2 y25 ⟨(by clear hN2 hN n4 n8 n9 kc7 n10 n11 n13 n14 n22; omega), (by clear hN2 hN n4 n8 n9 kc7 n10 n11 n13 n14 n22; omega)⟩ (by clear n4 n8 n9 kc7 n10 n11 n13 n14 n22; omega)
              · have kc240 := tq_eqn (x := (0 : Int32)) (y := (0 : Int32)) rfl rfl c24
                have kc24 : 1 ≤ (0 : Int32).toInt := (by clear hx2 hN2 hN n2 kc1 n4 n8 n9 kc7 n10 n11 n13 n14 n22; omega)
                clear kc240
                exfalso
                exact (by clear hx2 hN2 hN n2 kc1 n4 n8 n9 kc7 n10 n11 n13 n14 n22; omega)
        · skip
          have n28 : (x2 + 1).toInt = x2.toInt + 1 := i_addK rfl (by decide) (by clear hN2 hN n4 n8 n9; omega) (by clear hN2 hN n4 n8 n9; omega)
          refine D_lt (fun y27 ey27 => ?_)
          have hy27 : y27.toInt = (x2 + 1 : Int32).toInt := by rw [ey27]
          exact hk2 y27 ⟨(by clear hN2 hN n4 n8 n9; omega), (by clear hN2 hN n4 n8 n9; omega)⟩ (by clear n4 n8 n9; omega)
set_option maxHeartbeats 1000000 in
set_option maxRecDepth 100000 in
theorem t_X4_agreeWith_x_ua0 (pa : Nat → Nat) (qa : Nat → Nat) (Tu : Tr) (Z : Tr) (hTu : iR BT Tu) (hZ : iR BZ Z) (ddZ : dZ Z) : D (f_X4_agreeWith_x_ua0 pa qa Tu Z) (fun (q : Int32) => (0 ≤ q.toInt ∧ q.toInt ≤ 1)) := by
  unfold f_X4_agreeWith_x_ua0
  have l0 : (0 : Int32).toInt = 0 := by decide
  exact tl_X4_agreeWith_x_ua0_L2 pa qa Tu Z hTu hZ ddZ   2000 (0 : Int32) ⟨(by omega), (by omega)⟩ (by omega)
set_option maxHeartbeats 1000000 in
set_option maxRecDepth 100000 in
theorem tl_X7_agreesIfIn_L47 (zTu_0_0 : Int32) (pa : Nat → Nat) (qa : Nat → Nat) (P : Tr) (Z : Tr) (q2 : Nat) (q4 : Nat) (hP : iR BP P) (hZ : iR BZ Z) (ddZ : dZ Z) (hq2 : q2 = pa 0) (hq4 : q4 = pa 0)   (N : Nat) : ∀ (x3 : Int32) (L : Lo) (Tu : Tr), iR BT Tu → 0 ≤ x3.toInt ∧ x3.toInt ≤ 1000 → (Tu 0 0).toInt = x3.toInt → 1000 - x3.toInt < (N : Int) → D (lpF (fun _ _ _ => none) (fB_X7_agreesIfIn_L47 pa qa P Z q2 q4) N x3 L Tu) (fun (q : Int32 × Lo × Tr × Nat) => (0 ≤ (q.1).toInt ∧ (q.1).toInt ≤ 1) ∧ (iR BT (q.2.2.1))) := by
  induction N with
  | zero =>
    intro x3 L Tu hTu hx3 hst hN
    exfalso
    omega
  | succ N47 ih =>
    intro x3 L Tu hTu hx3 hst hN
    have hk47 : ∀ (x3 : Int32) (L : Lo) (Tu : Tr), iR BT Tu → 0 ≤ x3.toInt ∧ x3.toInt ≤ 1000 → (Tu 0 0).toInt = x3.toInt → 1000 - x3.toInt < (N47 : Int) → D (lpF (fun _ _ _ => none) (fB_X7_agreesIfIn_L47 pa qa P Z q2 q4) N47 x3 L Tu) (fun (q : Int32 × Lo × Tr × Nat) => (0 ≤ (q.1).toInt ∧ (q.1).toInt ≤ 1) ∧ (iR BT (q.2.2.1))) := ih
    show D (fB_X7_agreesIfIn_L47 pa qa P Z q2 q4 (lpF (fun _ _ _ => none) (fB_X7_agreesIfIn_L47 pa qa P Z q2 q4) N47) x3 L Tu) _
    generalize lpF (fun _ _ _ => none) (fB_X7_agreesIfIn_L47 pa qa P Z q2 q4) N47 = k47 at hk47 ⊢
    have hN47 : 1000 - x3.toInt < (N47 : Int) + 1 := by omega
    clear ih
    unfold fB_X7_agreesIfIn_L47
    refine D_ite (fun c31 => ?_) (fun c31 => ?_)
    · have kc31 := tq_le (x := (20 : Int32)) (y := x3) (a := 20) (by decide) rfl c31
      have l1 : (1 : Int32).toInt = 1 := by decide
      exact D_some (show (0 ≤ (1 : Int32).toInt ∧ (1 : Int32).toInt ≤ 1) ∧ (iR BT Tu) from ⟨⟨(by clear hx3 hst hN47 hN kc31; omega), (by clear hx3 hst hN47 hN kc31; omega)⟩, hTu⟩)
    · have kc31 := tq_len (x := (20 : Int32)) (y := x3) (a := 20) (by decide) rfl c31
      refine D_ck (decide_eq_true hq4) ?_
      refine D_ck (okI_of (by omega) (by omega)) ?_
      refine D_ck (decide_eq_true hq2) ?_
      have n32 := i_rng (P 18 x3.toNatClampNeg)
      refine D_bd3 (t_X6_takeDown Tu P L (P 18 x3.toNatClampNeg) hTu hP) (fun r33 Tu_34 L_35 eq37 hq36 => ?_)
      refine D_lte (y := r33) rfl ?_
      refine D_lte (y := Tu_34) rfl ?_
      refine D_lte (y := L_35) rfl ?_
      obtain ⟨p38, p39⟩ : (iR BT Tu_34) ∧ (Tu_34 0 0 = (Tu 0 0)) := hq36
      have n40 := i_rng r33
      have k41 : Tu_34 0 0 = (Tu 0 0) := p39
      refine D_bd (t_X6_getIn Tu_34 P p38 hP) (fun Tu_42 eq44 hq43 => ?_)
      obtain ⟨p45, p46⟩ : (iR BT Tu_42) ∧ (Tu_42 0 0 = (Tu_34 0 0)) := hq43
      have k47 : Tu_42 0 0 = (Tu 0 0) := p46.trans k41
      refine D_bd (t_X4_agreeWith_x_ua0 pa qa Tu_42 Z p45 hZ ddZ) (fun r48 eq50 hq49 => ?_)
      have p51 : 0 ≤ r48.toInt ∧ r48.toInt ≤ 1 := hq49
      refine D_ite (fun c52 => ?_) (fun c52 => ?_)
      · have kc52 := tq_eq (x := r48) (y := (0 : Int32)) rfl (b := 0) (by decide) c52
        have l0 : (0 : Int32).toInt = 0 := by decide
        exact D_some (show (0 ≤ (0 : Int32).toInt ∧ (0 : Int32).toInt ≤ 1) ∧ (iR BT Tu_42) from ⟨⟨(by clear hx3 hst hN47 hN kc31 n32 n40 p51 kc52; omega), (by clear hx3 hst hN47 hN kc31 n32 n40 p51 kc52; omega)⟩, p45⟩)
      · have kc520 := tq_eqn (x := r48) (y := (0 : Int32)) rfl (b := 0) (by decide) c52
        have kc52 : 1 ≤ r48.toInt := (by clear hx3 hst hN47 hN kc31 n32 n40; omega)
        clear kc520
        have n53 : 0 ≤ (Tu_42 0 0).toInt ∧ (Tu_42 0 0).toInt ≤ 21 := p45 0 0
        have n54 : 0 ≤ (Tu 0 0).toInt ∧ (Tu 0 0).toInt ≤ 21 := hTu 0 0
        have kz55 : (Tu_42 0 0).toInt = (Tu 0 0).toInt := congrArg Int32.toInt k47
        refine D_bd2 (t_X6_wayOn Tu_42 P L_35 p45 hP (by clear hN47 hN n32 n40 p51 kc52; omega)) (fun Tu_56 L_57 eq59 hq58 => ?_)
        refine D_lte (y := Tu_56) rfl ?_
        refine D_lte (y := L_57) rfl ?_
        obtain ⟨p60, p61⟩ : (iR BT Tu_56) ∧ ((Tu_56 0 0).toInt = (Tu_42 0 0).toInt + 1) := hq58
        have n63 : (x3 + 1).toInt = x3.toInt + 1 := i_addK rfl (by decide) (by clear hN47 hN n32 n40 p51 kc52; omega) (by clear hN47 hN n32 n40 p51 kc52; omega)
        refine D_lt (fun y62 ey62 => ?_)
        have hy62 : y62.toInt = (x3 + 1 : Int32).toInt := by rw [ey62]
        have n64 : 0 ≤ (Tu_56 0 0).toInt ∧ (Tu_56 0 0).toInt ≤ 21 := p60 0 0
        exact hk47 y62 L_57 Tu_56 p60 ⟨(by clear hN47 hN n32 n40 p51 kc52; omega), (by clear hN47 hN n32 n40 p51 kc52; omega)⟩ (by clear hN47 hN n32 n40 p51 kc52; omega) (by clear n32 n40 p51 kc52; omega)
set_option maxHeartbeats 1000000 in
set_option maxRecDepth 100000 in
theorem t_X7_agreesIfIn (pa : Nat → Nat) (qa : Nat → Nat) (P : Tr) (L : Lo) (Tu : Tr) (Z : Tr) (q2 : Nat) (q4 : Nat) (x1 : Int32) (x2 : Int32) (hP : iR BP P) (hTu : iR BT Tu) (hZ : iR BZ Z) (ddZ : dZ Z) (hx1 : 0 ≤ x1.toInt ∧ x1.toInt ≤ 5) (hq4 : q4 = pa 0) : D (f_X7_agreesIfIn pa qa P L Tu Z q2 q4 x1 x2) (fun (q : Int32 × Lo × Tr × Nat) => (0 ≤ (q.1).toInt ∧ (q.1).toInt ≤ 1) ∧ (iR BT (q.2.2.1))) := by
  unfold f_X7_agreesIfIn
  refine D_ck (decide_eq_true hq4) ?_
  refine D_bd2 (t_X6_begin pa Tu P q2 hTu hP) (fun Tu_1 q2_2 eq4 hq3 => ?_)
  refine D_lte (y := Tu_1) rfl ?_
  refine D_lte (y := q2_2) rfl ?_
  obtain ⟨p5, p6, p7⟩ : (iR BT Tu_1) ∧ (z0T Tu_1) ∧ (q2_2 = pa 0) := hq3
  have kz8 : (Tu_1 0 0).toInt = 0 := by rw [show Tu_1 0 0 = 0 from p6]; rfl
  have n9 : 0 ≤ (Tu_1 0 0).toInt ∧ (Tu_1 0 0).toInt ≤ 21 := p5 0 0
  refine D_lt (fun Tu_10 eTu_10 => ?_)
  have hTu_10 : iR BT Tu_10 := by rw [eTu_10]; exact iR_setU p5 rfl
  have n12 : (Tu_10 0 0).toInt = (Tu_1 0 0).toInt := by rw [eTu_10]; rfl
  have l0 : (0 : Int32).toInt = 0 := by decide
  have n13 : (Tu_10 0 5).toInt = (0 : Int32).toInt := by rw [eTu_10]; rfl
  refine D_lt (fun Tu_14 eTu_14 => ?_)
  have hTu_14 : iR BT Tu_14 := by rw [eTu_14]; exact iR_setU hTu_10 rfl
  have n16 : (Tu_14 0 5).toInt = (Tu_10 0 5).toInt := by rw [eTu_14]; rfl
  have n17 : (Tu_14 0 0).toInt = (Tu_10 0 0).toInt := by rw [eTu_14]; rfl
  have l1 : (1 : Int32).toInt = 1 := by decide
  have n18 : (Tu_14 0 6).toInt = (1 : Int32).toInt := by rw [eTu_14]; rfl
  refine D_lt (fun Tu_19 eTu_19 => ?_)
  have hTu_19 : iR BT Tu_19 := by rw [eTu_19]; exact iR_setU hTu_14 rfl
  have n21 : (Tu_19 0 6).toInt = (Tu_14 0 6).toInt := by rw [eTu_19]; rfl
  have n22 : (Tu_19 0 0).toInt = (Tu_14 0 0).toInt := by rw [eTu_19]; rfl
  have n23 : (Tu_19 0 5).toInt = (Tu_14 0 5).toInt := by rw [eTu_19]; rfl
  have n24 : (Tu_19 0 7).toInt = (1 : Int32).toInt := by rw [eTu_19]; rfl
  refine D_ck (okI_of (by clear kz8 n9 n12 n13 n16 n17 n18 n21 n22 n23 n24; omega) (by clear kz8 n9 n12 n13 n16 n17 n18 n21 n22 n23 n24; omega)) ?_
  refine D_lt (fun Tu_25 eTu_25 => ?_)
  have hTu_25 : iR BT Tu_25 := by rw [eTu_25]; exact iR_setU hTu_19 rfl
  have n27 : (Tu_25 0 6).toInt = (Tu_19 0 6).toInt := by rw [eTu_25]; rfl
  have n28 : (Tu_25 0 0).toInt = (Tu_19 0 0).toInt := by rw [eTu_25]; rfl
  have n29 : (Tu_25 0 7).toInt = (Tu_19 0 7).toInt := by rw [eTu_25]; rfl
  have n30 : (Tu_25 0 5).toInt = (Tu_19 0 5).toInt := by rw [eTu_25]; rfl
  exact tl_X7_agreesIfIn_L47 (Tu 0 0) pa qa P Z q2_2 (pa 0) hP hZ ddZ p7 rfl   2000 (0 : Int32) L Tu_25 hTu_25 ⟨(by clear hx1 kz8 n9 n12 n13 n16 n17 n18 n21 n22 n23 n24 n27 n28 n29 n30; omega), (by clear hx1 kz8 n9 n12 n13 n16 n17 n18 n21 n22 n23 n24 n27 n28 n29 n30; omega)⟩ (by clear hx1 n13 n16 n18 n21 n23 n24 n27 n29 n30; omega) (by clear hx1 kz8 n9 n12 n13 n16 n17 n18 n21 n22 n23 n24 n27 n28 n29 n30; omega)
set_option maxHeartbeats 1000000 in
set_option maxRecDepth 100000 in
theorem t_X6_copy (T : Tr) (T2 : Tr) (q : Nat) (q2 : Nat) (hT : iR BT T) (hT2 : iR BT T2) : D (f_X6_copy T T2 q q2) (fun (q : Tr × Nat) => (iR BT (q.1)) ∧ ((q.2) = q2) ∧ ((q.1) 0 0 = T2 0 0)) := by
  unfold f_X6_copy
  have n2 : 0 ≤ (T2 0 0).toInt ∧ (T2 0 0).toInt ≤ 21 := hT2 0 0
  refine D_lt (fun T_1 eT_1 => ?_)
  have hT_1 : iR BT T_1 := by rw [eT_1]; exact iR_set hT (show (0 : Int) ≤ _ from (by omega)) (show _ ≤ (21 : Int) from (by omega))
  have kcp_t3 : T_1 0 0 = (T2 0 0) := (by rw [eT_1]; rfl)
  have n4 : (T_1 0 0).toInt = (T2 0 0).toInt := by rw [eT_1]; rfl
  refine D_lt (fun T_5 eT_5 => ?_)
  have hT_5 : iR BT T_5 := by rw [eT_5]; exact iR_setU hT_1 rfl
  have kcp_t6 : T_5 0 0 = (T2 0 0) := by rw [eT_5]; exact kcp_t3
  have n7 : (T_5 0 0).toInt = (T_1 0 0).toInt := by rw [eT_5]; rfl
  have n8 := i_rng (T2 0 1)
  have n9 : (T_5 0 1).toInt = (T2 0 1).toInt := by rw [eT_5]; rfl
  refine D_lt (fun T_10 eT_10 => ?_)
  have hT_10 : iR BT T_10 := by rw [eT_10]; exact iR_setU hT_5 rfl
  have kcp_t11 : T_10 0 0 = (T2 0 0) := by rw [eT_10]; exact kcp_t6
  have n12 : (T_10 0 0).toInt = (T_5 0 0).toInt := by rw [eT_10]; rfl
  have n13 : (T_10 0 1).toInt = (T_5 0 1).toInt := by rw [eT_10]; rfl
  have n14 := i_rng (T2 0 2)
  have n15 : (T_10 0 2).toInt = (T2 0 2).toInt := by rw [eT_10]; rfl
  refine D_lt (fun T_16 eT_16 => ?_)
  have hT_16 : iR BT T_16 := by rw [eT_16]; exact iR_setU hT_10 rfl
  have kcp_t17 : T_16 0 0 = (T2 0 0) := by rw [eT_16]; exact kcp_t11
  have n18 : (T_16 0 2).toInt = (T_10 0 2).toInt := by rw [eT_16]; rfl
  have n19 : (T_16 0 0).toInt = (T_10 0 0).toInt := by rw [eT_16]; rfl
  have n20 : (T_16 0 1).toInt = (T_10 0 1).toInt := by rw [eT_16]; rfl
  have n21 := i_rng (T2 0 3)
  have n22 : (T_16 0 3).toInt = (T2 0 3).toInt := by rw [eT_16]; rfl
  refine D_lt (fun T_23 eT_23 => ?_)
  have hT_23 : iR BT T_23 := by rw [eT_23]; exact iR_setU hT_16 rfl
  have kcp_t24 : T_23 0 0 = (T2 0 0) := by rw [eT_23]; exact kcp_t17
  have n25 : (T_23 0 3).toInt = (T_16 0 3).toInt := by rw [eT_23]; rfl
  have n26 : (T_23 0 2).toInt = (T_16 0 2).toInt := by rw [eT_23]; rfl
  have n27 : (T_23 0 0).toInt = (T_16 0 0).toInt := by rw [eT_23]; rfl
  have n28 : (T_23 0 1).toInt = (T_16 0 1).toInt := by rw [eT_23]; rfl
  have n29 := i_rng (T2 0 4)
  have n30 : (T_23 0 4).toInt = (T2 0 4).toInt := by rw [eT_23]; rfl
  refine D_lt (fun T_31 eT_31 => ?_)
  have hT_31 : iR BT T_31 := by rw [eT_31]; exact iR_cpy hT_23 (fun j => hT2 9 j)
  have kcp_t32 : T_31 0 0 = (T2 0 0) := by rw [eT_31]; exact kcp_t24
  refine D_lt (fun T_33 eT_33 => ?_)
  have hT_33 : iR BT T_33 := by rw [eT_33]; exact iR_cpy hT_31 (fun j => hT2 10 j)
  have kcp_t34 : T_33 0 0 = (T2 0 0) := by rw [eT_33]; exact kcp_t32
  refine D_lt (fun T_35 eT_35 => ?_)
  have hT_35 : iR BT T_35 := by rw [eT_35]; exact iR_cpy hT_33 (fun j => hT2 11 j)
  have kcp_t36 : T_35 0 0 = (T2 0 0) := by rw [eT_35]; exact kcp_t34
  refine D_lt (fun T_37 eT_37 => ?_)
  have hT_37 : iR BT T_37 := by rw [eT_37]; exact iR_cpy hT_35 (fun j => hT2 12 j)
  have kcp_t38 : T_37 0 0 = (T2 0 0) := by rw [eT_37]; exact kcp_t36
  refine D_lt (fun T_39 eT_39 => ?_)
  have hT_39 : iR BT T_39 := by rw [eT_39]; exact iR_cpy hT_37 (fun j => hT2 13 j)
  have kcp_t40 : T_39 0 0 = (T2 0 0) := by rw [eT_39]; exact kcp_t38
  refine D_lt (fun T_41 eT_41 => ?_)
  have hT_41 : iR BT T_41 := by rw [eT_41]; exact iR_cpy hT_39 (fun j => hT2 14 j)
  have kcp_t42 : T_41 0 0 = (T2 0 0) := by rw [eT_41]; exact kcp_t40
  refine D_lt (fun T_43 eT_43 => ?_)
  have hT_43 : iR BT T_43 := by rw [eT_43]; exact iR_cpy hT_41 (fun j => hT2 15 j)
  have kcp_t44 : T_43 0 0 = (T2 0 0) := by rw [eT_43]; exact kcp_t42
  refine D_lt (fun T_45 eT_45 => ?_)
  have hT_45 : iR BT T_45 := by rw [eT_45]; exact iR_cpy hT_43 (fun j => hT2 16 j)
  have kcp_t46 : T_45 0 0 = (T2 0 0) := by rw [eT_45]; exact kcp_t44
  refine D_lt (fun T_47 eT_47 => ?_)
  have hT_47 : iR BT T_47 := by rw [eT_47]; exact iR_cpy hT_45 (fun j => hT2 17 j)
  have kcp_t48 : T_47 0 0 = (T2 0 0) := by rw [eT_47]; exact kcp_t46
  refine D_lt (fun T_49 eT_49 => ?_)
  have hT_49 : iR BT T_49 := by rw [eT_49]; exact iR_cpy hT_47 (fun j => hT2 18 j)
  have kcp_t50 : T_49 0 0 = (T2 0 0) := by rw [eT_49]; exact kcp_t48
  exact D_some (show (iR BT T_49) ∧ (q2 = q2) ∧ (T_49 0 0 = T2 0 0) from ⟨hT_49, rfl, kcp_t50⟩)
set_option maxHeartbeats 1000000 in
set_option maxRecDepth 100000 in
theorem t_X7_startTrial (pa : Nat → Nat) (qa : Nat → Nat) (Tn : Tr) (Tu : Tr) (q0 : Nat) (q2 : Nat) (hTn : iR BT Tn) (hTu : iR BT Tu) : D (f_X7_startTrial pa qa Tn Tu q0 q2) (fun (q : Tr × Nat) => (iR BT (q.1)) ∧ ((q.2) = q0) ∧ ((q.1) 0 0 = Tn 0 0)) := by
  unfold f_X7_startTrial
  refine D_bd2 (t_X6_copy Tu Tn q2 q0 hTu hTn) (fun Tu_1 q2_2 eq4 hq3 => ?_)
  refine D_lte (y := Tu_1) rfl ?_
  refine D_lte (y := q2_2) rfl ?_
  obtain ⟨p5, p6, p7⟩ : (iR BT Tu_1) ∧ (q2_2 = q0) ∧ (Tu_1 0 0 = Tn 0 0) := hq3
  have kct_t8 : Tu_1 0 0 = (Tn 0 0) := p7
  refine D_lt (fun Tu_9 eTu_9 => ?_)
  have hTu_9 : iR BT Tu_9 := by rw [eTu_9]; exact iR_setU p5 rfl
  have kct_t10 : Tu_9 0 0 = (Tn 0 0) := by rw [eTu_9]; exact kct_t8
  have l0 : (0 : Int32).toInt = 0 := by decide
  have n11 : (Tu_9 0 5).toInt = (0 : Int32).toInt := by rw [eTu_9]; rfl
  refine D_lt (fun Tu_12 eTu_12 => ?_)
  have hTu_12 : iR BT Tu_12 := by rw [eTu_12]; exact iR_setU hTu_9 rfl
  have kct_t13 : Tu_12 0 0 = (Tn 0 0) := by rw [eTu_12]; exact kct_t10
  have n14 : (Tu_12 0 5).toInt = (Tu_9 0 5).toInt := by rw [eTu_12]; rfl
  have l1 : (1 : Int32).toInt = 1 := by decide
  have n15 : (Tu_12 0 6).toInt = (1 : Int32).toInt := by rw [eTu_12]; rfl
  refine D_lt (fun Tu_16 eTu_16 => ?_)
  have hTu_16 : iR BT Tu_16 := by rw [eTu_16]; exact iR_setU hTu_12 rfl
  have kct_t17 : Tu_16 0 0 = (Tn 0 0) := by rw [eTu_16]; exact kct_t13
  have n18 : (Tu_16 0 5).toInt = (Tu_12 0 5).toInt := by rw [eTu_16]; rfl
  have n19 : (Tu_16 0 6).toInt = (Tu_12 0 6).toInt := by rw [eTu_16]; rfl
  have n20 : (Tu_16 0 7).toInt = (1 : Int32).toInt := by rw [eTu_16]; rfl
  exact D_some (show (iR BT Tu_16) ∧ (q2_2 = q0) ∧ (Tu_16 0 0 = Tn 0 0) from ⟨hTu_16, p6, kct_t17⟩)
set_option maxHeartbeats 1000000 in
set_option maxRecDepth 100000 in
theorem t_X7_liftsOfTrial (pa : Nat → Nat) (qa : Nat → Nat) (P : Tr) (L : Lo) (Tn : Tr) (Tu : Tr) (q2 : Nat) (hP : iR BP P) (hTn : iR BT Tn) (hTu : iR BT Tu) (hq2 : q2 = pa 0) : D (f_X7_liftsOfTrial pa qa P L Tn Tu q2) (fun (q : Int32 × Lo × Tr) => (iR BT (q.2.2))) := by
  unfold f_X7_liftsOfTrial
  refine D_ck (decide_eq_true hq2) ?_
  refine D_bd2 (t_X6_runToEnd Tu P L hTu hP) (fun Tu_1 L_2 eq4 hq3 => ?_)
  refine D_lte (y := Tu_1) rfl ?_
  refine D_lte (y := L_2) rfl ?_
  have p5 : iR BT Tu_1 := hq3
  have n6 := i_rng ((Tu_1 0 1) - (Tn 0 1))
  exact D_some (show (iR BT Tu_1) from p5)
set_option maxHeartbeats 1000000 in
set_option maxRecDepth 100000 in
theorem tl_X7_asking_L29 (pa : Nat → Nat) (qa : Nat → Nat) (P : Tr) (L : Lo) (Tn : Tr) (q0 : Nat) (q2 : Nat) (q4 : Nat) (x1 : Int32) (x2 : Int32) (N21 : Nat) (hP : iR BP P) (hTn : iR BT Tn) (hq0 : q0 = pa 0) (hq2 : q2 = pa 0) (hq4 : q4 = pa 0) (hx2 : 0 ≤ x2.toInt ∧ x2.toInt ≤ 20) (hN21 : 1000 - x2.toInt < (N21 : Int) + 1) (k21 : Int32 → Lo → Tr → Option (Int32 × Lo × Tr × Nat)) (hk21 : ∀ (x2 : Int32) (L : Lo) (Tu : Tr), iR BT Tu → 0 ≤ x2.toInt ∧ x2.toInt ≤ 1000 → 1000 - x2.toInt < (N21 : Int) → D (k21 x2 L Tu) (fun (q : Int32 × Lo × Tr × Nat) => (iR BT (q.2.2.1)))) (N : Nat) : ∀ (x3 : Int32) (Tu : Tr), iR BT Tu → 0 ≤ x3.toInt ∧ x3.toInt ≤ 1000 → 1000 - x3.toInt < (N : Int) → D (lpF (fun _ _ => none) (fB_X7_asking_L29 k21 pa qa P L Tn q0 q2 q4 x1 x2) N x3 Tu) (fun (q : Int32 × Lo × Tr × Nat) => (iR BT (q.2.2.1))) := by
  induction N with
  | zero =>
    intro x3 Tu hTu hx3 hN
    exfalso
    omega
  | succ N29 ih =>
    intro x3 Tu hTu hx3 hN
    have hk29 : ∀ (x3 : Int32) (Tu : Tr), iR BT Tu → 0 ≤ x3.toInt ∧ x3.toInt ≤ 1000 → 1000 - x3.toInt < (N29 : Int) → D (lpF (fun _ _ => none) (fB_X7_asking_L29 k21 pa qa P L Tn q0 q2 q4 x1 x2) N29 x3 Tu) (fun (q : Int32 × Lo × Tr × Nat) => (iR BT (q.2.2.1))) := ih
    show D (fB_X7_asking_L29 k21 pa qa P L Tn q0 q2 q4 x1 x2 (lpF (fun _ _ => none) (fB_X7_asking_L29 k21 pa qa P L Tn q0 q2 q4 x1 x2) N29) x3 Tu) _
    generalize lpF (fun _ _ => none) (fB_X7_asking_L29 k21 pa qa P L Tn q0 q2 q4 x1 x2) N29 = k29 at hk29 ⊢
    have hN29 : 1000 - x3.toInt < (N29 : Int) + 1 := by omega
    clear ih
    unfold fB_X7_asking_L29
    refine D_ck (decide_eq_true hq4) ?_
    have n29 : 0 ≤ (P 0 0).toInt ∧ (P 0 0).toInt ≤ 5 := hP 0 0
    refine D_ite (fun c28 => ?_) (fun c28 => ?_)
    · have kc28 := tq_le (x := (P 0 0)) (y := x3) rfl rfl c28
      unfold fJ_X7_asking_J66
      refine D_ck (decide_eq_true hq2) ?_
      refine D_bd2 (t_X6_passStop Tu P L hTu hP) (fun Tu_30 L_31 eq33 hq32 => ?_)
      refine D_lte (y := Tu_30) rfl ?_
      refine D_lte (y := L_31) rfl ?_
      have p34 : iR BT Tu_30 := hq32
      have n36 : (x2 + 1).toInt = x2.toInt + 1 := i_addK rfl (by decide) (by clear hx3 hN21 hN29 hN n29 kc28; omega) (by clear hx3 hN21 hN29 hN n29 kc28; omega)
      refine D_lt (fun y35 ey35 => ?_)
      have hy35 : y35.toInt = (x2 + 1 : Int32).toInt := by rw [ey35]
      exact hk21 y35 L_31 Tu_30 p34 ⟨(by clear hx3 hN21 hN29 hN n29 kc28; omega), (by clear hx3 hN21 hN29 hN n29 kc28; omega)⟩ (by clear hx3 hN29 hN n29 kc28; omega)
    · have kc28 := tq_len (x := (P 0 0)) (y := x3) rfl rfl c28
      refine D_ck (decide_eq_true hq2) ?_
      refine D_bd (t_X6_isRack P x3 hP ⟨(by clear hx2 hN21 hN29 hN; omega), (by clear hx2 hN21 hN29 hN; omega)⟩) (fun r37 eq39 hq38 => ?_)
      have p40 : 0 ≤ r37.toInt ∧ r37.toInt ≤ 1 := hq38
      refine D_ite (fun c41 => ?_) (fun c41 => ?_)
      · have kc41 := tq_eq (x := r37) (y := (0 : Int32)) rfl (b := 0) (by decide) c41
        have n43 : (x3 + 1).toInt = x3.toInt + 1 := i_addK rfl (by decide) (by clear hx2 hN21 hN29 hN p40 kc41; omega) (by clear hx2 hN21 hN29 hN p40 kc41; omega)
        refine D_lt (fun y42 ey42 => ?_)
        have hy42 : y42.toInt = (x3 + 1 : Int32).toInt := by rw [ey42]
        exact hk29 y42 Tu hTu ⟨(by clear hx2 hN21 hN29 hN p40 kc41; omega), (by clear hx2 hN21 hN29 hN p40 kc41; omega)⟩ (by clear hx2 hN21 p40 kc41; omega)
      · have kc410 := tq_eqn (x := r37) (y := (0 : Int32)) rfl (b := 0) (by decide) c41
        have kc41 : 1 ≤ r37.toInt := (by clear hx2 hx3 hN21 hN29 hN n29 kc28; omega)
        clear kc410
        refine D_bd2 (t_X6_turnOver Tu P x3 hTu hP ⟨(by clear hx2 hN21 hN29 hN p40 kc41; omega), (by clear hx2 hN21 hN29 hN p40 kc41; omega)⟩) (fun r44 Tu_45 eq47 hq46 => ?_)
        refine D_lte (y := r44) rfl ?_
        refine D_lte (y := Tu_45) rfl ?_
        obtain ⟨p48, p49⟩ : (iR BT Tu_45) ∧ (Tu_45 0 0 = (Tu 0 0)) := hq46
        have n50 := i_rng r44
        have n52 : (x3 + 1).toInt = x3.toInt + 1 := i_addK rfl (by decide) (by clear hx2 hN21 hN29 hN p40 kc41 n50; omega) (by clear hx2 hN21 hN29 hN p40 kc41 n50; omega)
        refine D_lt (fun y51 ey51 => ?_)
        have hy51 : y51.toInt = (x3 + 1 : Int32).toInt := by rw [ey51]
        exact hk29 y51 Tu_45 p48 ⟨(by clear hx2 hN21 hN29 hN p40 kc41 n50; omega), (by clear hx2 hN21 hN29 hN p40 kc41 n50; omega)⟩ (by clear hx2 hN21 p40 kc41 n50; omega)
set_option maxHeartbeats 1000000 in
set_option maxRecDepth 100000 in
theorem tl_X7_asking_L21 (pa : Nat → Nat) (qa : Nat → Nat) (P : Tr) (Tn : Tr) (q0 : Nat) (q2 : Nat) (q4 : Nat) (x1 : Int32) (hP : iR BP P) (hTn : iR BT Tn) (hq0 : q0 = pa 0) (hq2 : q2 = pa 0) (hq4 : q4 = pa 0)   (N : Nat) : ∀ (x2 : Int32) (L : Lo) (Tu : Tr), iR BT Tu → 0 ≤ x2.toInt ∧ x2.toInt ≤ 1000 → 1000 - x2.toInt < (N : Int) → D (lpF (fun _ _ _ => none) (fB_X7_asking_L21 pa qa P Tn q0 q2 q4 x1) N x2 L Tu) (fun (q : Int32 × Lo × Tr × Nat) => (iR BT (q.2.2.1))) := by
  induction N with
  | zero =>
    intro x2 L Tu hTu hx2 hN
    exfalso
    omega
  | succ N21 ih =>
    intro x2 L Tu hTu hx2 hN
    have hk21 : ∀ (x2 : Int32) (L : Lo) (Tu : Tr), iR BT Tu → 0 ≤ x2.toInt ∧ x2.toInt ≤ 1000 → 1000 - x2.toInt < (N21 : Int) → D (lpF (fun _ _ _ => none) (fB_X7_asking_L21 pa qa P Tn q0 q2 q4 x1) N21 x2 L Tu) (fun (q : Int32 × Lo × Tr × Nat) => (iR BT (q.2.2.1))) := ih
    show D (fB_X7_asking_L21 pa qa P Tn q0 q2 q4 x1 (lpF (fun _ _ _ => none) (fB_X7_asking_L21 pa qa P Tn q0 q2 q4 x1) N21) x2 L Tu) _
    generalize lpF (fun _ _ _ => none) (fB_X7_asking_L21 pa qa P Tn q0 q2 q4 x1) N21 = k21 at hk21 ⊢
    have hN21 : 1000 - x2.toInt < (N21 : Int) + 1 := by omega
    clear ih
    unfold fB_X7_asking_L21
    refine D_ite (fun c24 => ?_) (fun c24 => ?_)
    · have kc24 := tq_lt (x := (20 : Int32)) (y := x2) (a := 20) (by decide) rfl c24
      unfold fJ_X7_asking_J79
      refine D_lt (fun y25 ey25 => ?_)
      have n26 := i_rng (x1 - ((Tu 0 1) - (Tn 0 1)))
      have hy25 : y25.toInt = (x1 - ((Tu 0 1) - (Tn 0 1))).toInt := by rw [ey25]
      refine D_ite (fun c27 => ?_) (fun c27 => ?_)
      · have kc27 := tq_le (x := (0 : Int32)) (y := y25) (a := 0) (by decide) rfl c27
        exact D_some (show (iR BT Tu) from hTu)
      · have kc27 := tq_len (x := (0 : Int32)) (y := y25) (a := 0) (by decide) rfl c27
        have l0 : (0 : Int32).toInt = 0 := by decide
        exact D_some (show (iR BT Tu) from hTu)
    · have kc24 := tq_ltn (x := (20 : Int32)) (y := x2) (a := 20) (by decide) rfl c24
      have l0 : (0 : Int32).toInt = 0 := by decide
      have n53 := i_rng x1
      exact tl_X7_asking_L29 pa qa P L Tn q0 q2 q4 x1 x2 N21 hP hTn hq0 hq2 hq4 ⟨(by clear hN21 hN n53; omega), (by clear hN21 hN n53; omega)⟩ hN21 k21 hk21 2000 (0 : Int32) Tu hTu ⟨(by clear hx2 hN21 hN kc24 n53; omega), (by clear hx2 hN21 hN kc24 n53; omega)⟩ (by clear hx2 hN21 hN kc24 n53; omega)
set_option maxHeartbeats 1000000 in
set_option maxRecDepth 100000 in
theorem t_X7_asking (pa : Nat → Nat) (qa : Nat → Nat) (P : Tr) (L : Lo) (Tn : Tr) (Tu : Tr) (q0 : Nat) (q2 : Nat) (q4 : Nat) (hP : iR BP P) (hTn : iR BT Tn) (hTu : iR BT Tu) (hq0 : q0 = pa 0) (hq4 : q4 = pa 0) : D (f_X7_asking pa qa P L Tn Tu q0 q2 q4) (fun (q : Int32 × Lo × Tr × Nat) => (iR BT (q.2.2.1))) := by
  unfold f_X7_asking
  refine D_bd2 (t_X7_startTrial pa qa Tn Tu q0 q2 hTn hTu) (fun Tu_1 q2_2 eq4 hq3 => ?_)
  refine D_lte (y := Tu_1) rfl ?_
  refine D_lte (y := q2_2) rfl ?_
  obtain ⟨p5, p6, p7⟩ : (iR BT Tu_1) ∧ (q2_2 = q0) ∧ (Tu_1 0 0 = Tn 0 0) := hq3
  refine D_bd3 (t_X7_liftsOfTrial pa qa P L Tn Tu_1 q2_2 hP hTn p5 (p6.trans hq0)) (fun r8 L_9 Tu_10 eq12 hq11 => ?_)
  refine D_lte (y := r8) rfl ?_
  refine D_lte (y := L_9) rfl ?_
  refine D_lte (y := Tu_10) rfl ?_
  have p13 : iR BT Tu_10 := hq11
  have n14 := i_rng r8
  refine D_bd2 (t_X7_startTrial pa qa Tn Tu_10 q0 q2_2 hTn p13) (fun Tu_15 q2_16 eq18 hq17 => ?_)
  refine D_lte (y := Tu_15) rfl ?_
  refine D_lte (y := q2_16) rfl ?_
  obtain ⟨p19, p20, p21⟩ : (iR BT Tu_15) ∧ (q2_16 = q0) ∧ (Tu_15 0 0 = Tn 0 0) := hq17
  refine D_lt (fun y22 ey22 => ?_)
  have n23 : 0 ≤ (Tn 0 0).toInt ∧ (Tn 0 0).toInt ≤ 21 := hTn 0 0
  have hy22 : y22.toInt = (Tn 0 0).toInt := by rw [ey22]
  exact tl_X7_asking_L21 pa qa P Tn q0 q2_16 q4 r8 hP hTn hq0 (p20.trans hq0) hq4   2000 y22 L_9 Tu_15 p19 ⟨(by omega), (by omega)⟩ (by omega)
set_option maxHeartbeats 1000000 in
set_option maxRecDepth 100000 in
theorem t_X7_back (pa : Nat → Nat) (qa : Nat → Nat) (X : Tr) (Tn : Tr) (Ti : Tr) (C : Tr) (q0 : Nat) (q1 : Nat) (hX : iR BX X) (hTn : iR BT Tn) (hTi : iR BT Ti) (hC : iR BC C) (hq0 : q0 = pa 0) (hq1 : ¬ X 0 4 = 0 → q1 = pa 0) : D (f_X7_back pa qa X Tn Ti C q0 q1) (fun (q : Int32 × Tr × Tr × Nat) => (iR BT (q.2.1)) ∧ (iR BC (q.2.2.1)) ∧ ((q.2.2.2) = pa 0)) := by
  unfold f_X7_back
  have n2 := i_rng (X 0 4)
  refine D_ite (fun c1 => ?_) (fun c1 => ?_)
  · have kc1 := tq_eq (x := (X 0 4)) (y := (0 : Int32)) rfl (b := 0) (by decide) c1
    have lm1 : ((-1) : Int32).toInt = (-1) := by decide
    exact D_some (show (iR BT Tn) ∧ (iR BC C) ∧ (q0 = pa 0) from ⟨hTn, hC, hq0⟩)
  · skip
    refine D_bd2 (t_X6_copy Tn Ti q0 q1 hTn hTi) (fun Tn_3 q0_4 eq6 hq5 => ?_)
    refine D_lte (y := Tn_3) rfl ?_
    refine D_lte (y := q0_4) rfl ?_
    obtain ⟨p7, p8, p9⟩ : (iR BT Tn_3) ∧ (q0_4 = q1) ∧ (Tn_3 0 0 = Ti 0 0) := hq5
    have l0 : (0 : Int32).toInt = 0 := by decide
    refine D_lt (fun C_10 eC_10 => ?_)
    have hC_10 : iR BC C_10 := by rw [eC_10]; exact iR_set hC (show (0 : Int) ≤ _ from (by omega)) (show _ ≤ (20 : Int) from (by omega))
    have n11 : (C_10 0 0).toInt = (0 : Int32).toInt := by rw [eC_10]; rfl
    have n12 : 0 ≤ (Tn_3 0 0).toInt ∧ (Tn_3 0 0).toInt ≤ 21 := p7 0 0
    exact D_some (show (iR BT Tn_3) ∧ (iR BC C_10) ∧ (q0_4 = pa 0) from ⟨p7, hC_10, (p8.trans (hq1 (by assumption)))⟩)
set_option maxHeartbeats 1000000 in
set_option maxRecDepth 100000 in
theorem tl_X7_bestRule_L8 (pa : Nat → Nat) (qa : Nat → Nat) (P : Tr) (Tn : Tr) (q0 : Nat) (hP : iR BP P) (hTn : iR BT Tn) (hq0 : q0 = pa 0)   (N : Nat) : ∀ (x1 : Int32) (x2 : Int32) (x3 : Int32) (L : Lo) (Tu : Tr) (q2 : Nat), iR BT Tu → 0 ≤ x3.toInt ∧ x3.toInt ≤ 1000 → 1000 - x3.toInt < (N : Int) → D (lpF (fun _ _ _ _ _ _ => none) (fB_X7_bestRule_L8 pa qa P Tn q0) N x1 x2 x3 L Tu q2) (fun (q : Int32 × Lo × Tr × Nat) => (iR BT (q.2.2.1))) := by
  induction N with
  | zero =>
    intro x1 x2 x3 L Tu q2 hTu hx3 hN
    exfalso
    omega
  | succ N8 ih =>
    intro x1 x2 x3 L Tu q2 hTu hx3 hN
    have hk8 : ∀ (x1 : Int32) (x2 : Int32) (x3 : Int32) (L : Lo) (Tu : Tr) (q2 : Nat), iR BT Tu → 0 ≤ x3.toInt ∧ x3.toInt ≤ 1000 → 1000 - x3.toInt < (N8 : Int) → D (lpF (fun _ _ _ _ _ _ => none) (fB_X7_bestRule_L8 pa qa P Tn q0) N8 x1 x2 x3 L Tu q2) (fun (q : Int32 × Lo × Tr × Nat) => (iR BT (q.2.2.1))) := ih
    show D (fB_X7_bestRule_L8 pa qa P Tn q0 (lpF (fun _ _ _ _ _ _ => none) (fB_X7_bestRule_L8 pa qa P Tn q0) N8) x1 x2 x3 L Tu q2) _
    generalize lpF (fun _ _ _ _ _ _ => none) (fB_X7_bestRule_L8 pa qa P Tn q0) N8 = k8 at hk8 ⊢
    have hN8 : 1000 - x3.toInt < (N8 : Int) + 1 := by omega
    clear ih
    unfold fB_X7_bestRule_L8
    refine D_ite (fun c1 => ?_) (fun c1 => ?_)
    · have kc1 := tq_le (x := (3 : Int32)) (y := x3) (a := 3) (by decide) rfl c1
      have n2 := i_rng x1
      exact D_some (show (iR BT Tu) from hTu)
    · have kc1 := tq_len (x := (3 : Int32)) (y := x3) (a := 3) (by decide) rfl c1
      refine D_bd2 (t_X7_startTrial pa qa Tn Tu q0 q2 hTn hTu) (fun Tu_3 q2_4 eq6 hq5 => ?_)
      refine D_lte (y := Tu_3) rfl ?_
      refine D_lte (y := q2_4) rfl ?_
      obtain ⟨p7, p8, p9⟩ : (iR BT Tu_3) ∧ (q2_4 = q0) ∧ (Tu_3 0 0 = Tn 0 0) := hq5
      refine D_lt (fun Tu_10 eTu_10 => ?_)
      have hTu_10 : iR BT Tu_10 := by rw [eTu_10]; exact iR_setU p7 rfl
      have n11 : (Tu_10 0 3).toInt = x3.toInt := by rw [eTu_10]; rfl
      refine D_bd3 (t_X7_liftsOfTrial pa qa P L Tn Tu_10 q2_4 hP hTn hTu_10 (p8.trans hq0)) (fun r12 L_13 Tu_14 eq16 hq15 => ?_)
      refine D_lte (y := r12) rfl ?_
      refine D_lte (y := L_13) rfl ?_
      refine D_lte (y := Tu_14) rfl ?_
      have p17 : iR BT Tu_14 := hq15
      have n18 := i_rng r12
      have n20 := i_rng x2
      refine D_ite (fun c19 => ?_) (fun c19 => ?_)
      · have kc19 := tq_le (x := x2) (y := r12) rfl rfl c19
        have n22 : (x3 + 1).toInt = x3.toInt + 1 := i_addK rfl (by decide) (by clear hN8 hN n18 n20 kc19; omega) (by clear hN8 hN n18 n20 kc19; omega)
        refine D_lt (fun y21 ey21 => ?_)
        have hy21 : y21.toInt = (x3 + 1 : Int32).toInt := by rw [ey21]
        have n23 := i_rng x1
        exact hk8 x1 x2 y21 L_13 Tu_14 q2_4 p17 ⟨(by clear hN8 hN n18 n20 kc19 n23; omega), (by clear hN8 hN n18 n20 kc19 n23; omega)⟩ (by clear n18 n20 kc19 n23; omega)
      · have kc19 := tq_len (x := x2) (y := r12) rfl rfl c19
        have n25 : (x3 + 1).toInt = x3.toInt + 1 := i_addK rfl (by decide) (by clear hN8 hN n18 n20 kc19; omega) (by clear hN8 hN n18 n20 kc19; omega)
        refine D_lt (fun y24 ey24 => ?_)
        have hy24 : y24.toInt = (x3 + 1 : Int32).toInt := by rw [ey24]
        exact hk8 x3 r12 y24 L_13 Tu_14 q2_4 p17 ⟨(by clear hN8 hN n18 n20 kc19; omega), (by clear hN8 hN n18 n20 kc19; omega)⟩ (by clear n18 n20 kc19; omega)
set_option maxHeartbeats 1000000 in
set_option maxRecDepth 100000 in
theorem t_X7_bestRule (pa : Nat → Nat) (qa : Nat → Nat) (P : Tr) (L : Lo) (Tn : Tr) (Tu : Tr) (q0 : Nat) (q2 : Nat) (hP : iR BP P) (hTn : iR BT Tn) (hTu : iR BT Tu) (hq0 : q0 = pa 0) : D (f_X7_bestRule pa qa P L Tn Tu q0 q2) (fun (q : Int32 × Lo × Tr × Nat) => (iR BT (q.2.2.1))) := by
  unfold f_X7_bestRule
  have l0 : (0 : Int32).toInt = 0 := by decide
  have l1000000 : (1000000 : Int32).toInt = 1000000 := by decide
  exact tl_X7_bestRule_L8 pa qa P Tn q0 hP hTn hq0   2000 (0 : Int32) (1000000 : Int32) (0 : Int32) L Tu q2 hTu ⟨(by omega), (by omega)⟩ (by omega)
set_option maxHeartbeats 1000000 in
set_option maxRecDepth 100000 in
theorem t_X7_byRule (pa : Nat → Nat) (qa : Nat → Nat) (P : Tr) (L : Lo) (Tn : Tr) (Tu : Tr) (q0 : Nat) (q2 : Nat) (x1 : Int32) (hP : iR BP P) (hTn : iR BT Tn) (hTu : iR BT Tu) (hq0 : q0 = pa 0) : D (f_X7_byRule pa qa P L Tn Tu q0 q2 x1) (fun (q : Int32 × Lo × Tr × Nat) => (iR BT (q.2.2.1))) := by
  unfold f_X7_byRule
  have n2 := i_rng x1
  refine D_ite (fun c1 => ?_) (fun c1 => ?_)
  · have kc1 := tq_lt (x := x1) (y := (0 : Int32)) rfl (b := 0) (by decide) c1
    have lm1 : ((-1) : Int32).toInt = (-1) := by decide
    exact D_some (show (iR BT Tu) from hTu)
  · have kc1 := tq_ltn (x := x1) (y := (0 : Int32)) rfl (b := 0) (by decide) c1
    refine D_ite (fun c3 => ?_) (fun c3 => ?_)
    · have kc3 := tq_lt (x := x1) (y := (3 : Int32)) rfl (b := 3) (by decide) c3
      refine D_bd2 (t_X7_startTrial pa qa Tn Tu q0 q2 hTn hTu) (fun Tu_4 q2_5 eq7 hq6 => ?_)
      refine D_lte (y := Tu_4) rfl ?_
      refine D_lte (y := q2_5) rfl ?_
      obtain ⟨p8, p9, p10⟩ : (iR BT Tu_4) ∧ (q2_5 = q0) ∧ (Tu_4 0 0 = Tn 0 0) := hq6
      refine D_lt (fun Tu_11 eTu_11 => ?_)
      have hTu_11 : iR BT Tu_11 := by rw [eTu_11]; exact iR_setU p8 rfl
      have n12 : (Tu_11 0 3).toInt = x1.toInt := by rw [eTu_11]; rfl
      refine D_bd3 (t_X7_liftsOfTrial pa qa P L Tn Tu_11 q2_5 hP hTn hTu_11 (p9.trans hq0)) (fun r13 L_14 Tu_15 eq17 hq16 => ?_)
      refine D_lte (y := r13) rfl ?_
      refine D_lte (y := L_14) rfl ?_
      refine D_lte (y := Tu_15) rfl ?_
      have p18 : iR BT Tu_15 := hq16
      have n19 := i_rng r13
      exact D_some (show (iR BT Tu_15) from p18)
    · have kc3 := tq_ltn (x := x1) (y := (3 : Int32)) rfl (b := 3) (by decide) c3
      have lm1 : ((-1) : Int32).toInt = (-1) := by decide
      exact D_some (show (iR BT Tu) from hTu)
set_option maxHeartbeats 1000000 in
set_option maxRecDepth 100000 in
theorem t_X7_isPiece (pa : Nat → Nat) (qa : Nat → Nat) (P : Tr) (q4 : Nat) (x1 : Int32) (hP : iR BP P) (hq4 : q4 = pa 0) : D (f_X7_isPiece pa qa P q4 x1) (fun (q : Int32) => (0 ≤ q.toInt ∧ q.toInt ≤ 1) ∧ (q.toInt = 1 → 0 ≤ x1.toInt ∧ x1.toInt ≤ 9)) := by
  unfold f_X7_isPiece
  have n2 := i_rng x1
  refine D_ite (fun c1 => ?_) (fun c1 => ?_)
  · have kc1 := tq_lt (x := x1) (y := (0 : Int32)) rfl (b := 0) (by decide) c1
    have l0 : (0 : Int32).toInt = 0 := by decide
    exact D_some (show (0 ≤ (0 : Int32).toInt ∧ (0 : Int32).toInt ≤ 1) ∧ ((0 : Int32).toInt = 1 → 0 ≤ x1.toInt ∧ x1.toInt ≤ 9) from ⟨⟨(by omega), (by omega)⟩, (by omega)⟩)
  · have kc1 := tq_ltn (x := x1) (y := (0 : Int32)) rfl (b := 0) (by decide) c1
    refine D_ck (decide_eq_true hq4) ?_
    have n4 : 0 ≤ (P 0 2).toInt ∧ (P 0 2).toInt ≤ 10 := hP 0 2
    refine D_ite (fun c3 => ?_) (fun c3 => ?_)
    · have kc3 := tq_le (x := (P 0 2)) (y := x1) rfl rfl c3
      have l0 : (0 : Int32).toInt = 0 := by decide
      exact D_some (show (0 ≤ (0 : Int32).toInt ∧ (0 : Int32).toInt ≤ 1) ∧ ((0 : Int32).toInt = 1 → 0 ≤ x1.toInt ∧ x1.toInt ≤ 9) from ⟨⟨(by clear n2 kc1 n4 kc3; omega), (by clear n2 kc1 n4 kc3; omega)⟩, (by omega)⟩)
    · have kc3 := tq_len (x := (P 0 2)) (y := x1) rfl rfl c3
      have l1 : (1 : Int32).toInt = 1 := by decide
      exact D_some (show (0 ≤ (1 : Int32).toInt ∧ (1 : Int32).toInt ≤ 1) ∧ ((1 : Int32).toInt = 1 → 0 ≤ x1.toInt ∧ x1.toInt ≤ 9) from ⟨⟨(by clear n2 kc1 n4 kc3; omega), (by clear n2 kc1 n4 kc3; omega)⟩, (by omega)⟩)
set_option maxHeartbeats 1000000 in
set_option maxRecDepth 100000 in
theorem t_X7_comesNow (pa : Nat → Nat) (qa : Nat → Nat) (P : Tr) (Tn : Tr) (q4 : Nat) (x1 : Int32) (hP : iR BP P) (hTn : iR BT Tn) (hq4 : q4 = pa 0) : D (f_X7_comesNow pa qa P Tn q4 x1) (fun (q : Int32) => (0 ≤ q.toInt ∧ q.toInt ≤ 1) ∧ (q.toInt = 1 → 0 ≤ x1.toInt ∧ x1.toInt ≤ 9 ∧ (Tn 0 0).toInt ≤ 20)) := by
  unfold f_X7_comesNow
  have n1 : 0 ≤ (Tn 0 0).toInt ∧ (Tn 0 0).toInt ≤ 21 := hTn 0 0
  have n2 := i_rng x1
  refine D_bd (t_X7_isPiece pa qa P q4 x1 hP hq4) (fun r3 eq5 hq4 => ?_)
  obtain ⟨p6, p7⟩ : (0 ≤ r3.toInt ∧ r3.toInt ≤ 1) ∧ (r3.toInt = 1 → 0 ≤ x1.toInt ∧ x1.toInt ≤ 9) := hq4
  refine D_ite (fun c8 => ?_) (fun c8 => ?_)
  · have kc8 := tq_eq (x := r3) (y := (0 : Int32)) rfl (b := 0) (by decide) c8
    have l0 : (0 : Int32).toInt = 0 := by decide
    exact D_some (show (0 ≤ (0 : Int32).toInt ∧ (0 : Int32).toInt ≤ 1) ∧ ((0 : Int32).toInt = 1 → 0 ≤ x1.toInt ∧ x1.toInt ≤ 9 ∧ (Tn 0 0).toInt ≤ 20) from ⟨⟨(by clear n1 n2 p6 p7 kc8; omega), (by clear n1 n2 p6 p7 kc8; omega)⟩, (by omega)⟩)
  · have kc80 := tq_eqn (x := r3) (y := (0 : Int32)) rfl (b := 0) (by decide) c8
    have kc8 : 1 ≤ r3.toInt := (by omega)
    clear kc80
    refine D_ite (fun c9 => ?_) (fun c9 => ?_)
    · have kc9 := tq_lt (x := (20 : Int32)) (y := (Tn 0 0)) (a := 20) (by decide) rfl c9
      have l0 : (0 : Int32).toInt = 0 := by decide
      exact D_some (show (0 ≤ (0 : Int32).toInt ∧ (0 : Int32).toInt ≤ 1) ∧ ((0 : Int32).toInt = 1 → 0 ≤ x1.toInt ∧ x1.toInt ≤ 9 ∧ (Tn 0 0).toInt ≤ 20) from ⟨⟨(by clear n1 n2 p6 p7 kc8 kc9; omega), (by clear n1 n2 p6 p7 kc8 kc9; omega)⟩, (by omega)⟩)
    · have kc9 := tq_ltn (x := (20 : Int32)) (y := (Tn 0 0)) (a := 20) (by decide) rfl c9
      refine D_ck (decide_eq_true hq4) ?_
      refine D_ck (okI_of (by omega) (by omega)) ?_
      have n10 : 0 ≤ (P 14 x1.toNatClampNeg).toInt ∧ (P 14 x1.toNatClampNeg).toInt ≤ 5 := hP 14 x1.toNatClampNeg
      refine D_ck (okI_of (by clear n1 n2 p6 p7 kc8 kc9; omega) (by clear n1 n2 p6 p7 kc8 kc9; omega)) ?_
      have n12 := i_rng (P 11 (P 14 x1.toNatClampNeg).toNatClampNeg)
      refine D_ite (fun c11 => ?_) (fun c11 => ?_)
      · have kc11 := tq_eq (x := (P 11 (P 14 x1.toNatClampNeg).toNatClampNeg)) (y := (Tn 0 0)) rfl rfl c11
        have l1 : (1 : Int32).toInt = 1 := by decide
        exact D_some (show (0 ≤ (1 : Int32).toInt ∧ (1 : Int32).toInt ≤ 1) ∧ ((1 : Int32).toInt = 1 → 0 ≤ x1.toInt ∧ x1.toInt ≤ 9 ∧ (Tn 0 0).toInt ≤ 20) from ⟨⟨(by clear n1 n2 p6 p7 kc8 kc9 n10 n12 kc11; omega), (by clear n1 n2 p6 p7 kc8 kc9 n10 n12 kc11; omega)⟩, (by omega)⟩)
      · skip
        have l0 : (0 : Int32).toInt = 0 := by decide
        exact D_some (show (0 ≤ (0 : Int32).toInt ∧ (0 : Int32).toInt ≤ 1) ∧ ((0 : Int32).toInt = 1 → 0 ≤ x1.toInt ∧ x1.toInt ≤ 9 ∧ (Tn 0 0).toInt ≤ 20) from ⟨⟨(by clear n1 n2 p6 p7 kc8 kc9 n10 n12; omega), (by clear n1 n2 p6 p7 kc8 kc9 n10 n12; omega)⟩, (by omega)⟩)
set_option maxHeartbeats 1000000 in
set_option maxRecDepth 100000 in
theorem t_X7_canChoose (pa : Nat → Nat) (qa : Nat → Nat) (P : Tr) (Tn : Tr) (q4 : Nat) (x1 : Int32) (x2 : Int32) (hP : iR BP P) (hTn : iR BT Tn) (hq4 : q4 = pa 0) : D (f_X7_canChoose pa qa P Tn q4 x1 x2) (fun (q : Int32) => (0 ≤ q.toInt ∧ q.toInt ≤ 1) ∧ (q.toInt = 1 → 0 ≤ x1.toInt ∧ x1.toInt ≤ 9 ∧ 0 ≤ x2.toInt ∧ x2.toInt ≤ 9)) := by
  unfold f_X7_canChoose
  have n1 := i_rng x1
  refine D_bd (t_X7_comesNow pa qa P Tn q4 x1 hP hTn hq4) (fun r2 eq4 hq3 => ?_)
  obtain ⟨p5, p6⟩ : (0 ≤ r2.toInt ∧ r2.toInt ≤ 1) ∧ (r2.toInt = 1 → 0 ≤ x1.toInt ∧ x1.toInt ≤ 9 ∧ (Tn 0 0).toInt ≤ 20) := hq3
  refine D_ite (fun c7 => ?_) (fun c7 => ?_)
  · have kc7 := tq_eq (x := r2) (y := (0 : Int32)) rfl (b := 0) (by decide) c7
    have l0 : (0 : Int32).toInt = 0 := by decide
    exact D_some (show (0 ≤ (0 : Int32).toInt ∧ (0 : Int32).toInt ≤ 1) ∧ ((0 : Int32).toInt = 1 → 0 ≤ x1.toInt ∧ x1.toInt ≤ 9 ∧ 0 ≤ x2.toInt ∧ x2.toInt ≤ 9) from ⟨⟨(by clear n1 p5 p6 kc7; omega), (by clear n1 p5 p6 kc7; omega)⟩, (by omega)⟩)
  · have kc70 := tq_eqn (x := r2) (y := (0 : Int32)) rfl (b := 0) (by decide) c7
    have kc7 : 1 ≤ r2.toInt := (by omega)
    clear kc70
    have n8 := i_rng x2
    refine D_bd (t_X7_comesNow pa qa P Tn q4 x2 hP hTn hq4) (fun r9 eq11 hq10 => ?_)
    obtain ⟨p12, p13⟩ : (0 ≤ r9.toInt ∧ r9.toInt ≤ 1) ∧ (r9.toInt = 1 → 0 ≤ x2.toInt ∧ x2.toInt ≤ 9 ∧ (Tn 0 0).toInt ≤ 20) := hq10
    refine D_ite (fun c14 => ?_) (fun c14 => ?_)
    · have kc14 := tq_eq (x := r9) (y := (0 : Int32)) rfl (b := 0) (by decide) c14
      have l0 : (0 : Int32).toInt = 0 := by decide
      exact D_some (show (0 ≤ (0 : Int32).toInt ∧ (0 : Int32).toInt ≤ 1) ∧ ((0 : Int32).toInt = 1 → 0 ≤ x1.toInt ∧ x1.toInt ≤ 9 ∧ 0 ≤ x2.toInt ∧ x2.toInt ≤ 9) from ⟨⟨(by clear n1 p5 p6 kc7 n8 p12 p13 kc14; omega), (by clear n1 p5 p6 kc7 n8 p12 p13 kc14; omega)⟩, (by omega)⟩)
    · have kc140 := tq_eqn (x := r9) (y := (0 : Int32)) rfl (b := 0) (by decide) c14
      have kc14 : 1 ≤ r9.toInt := (by omega)
      clear kc140
      refine D_ck (decide_eq_true hq4) ?_
      refine D_ck (okI_of (by omega) (by omega)) ?_
      refine D_ck (okI_of (by omega) (by omega)) ?_
      have n16 : 0 ≤ (P 14 x1.toNatClampNeg).toInt ∧ (P 14 x1.toNatClampNeg).toInt ≤ 5 := hP 14 x1.toNatClampNeg
      have n17 : 0 ≤ (P 14 x2.toNatClampNeg).toInt ∧ (P 14 x2.toNatClampNeg).toInt ≤ 5 := hP 14 x2.toNatClampNeg
      refine D_ite (fun c15 => ?_) (fun c15 => ?_)
      · have kc15 := tq_eq (x := (P 14 x1.toNatClampNeg)) (y := (P 14 x2.toNatClampNeg)) rfl rfl c15
        have l0 : (0 : Int32).toInt = 0 := by decide
        exact D_some (show (0 ≤ (0 : Int32).toInt ∧ (0 : Int32).toInt ≤ 1) ∧ ((0 : Int32).toInt = 1 → 0 ≤ x1.toInt ∧ x1.toInt ≤ 9 ∧ 0 ≤ x2.toInt ∧ x2.toInt ≤ 9) from ⟨⟨(by clear n1 p5 p6 kc7 n8 p12 p13 kc14 n16 n17 kc15; omega), (by clear n1 p5 p6 kc7 n8 p12 p13 kc14 n16 n17 kc15; omega)⟩, (by clear n16 n17 kc15; omega)⟩)
      · skip
        have n19 : 0 ≤ (P 0 0).toInt ∧ (P 0 0).toInt ≤ 5 := hP 0 0
        refine D_ite (fun c18 => ?_) (fun c18 => ?_)
        · have kc18 := tq_le (x := (P 0 0)) (y := (0 : Int32)) rfl (b := 0) (by decide) c18
          have l0 : (0 : Int32).toInt = 0 := by decide
          exact D_some (show (0 ≤ (0 : Int32).toInt ∧ (0 : Int32).toInt ≤ 1) ∧ ((0 : Int32).toInt = 1 → 0 ≤ x1.toInt ∧ x1.toInt ≤ 9 ∧ 0 ≤ x2.toInt ∧ x2.toInt ≤ 9) from ⟨⟨(by clear n1 p5 p6 kc7 n8 p12 p13 kc14 n16 n17 n19 kc18; omega), (by clear n1 p5 p6 kc7 n8 p12 p13 kc14 n16 n17 n19 kc18; omega)⟩, (by clear n16 n17 n19 kc18; omega)⟩)
        · have kc18 := tq_len (x := (P 0 0)) (y := (0 : Int32)) rfl (b := 0) (by decide) c18
          have l1 : (1 : Int32).toInt = 1 := by decide
          exact D_some (show (0 ≤ (1 : Int32).toInt ∧ (1 : Int32).toInt ≤ 1) ∧ ((1 : Int32).toInt = 1 → 0 ≤ x1.toInt ∧ x1.toInt ≤ 9 ∧ 0 ≤ x2.toInt ∧ x2.toInt ≤ 9) from ⟨⟨(by clear n1 p5 p6 kc7 n8 p12 p13 kc14 n16 n17 n19 kc18; omega), (by clear n1 p5 p6 kc7 n8 p12 p13 kc14 n16 n17 n19 kc18; omega)⟩, (by clear n16 n17 n19 kc18; omega)⟩)
set_option maxHeartbeats 1000000 in
set_option maxRecDepth 100000 in
theorem tl_X7_chance_L22 (pa : Nat → Nat) (qa : Nat → Nat) (P : Tr) (Tn : Tr) (q0 : Nat) (q4 : Nat) (x2 : Int32) (hP : iR BP P) (hTn : iR BT Tn) (hq0 : q0 = pa 0) (hq4 : q4 = pa 0) (hx2 : 0 ≤ x2.toInt ∧ x2.toInt ≤ 9)   (N : Nat) : ∀ (x3 : Int32) (x4 : Int32) (x5 : Int32) (L : Lo) (Tu : Tr) (q2 : Nat), iR BT Tu → 0 ≤ x5.toInt ∧ x5.toInt ≤ 1000 → 1000 - x5.toInt < (N : Int) → D (lpF (fun _ _ _ _ _ _ => none) (fB_X7_chance_L22 pa qa P Tn q0 q4 x2) N x3 x4 x5 L Tu q2) (fun (q : Int32 × Lo × Tr × Nat) => (iR BT (q.2.2.1))) := by
  induction N with
  | zero =>
    intro x3 x4 x5 L Tu q2 hTu hx5 hN
    exfalso
    omega
  | succ N22 ih =>
    intro x3 x4 x5 L Tu q2 hTu hx5 hN
    have hk22 : ∀ (x3 : Int32) (x4 : Int32) (x5 : Int32) (L : Lo) (Tu : Tr) (q2 : Nat), iR BT Tu → 0 ≤ x5.toInt ∧ x5.toInt ≤ 1000 → 1000 - x5.toInt < (N22 : Int) → D (lpF (fun _ _ _ _ _ _ => none) (fB_X7_chance_L22 pa qa P Tn q0 q4 x2) N22 x3 x4 x5 L Tu q2) (fun (q : Int32 × Lo × Tr × Nat) => (iR BT (q.2.2.1))) := ih
    show D (fB_X7_chance_L22 pa qa P Tn q0 q4 x2 (lpF (fun _ _ _ _ _ _ => none) (fB_X7_chance_L22 pa qa P Tn q0 q4 x2) N22) x3 x4 x5 L Tu q2) _
    generalize lpF (fun _ _ _ _ _ _ => none) (fB_X7_chance_L22 pa qa P Tn q0 q4 x2) N22 = k22 at hk22 ⊢
    have hN22 : 1000 - x5.toInt < (N22 : Int) + 1 := by omega
    clear ih
    unfold fB_X7_chance_L22
    refine D_ite (fun c10 => ?_) (fun c10 => ?_)
    · have kc10 := tq_le (x := (10 : Int32)) (y := x5) (a := 10) (by decide) rfl c10
      have n11 := i_rng x3
      exact D_some (show (iR BT Tu) from hTu)
    · have kc10 := tq_len (x := (10 : Int32)) (y := x5) (a := 10) (by decide) rfl c10
      refine D_bd2 (t_X7_startTrial pa qa Tn Tu q0 q2 hTn hTu) (fun Tu_12 q2_13 eq15 hq14 => ?_)
      refine D_lte (y := Tu_12) rfl ?_
      refine D_lte (y := q2_13) rfl ?_
      obtain ⟨p16, p17, p18⟩ : (iR BT Tu_12) ∧ (q2_13 = q0) ∧ (Tu_12 0 0 = Tn 0 0) := hq14
      refine D_lt (fun Tu_19 eTu_19 => ?_)
      have hTu_19 : iR BT Tu_19 := by rw [eTu_19]; exact iR_setU p16 rfl
      have l1 : (1 : Int32).toInt = 1 := by decide
      have n20 : (Tu_19 0 5).toInt = (1 : Int32).toInt := by rw [eTu_19]; rfl
      refine D_lt (fun Tu_21 eTu_21 => ?_)
      have hTu_21 : iR BT Tu_21 := by rw [eTu_21]; exact iR_setU hTu_19 rfl
      have n22 : (Tu_21 0 5).toInt = (Tu_19 0 5).toInt := by rw [eTu_21]; rfl
      have n23 := i_rng x4
      have n24 : (Tu_21 0 2).toInt = x4.toInt := by rw [eTu_21]; rfl
      refine D_ck (decide_eq_true (p17.trans hq0)) ?_
      refine D_bd2 (t_X6_runToEnd Tu_21 P L hTu_21 hP) (fun Tu_25 L_26 eq28 hq27 => ?_)
      refine D_lte (y := Tu_25) rfl ?_
      refine D_lte (y := L_26) rfl ?_
      have p29 : iR BT Tu_25 := hq27
      refine D_lt (fun y30 ey30 => ?_)
      have n31 := i_rng (Tu_25 0 2)
      have hy30 : y30.toInt = (Tu_25 0 2).toInt := by rw [ey30]
      refine D_ck (okI_of (by clear hx5 hN22 hN kc10 n20 n22 n23 n24 n31 hy30; omega) (by clear hx5 hN22 hN kc10 n20 n22 n23 n24 n31 hy30; omega)) ?_
      have n33 := i_rng (Tu_25 14 x2.toNatClampNeg)
      refine D_ite (fun c32 => ?_) (fun c32 => ?_)
      · have kc32 := tq_eq (x := (Tu_25 14 x2.toNatClampNeg)) (y := (2 : Int32)) rfl (b := 2) (by decide) c32
        have n35 := i_rng (x3 + 1)
        refine D_lt (fun y34 ey34 => ?_)
        have hy34 : y34.toInt = (x3 + 1 : Int32).toInt := by rw [ey34]
        have n37 : (x5 + 1).toInt = x5.toInt + 1 := i_addK rfl (by decide) (by clear hx2 hN22 hN n20 n22 n23 n24 n31 hy30 n33 kc32 n35 hy34; omega) (by clear hx2 hN22 hN n20 n22 n23 n24 n31 hy30 n33 kc32 n35 hy34; omega)
        refine D_lt (fun y36 ey36 => ?_)
        have hy36 : y36.toInt = (x5 + 1 : Int32).toInt := by rw [ey36]
        exact hk22 y34 y30 y36 L_26 Tu_25 (pa 0) p29 ⟨(by clear hx2 hN22 hN n20 n22 n23 n24 n31 hy30 n33 kc32 n35 hy34; omega), (by clear hx2 hN22 hN n20 n22 n23 n24 n31 hy30 n33 kc32 n35 hy34; omega)⟩ (by clear hx2 n20 n22 n23 n24 n31 hy30 n33 kc32 n35 hy34; omega)
      · skip
        have n39 : (x5 + 1).toInt = x5.toInt + 1 := i_addK rfl (by decide) (by clear hx2 hN22 hN n20 n22 n23 n24 n31 hy30 n33; omega) (by clear hx2 hN22 hN n20 n22 n23 n24 n31 hy30 n33; omega)
        refine D_lt (fun y38 ey38 => ?_)
        have hy38 : y38.toInt = (x5 + 1 : Int32).toInt := by rw [ey38]
        have n40 := i_rng x3
        exact hk22 x3 y30 y38 L_26 Tu_25 (pa 0) p29 ⟨(by clear hx2 hN22 hN n20 n22 n23 n24 n31 hy30 n33 n40; omega), (by clear hx2 hN22 hN n20 n22 n23 n24 n31 hy30 n33 n40; omega)⟩ (by clear hx2 n20 n22 n23 n24 n31 hy30 n33 n40; omega)
set_option maxHeartbeats 1000000 in
set_option maxRecDepth 100000 in
theorem t_X7_chance (pa : Nat → Nat) (qa : Nat → Nat) (P : Tr) (L : Lo) (Tn : Tr) (Tu : Tr) (q0 : Nat) (q2 : Nat) (q4 : Nat) (x1 : Int32) (x2 : Int32) (hP : iR BP P) (hTn : iR BT Tn) (hTu : iR BT Tu) (hq0 : q0 = pa 0) (hq4 : q4 = pa 0) : D (f_X7_chance pa qa P L Tn Tu q0 q2 q4 x1 x2) (fun (q : Int32 × Lo × Tr × Nat) => (iR BT (q.2.2.1))) := by
  unfold f_X7_chance
  have n2 := i_rng x1
  refine D_ite (fun c1 => ?_) (fun c1 => ?_)
  · have kc1 := tq_lt (x := x1) (y := (0 : Int32)) rfl (b := 0) (by decide) c1
    have lm1 : ((-1) : Int32).toInt = (-1) := by decide
    exact D_some (show (iR BT Tu) from hTu)
  · have kc1 := tq_ltn (x := x1) (y := (0 : Int32)) rfl (b := 0) (by decide) c1
    have n3 := i_rng x2
    refine D_bd (t_X7_isPiece pa qa P q4 x2 hP hq4) (fun r4 eq6 hq5 => ?_)
    obtain ⟨p7, p8⟩ : (0 ≤ r4.toInt ∧ r4.toInt ≤ 1) ∧ (r4.toInt = 1 → 0 ≤ x2.toInt ∧ x2.toInt ≤ 9) := hq5
    refine D_ite (fun c9 => ?_) (fun c9 => ?_)
    · have kc9 := tq_eq (x := r4) (y := (0 : Int32)) rfl (b := 0) (by decide) c9
      have lm1 : ((-1) : Int32).toInt = (-1) := by decide
      exact D_some (show (iR BT Tu) from hTu)
    · have kc90 := tq_eqn (x := r4) (y := (0 : Int32)) rfl (b := 0) (by decide) c9
      have kc9 : 1 ≤ r4.toInt := (by omega)
      clear kc90
      have l0 : (0 : Int32).toInt = 0 := by decide
      exact tl_X7_chance_L22 pa qa P Tn q0 q4 x2 hP hTn hq0 hq4 ⟨(by omega), (by omega)⟩   2000 (0 : Int32) x1 (0 : Int32) L Tu q2 hTu ⟨(by clear n2 kc1 n3 p7 p8 kc9; omega), (by clear n2 kc1 n3 p7 p8 kc9; omega)⟩ (by clear n2 kc1 n3 p7 p8 kc9; omega)
set_option maxHeartbeats 1000000 in
set_option maxRecDepth 100000 in
theorem tl_X7_comingLeft_L2 (pa : Nat → Nat) (qa : Nat → Nat) (X : Tr) (Tu : Tr) (x1 : Int32) (hX : iR BX X) (hTu : iR BT Tu) (hx1 : 0 ≤ x1.toInt ∧ x1.toInt ≤ 4)   (N : Nat) : ∀ (x2 : Int32), 0 ≤ x2.toInt ∧ x2.toInt ≤ 1000 → 1000 - x2.toInt < (N : Int) → D (lpF (fun _ => none) (fB_X7_comingLeft_L2 pa qa X Tu x1) N x2) (fun (q : Int32) => (0 ≤ q.toInt ∧ q.toInt ≤ 1)) := by
  induction N with
  | zero =>
    intro x2 hx2 hN
    exfalso
    omega
  | succ N2 ih =>
    intro x2 hx2 hN
    have hk2 : ∀ (x2 : Int32), 0 ≤ x2.toInt ∧ x2.toInt ≤ 1000 → 1000 - x2.toInt < (N2 : Int) → D (lpF (fun _ => none) (fB_X7_comingLeft_L2 pa qa X Tu x1) N2 x2) (fun (q : Int32) => (0 ≤ q.toInt ∧ q.toInt ≤ 1)) := ih
    show D (fB_X7_comingLeft_L2 pa qa X Tu x1 (lpF (fun _ => none) (fB_X7_comingLeft_L2 pa qa X Tu x1) N2) x2) _
    generalize lpF (fun _ => none) (fB_X7_comingLeft_L2 pa qa X Tu x1) N2 = k2 at hk2 ⊢
    have hN2 : 1000 - x2.toInt < (N2 : Int) + 1 := by omega
    clear ih
    unfold fB_X7_comingLeft_L2
    refine D_ite (fun c1 => ?_) (fun c1 => ?_)
    · have kc1 := tq_le (x := x1) (y := x2) rfl rfl c1
      have l0 : (0 : Int32).toInt = 0 := by decide
      exact D_some (show (0 ≤ (0 : Int32).toInt ∧ (0 : Int32).toInt ≤ 1) from ⟨(by clear hx1 hx2 hN2 hN kc1; omega), (by clear hx1 hx2 hN2 hN kc1; omega)⟩)
    · have kc1 := tq_len (x := x1) (y := x2) rfl rfl c1
      refine D_ck (okI_of (by omega) (by omega)) ?_
      have n2 : 0 ≤ (X 10 x2.toNatClampNeg).toInt ∧ (X 10 x2.toNatClampNeg).toInt ≤ 9 := hX 10 x2.toNatClampNeg
      refine D_ck (okI_of (by clear hx1 hx2 hN2 hN kc1; omega) (by clear hx1 hx2 hN2 hN kc1; omega)) ?_
      have n4 := i_rng (Tu 14 (X 10 x2.toNatClampNeg).toNatClampNeg)
      refine D_ite (fun c3 => ?_) (fun c3 => ?_)
      · have kc3 := tq_eq (x := (Tu 14 (X 10 x2.toNatClampNeg).toNatClampNeg)) (y := (5 : Int32)) rfl (b := 5) (by decide) c3
        have l1 : (1 : Int32).toInt = 1 := by decide
        exact D_some (show (0 ≤ (1 : Int32).toInt ∧ (1 : Int32).toInt ≤ 1) from ⟨(by clear hx1 hx2 hN2 hN kc1 n2 n4 kc3; omega), (by clear hx1 hx2 hN2 hN kc1 n2 n4 kc3; omega)⟩)
      · skip
        have n6 : (x2 + 1).toInt = x2.toInt + 1 := i_addK rfl (by decide) (by clear hN2 hN n2 n4; omega) (by clear hN2 hN n2 n4; omega)
        refine D_lt (fun y5 ey5 => ?_)
        have hy5 : y5.toInt = (x2 + 1 : Int32).toInt := by rw [ey5]
        exact hk2 y5 ⟨(by clear hN2 hN n2 n4; omega), (by clear hN2 hN n2 n4; omega)⟩ (by omega)
set_option maxHeartbeats 1000000 in
set_option maxRecDepth 100000 in
theorem t_X7_comingLeft (pa : Nat → Nat) (qa : Nat → Nat) (X : Tr) (Tu : Tr) (x1 : Int32) (hX : iR BX X) (hTu : iR BT Tu) (hx1 : 0 ≤ x1.toInt ∧ x1.toInt ≤ 4) : D (f_X7_comingLeft pa qa X Tu x1) (fun (q : Int32) => (0 ≤ q.toInt ∧ q.toInt ≤ 1)) := by
  unfold f_X7_comingLeft
  have l0 : (0 : Int32).toInt = 0 := by decide
  exact tl_X7_comingLeft_L2 pa qa X Tu x1 hX hTu ⟨(by omega), (by omega)⟩   2000 (0 : Int32) ⟨(by omega), (by omega)⟩ (by omega)
set_option maxHeartbeats 1000000 in
set_option maxRecDepth 100000 in
theorem t_X7_costOf (pa : Nat → Nat) (qa : Nat → Nat) (P : Tr) (Tu : Tr) (q4 : Nat) (x1 : Int32) (hP : iR BP P) (hTu : iR BT Tu) (hx1 : 0 ≤ x1.toInt ∧ x1.toInt ≤ 9) (hq4 : q4 = pa 0) : D (f_X7_costOf pa qa P Tu q4 x1) (fun (q : Int32) => True) := by
  unfold f_X7_costOf
  refine D_ck (decide_eq_true hq4) ?_
  refine D_ck (okI_of (by omega) (by omega)) ?_
  have n1 : 0 ≤ (P 14 x1.toNatClampNeg).toInt ∧ (P 14 x1.toNatClampNeg).toInt ≤ 5 := hP 14 x1.toNatClampNeg
  refine D_ck (okI_of (by omega) (by omega)) ?_
  have n3 := i_rng (Tu 14 x1.toNatClampNeg)
  refine D_ite (fun c2 => ?_) (fun c2 => ?_)
  · have kc2 := tq_eq (x := (Tu 14 x1.toNatClampNeg)) (y := (5 : Int32)) rfl (b := 5) (by decide) c2
    have n4 := i_rng ((Tu 12 (P 14 x1.toNatClampNeg).toNatClampNeg) + 999)
    exact D_some trivial
  · skip
    have n5 := i_rng (Tu 12 (P 14 x1.toNatClampNeg).toNatClampNeg)
    have n6 : ((Tu 12 (P 14 x1.toNatClampNeg).toNatClampNeg) + 0).toInt = (Tu 12 (P 14 x1.toNatClampNeg).toNatClampNeg).toInt + 0 := i_addK rfl (by decide) (by clear hx1 n1 n3; omega) (by clear hx1 n1 n3; omega)
    exact D_some trivial
set_option maxHeartbeats 1000000 in
set_option maxRecDepth 100000 in
theorem t_X4_regarded_x (pa : Nat → Nat) (qa : Nat → Nat) (Z : Tr) (hZ : iR BZ Z) : D (f_X4_regarded_x pa qa Z) (fun (q : Int32) => (0 ≤ q.toInt ∧ q.toInt ≤ 24)) := by
  unfold f_X4_regarded_x
  have n2 : (-1) ≤ (Z 0 1).toInt ∧ (Z 0 1).toInt ≤ 24 := hZ 0 1
  refine D_ite (fun c1 => ?_) (fun c1 => ?_)
  · have kc1 := tq_le (x := (0 : Int32)) (y := (Z 0 1)) (a := 0) (by decide) rfl c1
    exact D_some (show (0 ≤ (Z 0 1).toInt ∧ (Z 0 1).toInt ≤ 24) from ⟨(by omega), (by omega)⟩)
  · have kc1 := tq_len (x := (0 : Int32)) (y := (Z 0 1)) (a := 0) (by decide) rfl c1
    have n3 : 0 ≤ (Z 0 0).toInt ∧ (Z 0 0).toInt ≤ 24 := hZ 0 0
    exact D_some (show (0 ≤ (Z 0 0).toInt ∧ (Z 0 0).toInt ≤ 24) from ⟨(by omega), (by omega)⟩)
set_option maxHeartbeats 1000000 in
set_option maxRecDepth 100000 in
theorem t_X7_count (pa : Nat → Nat) (qa : Nat → Nat) (P : Tr) (Tn : Tr) (C : Tr) (Z : Tr) (q0 : Nat) (q4 : Nat) (x1 : Int32) (hP : iR BP P) (hTn : iR BT Tn) (hC : iR BC C) (hZ : iR BZ Z) (hq0 : q0 = pa 0) (hq4 : q4 = pa 0) : D (f_X7_count pa qa P Tn C Z q0 q4 x1) (fun (q : Int32) => True) := by
  unfold f_X7_count
  have n1 := i_rng x1
  refine D_ite (fun c2 => ?_) (fun c2 => ?_)
  · have kc2 := tq_eq (x := x1) (y := (0 : Int32)) rfl (b := 0) (by decide) c2
    refine D_ck (decide_eq_true hq4) ?_
    have n3 : 0 ≤ (P 0 0).toInt ∧ (P 0 0).toInt ≤ 5 := hP 0 0
    exact D_some trivial
  · skip
    refine D_ite (fun c4 => ?_) (fun c4 => ?_)
    · have kc4 := tq_eq (x := x1) (y := (1 : Int32)) rfl (b := 1) (by decide) c4
      refine D_ck (decide_eq_true hq4) ?_
      have n5 : 0 ≤ (P 0 1).toInt ∧ (P 0 1).toInt ≤ 6 := hP 0 1
      exact D_some trivial
    · skip
      refine D_ite (fun c6 => ?_) (fun c6 => ?_)
      · have kc6 := tq_eq (x := x1) (y := (2 : Int32)) rfl (b := 2) (by decide) c6
        refine D_ck (decide_eq_true hq4) ?_
        have n7 : 0 ≤ (P 0 2).toInt ∧ (P 0 2).toInt ≤ 10 := hP 0 2
        exact D_some trivial
      · skip
        refine D_ite (fun c8 => ?_) (fun c8 => ?_)
        · have kc8 := tq_eq (x := x1) (y := (3 : Int32)) rfl (b := 3) (by decide) c8
          refine D_ck (decide_eq_true hq4) ?_
          have n9 : 0 ≤ (P 0 3).toInt ∧ (P 0 3).toInt ≤ 64 := hP 0 3
          exact D_some trivial
        · skip
          refine D_ite (fun c10 => ?_) (fun c10 => ?_)
          · have kc10 := tq_eq (x := x1) (y := (4 : Int32)) rfl (b := 4) (by decide) c10
            have n11 : 0 ≤ (Tn 0 0).toInt ∧ (Tn 0 0).toInt ≤ 21 := hTn 0 0
            exact D_some trivial
          · skip
            refine D_ite (fun c12 => ?_) (fun c12 => ?_)
            · have kc12 := tq_eq (x := x1) (y := (5 : Int32)) rfl (b := 5) (by decide) c12
              have n13 := i_rng (Tn 0 1)
              exact D_some trivial
            · skip
              refine D_ite (fun c14 => ?_) (fun c14 => ?_)
              · have kc14 := tq_eq (x := x1) (y := (6 : Int32)) rfl (b := 6) (by decide) c14
                refine D_ck (decide_eq_true hq0) ?_
                have n15 : (x1 - 6).toInt = x1.toInt - 6 := i_subK rfl (by decide) (by omega) (by omega)
                have n16 : ((x1 - 6) + 1).toInt = (x1 - 6).toInt + 1 := i_addK rfl (by decide) (by omega) (by omega)
                refine D_bd (t_X6_piecesThatAre Tn P ((x1 - 6) + 1) hTn hP) (fun r17 eq19 hq18 => ?_)
                have n20 := i_rng r17
                exact D_some trivial
              · skip
                refine D_ite (fun c21 => ?_) (fun c21 => ?_)
                · have kc21 := tq_eq (x := x1) (y := (7 : Int32)) rfl (b := 7) (by decide) c21
                  refine D_ck (decide_eq_true hq0) ?_
                  have n22 : (x1 - 6).toInt = x1.toInt - 6 := i_subK rfl (by decide) (by omega) (by omega)
                  have n23 : ((x1 - 6) + 1).toInt = (x1 - 6).toInt + 1 := i_addK rfl (by decide) (by omega) (by omega)
                  refine D_bd (t_X6_piecesThatAre Tn P ((x1 - 6) + 1) hTn hP) (fun r24 eq26 hq25 => ?_)
                  have n27 := i_rng r24
                  exact D_some trivial
                · skip
                  refine D_ite (fun c28 => ?_) (fun c28 => ?_)
                  · have kc28 := tq_eq (x := x1) (y := (8 : Int32)) rfl (b := 8) (by decide) c28
                    refine D_ck (decide_eq_true hq0) ?_
                    have n29 : (x1 - 6).toInt = x1.toInt - 6 := i_subK rfl (by decide) (by omega) (by omega)
                    have n30 : ((x1 - 6) + 1).toInt = (x1 - 6).toInt + 1 := i_addK rfl (by decide) (by omega) (by omega)
                    refine D_bd (t_X6_piecesThatAre Tn P ((x1 - 6) + 1) hTn hP) (fun r31 eq33 hq32 => ?_)
                    have n34 := i_rng r31
                    exact D_some trivial
                  · skip
                    refine D_ite (fun c35 => ?_) (fun c35 => ?_)
                    · have kc35 := tq_eq (x := x1) (y := (9 : Int32)) rfl (b := 9) (by decide) c35
                      refine D_ck (decide_eq_true hq0) ?_
                      have n36 : (x1 - 6).toInt = x1.toInt - 6 := i_subK rfl (by decide) (by omega) (by omega)
                      have n37 : ((x1 - 6) + 1).toInt = (x1 - 6).toInt + 1 := i_addK rfl (by decide) (by omega) (by omega)
                      refine D_bd (t_X6_piecesThatAre Tn P ((x1 - 6) + 1) hTn hP) (fun r38 eq40 hq39 => ?_)
                      have n41 := i_rng r38
                      exact D_some trivial
                    · skip
                      refine D_ite (fun c42 => ?_) (fun c42 => ?_)
                      · have kc42 := tq_eq (x := x1) (y := (10 : Int32)) rfl (b := 10) (by decide) c42
                        refine D_ck (decide_eq_true hq0) ?_
                        have n43 : (x1 - 6).toInt = x1.toInt - 6 := i_subK rfl (by decide) (by omega) (by omega)
                        have n44 : ((x1 - 6) + 1).toInt = (x1 - 6).toInt + 1 := i_addK rfl (by decide) (by omega) (by omega)
                        refine D_bd (t_X6_piecesThatAre Tn P ((x1 - 6) + 1) hTn hP) (fun r45 eq47 hq46 => ?_)
                        have n48 := i_rng r45
                        exact D_some trivial
                      · skip
                        refine D_ite (fun c49 => ?_) (fun c49 => ?_)
                        · have kc49 := tq_eq (x := x1) (y := (11 : Int32)) rfl (b := 11) (by decide) c49
                          refine D_ck (decide_eq_true hq0) ?_
                          refine D_bd (t_X6_personsAboard Tn P hTn hP) (fun r50 eq52 hq51 => ?_)
                          have n53 := i_rng r50
                          exact D_some trivial
                        · skip
                          refine D_ite (fun c54 => ?_) (fun c54 => ?_)
                          · have kc54 := tq_eq (x := x1) (y := (12 : Int32)) rfl (b := 12) (by decide) c54
                            refine D_ck (decide_eq_true hq4) ?_
                            have n55 := i_rng (P 0 4)
                            exact D_some trivial
                          · skip
                            refine D_ite (fun c56 => ?_) (fun c56 => ?_)
                            · have kc56 := tq_eq (x := x1) (y := (13 : Int32)) rfl (b := 13) (by decide) c56
                              have n57 : 0 ≤ (Z 0 0).toInt ∧ (Z 0 0).toInt ≤ 24 := hZ 0 0
                              exact D_some trivial
                            · skip
                              refine D_ite (fun c58 => ?_) (fun c58 => ?_)
                              · have kc58 := tq_eq (x := x1) (y := (14 : Int32)) rfl (b := 14) (by decide) c58
                                refine D_bd (t_X4_regarded_x pa qa Z hZ) (fun r59 eq61 hq60 => ?_)
                                have p62 : 0 ≤ r59.toInt ∧ r59.toInt ≤ 24 := hq60
                                exact D_some trivial
                              · skip
                                refine D_ite (fun c63 => ?_) (fun c63 => ?_)
                                · have kc63 := tq_eq (x := x1) (y := (15 : Int32)) rfl (b := 15) (by decide) c63
                                  have n64 : 0 ≤ (C 0 0).toInt ∧ (C 0 0).toInt ≤ 20 := hC 0 0
                                  exact D_some trivial
                                · skip
                                  have lm1 : ((-1) : Int32).toInt = (-1) := by decide
                                  exact D_some trivial
set_option maxHeartbeats 1000000 in
set_option maxRecDepth 100000 in
theorem tl_X7_digit_L17 (pa : Nat → Nat) (qa : Nat → Nat) (P : Tr) (q4 : Nat) (x2 : Int32) (hP : iR BP P) (hq4 : q4 = pa 0) (hx2 : (-10) ≤ x2.toInt ∧ x2.toInt ≤ 10) (hne : 0 < (P 0 0).toInt)   (N : Nat) : ∀ (x3 : Int32) (x4 : Int32), 0 ≤ x3.toInt ∧ x3.toInt ≤ 2147483647 → 0 ≤ x4.toInt ∧ x4.toInt ≤ 1000 → 1000 - x4.toInt < (N : Int) → D (lpF (fun _ _ => none) (fB_X7_digit_L17 pa qa P q4 x2) N x3 x4) (fun (q : Int32) => ((-1) ≤ q.toInt ∧ q.toInt ≤ 4)) := by
  induction N with
  | zero =>
    intro x3 x4 hx3 hx4 hN
    exfalso
    omega
  | succ N17 ih =>
    intro x3 x4 hx3 hx4 hN
    have hk17 : ∀ (x3 : Int32) (x4 : Int32), 0 ≤ x3.toInt ∧ x3.toInt ≤ 2147483647 → 0 ≤ x4.toInt ∧ x4.toInt ≤ 1000 → 1000 - x4.toInt < (N17 : Int) → D (lpF (fun _ _ => none) (fB_X7_digit_L17 pa qa P q4 x2) N17 x3 x4) (fun (q : Int32) => ((-1) ≤ q.toInt ∧ q.toInt ≤ 4)) := ih
    show D (fB_X7_digit_L17 pa qa P q4 x2 (lpF (fun _ _ => none) (fB_X7_digit_L17 pa qa P q4 x2) N17) x3 x4) _
    generalize lpF (fun _ _ => none) (fB_X7_digit_L17 pa qa P q4 x2) N17 = k17 at hk17 ⊢
    have hN17 : 1000 - x4.toInt < (N17 : Int) + 1 := by omega
    clear ih
    unfold fB_X7_digit_L17
    refine D_ite (fun c3 => ?_) (fun c3 => ?_)
    · have kc3 := tq_le (x := x2) (y := x4) rfl rfl c3
      refine D_ck (decide_eq_true hq4) ?_
      have n4 : 0 ≤ (P 0 0).toInt ∧ (P 0 0).toInt ≤ 5 := hP 0 0
      have l0 : (0 : Int32).toInt = 0 := by decide
      refine D_ck (ok_ne (by clear hx2 hx3 hx4 hN17 hN kc3; omega)) ?_
      have n5 := i_rng x3
      have n6 := i_remv (a := x3) (b := (P 0 0)) (by clear hx2 hne hx4 hN17 hN kc3 n4; omega) (by clear hx2 hx3 hx4 hN17 hN kc3 n5; omega)
      exact D_some (show ((-1) ≤ (x3 - x3 / (P 0 0) * (P 0 0)).toInt ∧ (x3 - x3 / (P 0 0) * (P 0 0)).toInt ≤ 4) from ⟨(by clear hx2 hx4 hN17 hN kc3; omega), (by clear hx2 hx4 hN17 hN kc3; omega)⟩)
    · have kc3 := tq_len (x := x2) (y := x4) rfl rfl c3
      refine D_ck (decide_eq_true hq4) ?_
      have n7 : 0 ≤ (P 0 0).toInt ∧ (P 0 0).toInt ≤ 5 := hP 0 0
      have l0 : (0 : Int32).toInt = 0 := by decide
      refine D_ck (ok_ne (by clear hx2 hx3 hx4 hN17 hN kc3; omega)) ?_
      refine D_lt (fun y8 ey8 => ?_)
      have n9 := i_rng x3
      have n10 := i_divv (a := x3) (b := (P 0 0)) (by clear hx2 hne hx4 hN17 hN kc3 n7; omega) (by clear hx2 hx3 hx4 hN17 hN kc3 n9; omega)
      have hy8 : y8.toInt = (x3 / (P 0 0)).toInt := by rw [ey8]
      have n12 : (x4 + 1).toInt = x4.toInt + 1 := i_addK rfl (by decide) (by clear hne hx3 hN17 hN n7 n9 n10 hy8; omega) (by clear hne hx3 hN17 hN n7 n9 n10 hy8; omega)
      refine D_lt (fun y11 ey11 => ?_)
      have hy11 : y11.toInt = (x4 + 1 : Int32).toInt := by rw [ey11]
      exact hk17 y8 y11 ⟨(by clear hx2 hx4 hN17 hN kc3 n12 hy11; omega), (by clear hx2 hx4 hN17 hN kc3 n12 hy11; omega)⟩ ⟨(by clear hne hx3 hN17 hN n7 n9 n10 hy8; omega), (by clear hne hx3 hN17 hN n7 n9 n10 hy8; omega)⟩ (by clear hne hx3 n7 n9 n10 hy8; omega)
set_option maxHeartbeats 1000000 in
set_option maxRecDepth 100000 in
theorem t_X7_digit (pa : Nat → Nat) (qa : Nat → Nat) (P : Tr) (q4 : Nat) (x1 : Int32) (x2 : Int32) (hP : iR BP P) (hx1 : 0 ≤ x1.toInt ∧ x1.toInt ≤ 2147483647) (hx2 : (-10) ≤ x2.toInt ∧ x2.toInt ≤ 10) (hq4 : q4 = pa 0) : D (f_X7_digit pa qa P q4 x1 x2) (fun (q : Int32) => ((-1) ≤ q.toInt ∧ q.toInt ≤ 4)) := by
  unfold f_X7_digit
  refine D_ck (decide_eq_true hq4) ?_
  have n2 : 0 ≤ (P 0 0).toInt ∧ (P 0 0).toInt ≤ 5 := hP 0 0
  refine D_ite (fun c1 => ?_) (fun c1 => ?_)
  · have kc1 := tq_eq (x := (P 0 0)) (y := (0 : Int32)) rfl (b := 0) (by decide) c1
    have lm1 : ((-1) : Int32).toInt = (-1) := by decide
    exact D_some (show ((-1) ≤ ((-1) : Int32).toInt ∧ ((-1) : Int32).toInt ≤ 4) from ⟨(by clear hx1 hx2 n2 kc1; omega), (by clear hx1 hx2 n2 kc1; omega)⟩)
  · have kc10 := tq_eqn (x := (P 0 0)) (y := (0 : Int32)) rfl (b := 0) (by decide) c1
    have kc1 : 1 ≤ (P 0 0).toInt := (by omega)
    clear kc10
    have n13 := i_rng x1
    have l0 : (0 : Int32).toInt = 0 := by decide
    exact tl_X7_digit_L17 pa qa P (pa 0) x2 hP rfl ⟨(by clear hx1 n2 kc1 n13; omega), (by clear hx1 n2 kc1 n13; omega)⟩ (by clear hx1 hx2 n13; omega)   2000 x1 (0 : Int32) ⟨(by clear hx2 n2 kc1; omega), (by clear hx2 n2 kc1; omega)⟩ ⟨(by clear hx1 hx2 n2 kc1 n13; omega), (by clear hx1 hx2 n2 kc1 n13; omega)⟩ (by clear hx1 hx2 n2 kc1 n13; omega)
set_option maxHeartbeats 1000000 in
set_option maxRecDepth 100000 in
theorem t_X7_falls (pa : Nat → Nat) (qa : Nat → Nat) (P : Tr) (L : Lo) (Tn : Tr) (Tu : Tr) (q0 : Nat) (q2 : Nat) (q4 : Nat) (hP : iR BP P) (hTn : iR BT Tn) (hTu : iR BT Tu) (hq0 : q0 = pa 0) (hq4 : q4 = pa 0) : D (f_X7_falls pa qa P L Tn Tu q0 q2 q4) (fun (q : Int32 × Lo × Tr × Nat) => (iR BT (q.2.2.1))) := by
  unfold f_X7_falls
  have n2 : 0 ≤ (Tn 0 0).toInt ∧ (Tn 0 0).toInt ≤ 21 := hTn 0 0
  refine D_ite (fun c1 => ?_) (fun c1 => ?_)
  · have kc1 := tq_le (x := (Tn 0 0)) (y := (20 : Int32)) rfl (b := 20) (by decide) c1
    refine D_bd2 (t_X7_startTrial pa qa Tn Tu q0 q2 hTn hTu) (fun Tu_3 q2_4 eq6 hq5 => ?_)
    refine D_lte (y := Tu_3) rfl ?_
    refine D_lte (y := q2_4) rfl ?_
    obtain ⟨p7, p8, p9⟩ : (iR BT Tu_3) ∧ (q2_4 = q0) ∧ (Tu_3 0 0 = Tn 0 0) := hq5
    refine D_ck (decide_eq_true hq4) ?_
    refine D_ck (okI_of (by omega) (by omega)) ?_
    refine D_ck (decide_eq_true (p8.trans hq0)) ?_
    have n10 := i_rng (P 18 (Tn 0 0).toNatClampNeg)
    refine D_bd3 (t_X6_takeDown Tu_3 P L (P 18 (Tn 0 0).toNatClampNeg) p7 hP) (fun r11 Tu_12 L_13 eq15 hq14 => ?_)
    refine D_lte (y := r11) rfl ?_
    refine D_lte (y := Tu_12) rfl ?_
    refine D_lte (y := L_13) rfl ?_
    obtain ⟨p16, p17⟩ : (iR BT Tu_12) ∧ (Tu_12 0 0 = (Tu_3 0 0)) := hq14
    have n18 := i_rng r11
    refine D_bd (t_X6_getIn Tu_12 P p16 hP) (fun Tu_19 eq21 hq20 => ?_)
    obtain ⟨p22, p23⟩ : (iR BT Tu_19) ∧ (Tu_19 0 0 = (Tu_12 0 0)) := hq20
    refine D_bd3 (t_X6_fallOff Tu_19 P L_13 p22 hP) (fun r24 Tu_25 L_26 eq28 hq27 => ?_)
    refine D_lte (y := r24) rfl ?_
    refine D_lte (y := Tu_25) rfl ?_
    refine D_lte (y := L_26) rfl ?_
    obtain ⟨p29, p30⟩ : (iR BT Tu_25) ∧ (Tu_25 0 0 = (Tu_19 0 0)) := hq27
    have n31 := i_rng r24
    exact D_some (show (iR BT Tu_25) from p29)
  · have kc1 := tq_len (x := (Tn 0 0)) (y := (20 : Int32)) rfl (b := 20) (by decide) c1
    have l0 : (0 : Int32).toInt = 0 := by decide
    exact D_some (show (iR BT Tu) from hTu)
set_option maxHeartbeats 1000000 in
set_option maxRecDepth 100000 in
theorem t_X7_fault (pa : Nat → Nat) (qa : Nat → Nat) (R : Tr) (x1 : Int32) (hR : iR BR R) : D (f_X7_fault pa qa R x1) (fun (q : Int32) => True) := by
  unfold f_X7_fault
  have n2 := i_rng x1
  refine D_ite (fun c1 => ?_) (fun c1 => ?_)
  · have kc1 := tq_eq (x := x1) (y := (0 : Int32)) rfl (b := 0) (by decide) c1
    have n3 := i_rng (R 0 1)
    exact D_some trivial
  · skip
    refine D_ite (fun c4 => ?_) (fun c4 => ?_)
    · have kc4 := tq_eq (x := x1) (y := (1 : Int32)) rfl (b := 1) (by decide) c4
      have n5 := i_rng (R 0 2)
      exact D_some trivial
    · skip
      have lm1 : ((-1) : Int32).toInt = (-1) := by decide
      exact D_some trivial
set_option maxHeartbeats 1000000 in
set_option maxRecDepth 100000 in
theorem tl_X5_append_x_L3 (pa : Nat → Nat) (qa : Nat → Nat) (x1 : Int32)    (N : Nat) : ∀ (x2 : Int32) (K : Tr), iR BK K → (-8) ≤ x2.toInt ∧ x2.toInt ≤ 24 → x2.toInt + 9 < (N : Int) → D (lpF (fun _ _ => none) (fB_X5_append_x_L3 pa qa x1) N x2 K) (fun (q : Tr) => (iR BK q)) := by
  induction N with
  | zero =>
    intro x2 K hK hx2 hN
    exfalso
    omega
  | succ N3 ih =>
    intro x2 K hK hx2 hN
    have hk3 : ∀ (x2 : Int32) (K : Tr), iR BK K → (-8) ≤ x2.toInt ∧ x2.toInt ≤ 24 → x2.toInt + 9 < (N3 : Int) → D (lpF (fun _ _ => none) (fB_X5_append_x_L3 pa qa x1) N3 x2 K) (fun (q : Tr) => (iR BK q)) := ih
    show D (fB_X5_append_x_L3 pa qa x1 (lpF (fun _ _ => none) (fB_X5_append_x_L3 pa qa x1) N3) x2 K) _
    generalize lpF (fun _ _ => none) (fB_X5_append_x_L3 pa qa x1) N3 = k3 at hk3 ⊢
    have hN3 : x2.toInt + 9 < (N3 : Int) + 1 := by omega
    clear ih
    unfold fB_X5_append_x_L3
    refine D_ite (fun c1 => ?_) (fun c1 => ?_)
    · have kc1 := tq_lt (x := x2) (y := (0 : Int32)) rfl (b := 0) (by decide) c1
      exact D_some (show (iR BK K) from hK)
    · have kc1 := tq_ltn (x := x2) (y := (0 : Int32)) rfl (b := 0) (by decide) c1
      have n3 : 0 ≤ (K 0 0).toInt ∧ (K 0 0).toInt ≤ 700 := hK 0 0
      refine D_ite (fun c2 => ?_) (fun c2 => ?_)
      · have kc2 := tq_le (x := (700 : Int32)) (y := (K 0 0)) (a := 700) (by decide) rfl c2
        exact D_some (show (iR BK K) from hK)
      · have kc2 := tq_len (x := (700 : Int32)) (y := (K 0 0)) (a := 700) (by decide) rfl c2
        refine D_ck (okI_of (by clear hx2 hN3 hN kc1; omega) (by clear hx2 hN3 hN kc1; omega)) ?_
        refine D_lt (fun K_4 eK_4 => ?_)
        have hK_4 : iR BK K_4 := by rw [eK_4]; exact iR_setU hK rfl
        have n5 : (K_4 0 0).toInt = (K 0 0).toInt := by rw [eK_4]; rfl
        have n7 : ((K_4 0 0) + 1).toInt = (K_4 0 0).toInt + 1 := i_addK rfl (by decide) (by clear hx2 hN3 hN kc1; omega) (by clear hx2 hN3 hN kc1; omega)
        refine D_lt (fun K_6 eK_6 => ?_)
        have hK_6 : iR BK K_6 := by rw [eK_6]; exact iR_set hK_4 (show (0 : Int) ≤ _ from (by clear hx2 hN3 hN kc1; omega)) (show _ ≤ (700 : Int) from (by clear hx2 hN3 hN kc1; omega))
        have n8 : (K_6 0 0).toInt = ((K_4 0 0) + 1).toInt := by rw [eK_6]; rfl
        have n10 : (x2 + (-8)).toInt = x2.toInt + (-8) := i_addK rfl (by decide) (by clear hN3 hN n3 kc2 n5 n7 n8; omega) (by clear hN3 hN n3 kc2 n5 n7 n8; omega)
        refine D_lt (fun y9 ey9 => ?_)
        have hy9 : y9.toInt = (x2 + (-8) : Int32).toInt := by rw [ey9]
        exact hk3 y9 K_6 hK_6 ⟨(by clear hN3 hN n3 kc2 n5 n7 n8; omega), (by clear hN3 hN n3 kc2 n5 n7 n8; omega)⟩ (by clear n3 kc2 n5 n7 n8; omega)
set_option maxHeartbeats 1000000 in
set_option maxRecDepth 100000 in
theorem t_X5_append_x (pa : Nat → Nat) (qa : Nat → Nat) (K : Tr) (x1 : Int32) (hK : iR BK K) : D (f_X5_append_x pa qa K x1) (fun (q : Tr) => (iR BK q)) := by
  unfold f_X5_append_x
  have l24 : (24 : Int32).toInt = 24 := by decide
  have n11 := i_rng x1
  exact tl_X5_append_x_L3 pa qa x1    2000 (24 : Int32) K hK ⟨(by omega), (by omega)⟩ (by omega)
set_option maxHeartbeats 1000000 in
set_option maxRecDepth 100000 in
theorem t_X7_feed (pa : Nat → Nat) (qa : Nat → Nat) (K : Tr) (x1 : Int32) (x2 : Int32) (x3 : Int32) (x4 : Int32) (x5 : Int32) (hK : iR BK K) : D (f_X7_feed pa qa K x1 x2 x3 x4 x5) (fun (q : Int32 × Tr) => (iR BK (q.2))) := by
  unfold f_X7_feed
  have n2 : 0 ≤ (K 0 0).toInt ∧ (K 0 0).toInt ≤ 700 := hK 0 0
  have n3 : ((K 0 0) + 20).toInt = (K 0 0).toInt + 20 := i_addK rfl (by decide) (by omega) (by omega)
  refine D_ite (fun c1 => ?_) (fun c1 => ?_)
  · have kc1 := tq_le (x := ((K 0 0) + 20)) (y := (700 : Int32)) rfl (b := 700) (by decide) c1
    have n4 := i_rng x1
    refine D_bd (t_X5_append_x pa qa K x1 hK) (fun K_5 eq7 hq6 => ?_)
    have p8 : iR BK K_5 := hq6
    have n9 := i_rng x2
    refine D_bd (t_X5_append_x pa qa K_5 x2 p8) (fun K_10 eq12 hq11 => ?_)
    have p13 : iR BK K_10 := hq11
    have n14 := i_rng x3
    refine D_bd (t_X5_append_x pa qa K_10 x3 p13) (fun K_15 eq17 hq16 => ?_)
    have p18 : iR BK K_15 := hq16
    have n19 := i_rng x4
    refine D_bd (t_X5_append_x pa qa K_15 x4 p18) (fun K_20 eq22 hq21 => ?_)
    have p23 : iR BK K_20 := hq21
    have n24 := i_rng x5
    refine D_bd (t_X5_append_x pa qa K_20 x5 p23) (fun K_25 eq27 hq26 => ?_)
    have p28 : iR BK K_25 := hq26
    have n29 : 0 ≤ (K_25 0 0).toInt ∧ (K_25 0 0).toInt ≤ 700 := p28 0 0
    exact D_some (show (iR BK K_25) from p28)
  · have kc1 := tq_len (x := ((K 0 0) + 20)) (y := (700 : Int32)) rfl (b := 700) (by decide) c1
    have lm1 : ((-1) : Int32).toInt = (-1) := by decide
    exact D_some (show (iR BK K) from hK)
set_option maxHeartbeats 1000000 in
set_option maxRecDepth 100000 in
theorem tl_X7_feet_L46 (zTu_0_0 : Int32) (pa : Nat → Nat) (qa : Nat → Nat) (P : Tr) (L : Lo) (Tn : Tr) (Tu : Tr) (q0 : Nat) (q2 : Nat) (q4 : Nat) (x2 : Int32) (N14 : Nat) (hP : iR BP P) (hTn : iR BT Tn) (hTu : iR BT Tu) (hq0 : q0 = pa 0) (hq2 : q2 = pa 0) (hq4 : q4 = pa 0) (hx2 : 0 ≤ x2.toInt ∧ x2.toInt ≤ 20) (hst : (Tu 0 0).toInt = x2.toInt) (hN14 : 1000 - x2.toInt < (N14 : Int) + 1) (k14 : Int32 → Int32 → Lo → Tr → Option (Int32 × Lo × Tr × Nat)) (hk14 : ∀ (x1 : Int32) (x2 : Int32) (L : Lo) (Tu : Tr), iR BT Tu → 0 ≤ x2.toInt ∧ x2.toInt ≤ 1000 → (Tu 0 0).toInt = x2.toInt → 1000 - x2.toInt < (N14 : Int) → D (k14 x1 x2 L Tu) (fun (q : Int32 × Lo × Tr × Nat) => (iR BT (q.2.2.1)))) (N : Nat) : ∀ (x1 : Int32) (x3 : Int32), 0 ≤ x3.toInt ∧ x3.toInt ≤ 1000 → 1000 - x3.toInt < (N : Int) → D (lpF (fun _ _ => none) (fB_X7_feet_L46 k14 pa qa P L Tn Tu q0 q2 q4 x2) N x1 x3) (fun (q : Int32 × Lo × Tr × Nat) => (iR BT (q.2.2.1))) := by
  induction N with
  | zero =>
    intro x1 x3 hx3 hN
    exfalso
    omega
  | succ N46 ih =>
    intro x1 x3 hx3 hN
    have hk46 : ∀ (x1 : Int32) (x3 : Int32), 0 ≤ x3.toInt ∧ x3.toInt ≤ 1000 → 1000 - x3.toInt < (N46 : Int) → D (lpF (fun _ _ => none) (fB_X7_feet_L46 k14 pa qa P L Tn Tu q0 q2 q4 x2) N46 x1 x3) (fun (q : Int32 × Lo × Tr × Nat) => (iR BT (q.2.2.1))) := ih
    show D (fB_X7_feet_L46 k14 pa qa P L Tn Tu q0 q2 q4 x2 (lpF (fun _ _ => none) (fB_X7_feet_L46 k14 pa qa P L Tn Tu q0 q2 q4 x2) N46) x1 x3) _
    generalize lpF (fun _ _ => none) (fB_X7_feet_L46 k14 pa qa P L Tn Tu q0 q2 q4 x2) N46 = k46 at hk46 ⊢
    have hN46 : 1000 - x3.toInt < (N46 : Int) + 1 := by omega
    clear ih
    unfold fB_X7_feet_L46
    refine D_ck (decide_eq_true hq4) ?_
    have n31 : 0 ≤ (P 0 0).toInt ∧ (P 0 0).toInt ≤ 5 := hP 0 0
    refine D_ite (fun c30 => ?_) (fun c30 => ?_)
    · have kc30 := tq_le (x := (P 0 0)) (y := x3) rfl rfl c30
      unfold fJ_X7_feet_J88
      refine D_ck (decide_eq_true hq2) ?_
      refine D_bd2 (t_X6_wayOn Tu P L hTu hP (by clear hx3 hN14 hN46 hN n31 kc30; omega)) (fun Tu_32 L_33 eq35 hq34 => ?_)
      refine D_lte (y := Tu_32) rfl ?_
      refine D_lte (y := L_33) rfl ?_
      obtain ⟨p36, p37⟩ : (iR BT Tu_32) ∧ ((Tu_32 0 0).toInt = (Tu 0 0).toInt + 1) := hq34
      have n39 : (x2 + 1).toInt = x2.toInt + 1 := i_addK rfl (by decide) (by clear hx3 hN14 hN46 hN n31 kc30; omega) (by clear hx3 hN14 hN46 hN n31 kc30; omega)
      refine D_lt (fun y38 ey38 => ?_)
      have hy38 : y38.toInt = (x2 + 1 : Int32).toInt := by rw [ey38]
      have n40 := i_rng x1
      have n41 : 0 ≤ (Tu_32 0 0).toInt ∧ (Tu_32 0 0).toInt ≤ 21 := p36 0 0
      exact hk14 x1 y38 L_33 Tu_32 p36 ⟨(by clear hx3 hN14 hN46 hN n31 kc30 n40; omega), (by clear hx3 hN14 hN46 hN n31 kc30 n40; omega)⟩ (by clear hx3 hN14 hN46 hN n31 kc30 n40; omega) (by clear hx3 hN46 hN n31 kc30 n40; omega)
    · have kc30 := tq_len (x := (P 0 0)) (y := x3) rfl rfl c30
      refine D_ck (okI_of (by clear hx2 hst hN14 hN46 hN; omega) (by clear hx2 hst hN14 hN46 hN; omega)) ?_
      have n43 := i_rng (P 8 x3.toNatClampNeg)
      refine D_ite (fun c42 => ?_) (fun c42 => ?_)
      · have kc42 := tq_eq (x := (P 8 x3.toNatClampNeg)) (y := (2 : Int32)) rfl (b := 2) (by decide) c42
        refine D_lt (fun y44 ey44 => ?_)
        have n45 := i_rng (x1 + (Tu 17 x3.toNatClampNeg))
        have hy44 : y44.toInt = (x1 + (Tu 17 x3.toNatClampNeg)).toInt := by rw [ey44]
        have n47 : (x3 + 1).toInt = x3.toInt + 1 := i_addK rfl (by decide) (by clear hx2 hst hN14 hN46 hN n43 kc42 n45 hy44; omega) (by clear hx2 hst hN14 hN46 hN n43 kc42 n45 hy44; omega)
        refine D_lt (fun y46 ey46 => ?_)
        have hy46 : y46.toInt = (x3 + 1 : Int32).toInt := by rw [ey46]
        exact hk46 y44 y46 ⟨(by clear hx2 hst hN14 hN46 hN n43 kc42 n45 hy44; omega), (by clear hx2 hst hN14 hN46 hN n43 kc42 n45 hy44; omega)⟩ (by clear hx2 hst hN14 n43 kc42 n45 hy44; omega)
      · skip
        have n49 : (x3 + 1).toInt = x3.toInt + 1 := i_addK rfl (by decide) (by clear hx2 hst hN14 hN46 hN n43; omega) (by clear hx2 hst hN14 hN46 hN n43; omega)
        refine D_lt (fun y48 ey48 => ?_)
        have hy48 : y48.toInt = (x3 + 1 : Int32).toInt := by rw [ey48]
        have n50 := i_rng x1
        exact hk46 x1 y48 ⟨(by clear hx2 hst hN14 hN46 hN n43 n50; omega), (by clear hx2 hst hN14 hN46 hN n43 n50; omega)⟩ (by clear hx2 hst hN14 n43 n50; omega)
set_option maxHeartbeats 1000000 in
set_option maxRecDepth 100000 in
theorem tl_X7_feet_L14 (zTu_0_0 : Int32) (pa : Nat → Nat) (qa : Nat → Nat) (P : Tr) (Tn : Tr) (q0 : Nat) (q2 : Nat) (q4 : Nat) (hP : iR BP P) (hTn : iR BT Tn) (hq0 : q0 = pa 0) (hq2 : q2 = pa 0) (hq4 : q4 = pa 0)   (N : Nat) : ∀ (x1 : Int32) (x2 : Int32) (L : Lo) (Tu : Tr), iR BT Tu → 0 ≤ x2.toInt ∧ x2.toInt ≤ 1000 → (Tu 0 0).toInt = x2.toInt → 1000 - x2.toInt < (N : Int) → D (lpF (fun _ _ _ _ => none) (fB_X7_feet_L14 pa qa P Tn q0 q2 q4) N x1 x2 L Tu) (fun (q : Int32 × Lo × Tr × Nat) => (iR BT (q.2.2.1))) := by
  induction N with
  | zero =>
    intro x1 x2 L Tu hTu hx2 hst hN
    exfalso
    omega
  | succ N14 ih =>
    intro x1 x2 L Tu hTu hx2 hst hN
    have hk14 : ∀ (x1 : Int32) (x2 : Int32) (L : Lo) (Tu : Tr), iR BT Tu → 0 ≤ x2.toInt ∧ x2.toInt ≤ 1000 → (Tu 0 0).toInt = x2.toInt → 1000 - x2.toInt < (N14 : Int) → D (lpF (fun _ _ _ _ => none) (fB_X7_feet_L14 pa qa P Tn q0 q2 q4) N14 x1 x2 L Tu) (fun (q : Int32 × Lo × Tr × Nat) => (iR BT (q.2.2.1))) := ih
    show D (fB_X7_feet_L14 pa qa P Tn q0 q2 q4 (lpF (fun _ _ _ _ => none) (fB_X7_feet_L14 pa qa P Tn q0 q2 q4) N14) x1 x2 L Tu) _
    generalize lpF (fun _ _ _ _ => none) (fB_X7_feet_L14 pa qa P Tn q0 q2 q4) N14 = k14 at hk14 ⊢
    have hN14 : 1000 - x2.toInt < (N14 : Int) + 1 := by omega
    clear ih
    unfold fB_X7_feet_L14
    refine D_ite (fun c12 => ?_) (fun c12 => ?_)
    · have kc12 := tq_lt (x := (20 : Int32)) (y := x2) (a := 20) (by decide) rfl c12
      have n13 := i_rng x1
      exact D_some (show (iR BT Tu) from hTu)
    · have kc12 := tq_ltn (x := (20 : Int32)) (y := x2) (a := 20) (by decide) rfl c12
      refine D_ck (decide_eq_true hq4) ?_
      refine D_ck (okI_of (by omega) (by omega)) ?_
      refine D_ck (decide_eq_true hq2) ?_
      have n14 := i_rng (P 18 x2.toNatClampNeg)
      refine D_bd3 (t_X6_takeDown Tu P L (P 18 x2.toNatClampNeg) hTu hP) (fun r15 Tu_16 L_17 eq19 hq18 => ?_)
      refine D_lte (y := r15) rfl ?_
      refine D_lte (y := Tu_16) rfl ?_
      refine D_lte (y := L_17) rfl ?_
      obtain ⟨p20, p21⟩ : (iR BT Tu_16) ∧ (Tu_16 0 0 = (Tu 0 0)) := hq18
      have n22 := i_rng r15
      have k23 : Tu_16 0 0 = (Tu 0 0) := p21
      refine D_bd (t_X6_getIn Tu_16 P p20 hP) (fun Tu_24 eq26 hq25 => ?_)
      obtain ⟨p27, p28⟩ : (iR BT Tu_24) ∧ (Tu_24 0 0 = (Tu_16 0 0)) := hq25
      have k29 : Tu_24 0 0 = (Tu 0 0) := p28.trans k23
      have n51 := i_rng x1
      have l0 : (0 : Int32).toInt = 0 := by decide
      have n52 : 0 ≤ (Tu_24 0 0).toInt ∧ (Tu_24 0 0).toInt ≤ 21 := p27 0 0
      have n53 : 0 ≤ (Tu 0 0).toInt ∧ (Tu 0 0).toInt ≤ 21 := hTu 0 0
      have kz54 : (Tu_24 0 0).toInt = (Tu 0 0).toInt := congrArg Int32.toInt k29
      exact tl_X7_feet_L46 (Tu 0 0) pa qa P L_17 Tn Tu_24 q0 (pa 0) (pa 0) x2 N14 hP hTn p27 hq0 rfl rfl ⟨(by clear hN14 hN n14 n22 n51; omega), (by clear hN14 hN n14 n22 n51; omega)⟩ (by clear hN14 hN n14 n22 n51; omega) hN14 k14 hk14 2000 x1 (0 : Int32) ⟨(by clear hx2 hst hN14 hN kc12 n14 n22 n51 n52 n53 kz54; omega), (by clear hx2 hst hN14 hN kc12 n14 n22 n51 n52 n53 kz54; omega)⟩ (by clear hx2 hst hN14 hN kc12 n14 n22 n51 n52 n53 kz54; omega)
set_option maxHeartbeats 1000000 in
set_option maxRecDepth 100000 in
theorem t_X7_feet (pa : Nat → Nat) (qa : Nat → Nat) (P : Tr) (L : Lo) (Tn : Tr) (Tu : Tr) (q0 : Nat) (q2 : Nat) (q4 : Nat) (hP : iR BP P) (hTn : iR BT Tn) (hTu : iR BT Tu) (hq0 : q0 = pa 0) (hq4 : q4 = pa 0) : D (f_X7_feet pa qa P L Tn Tu q0 q2 q4) (fun (q : Int32 × Lo × Tr × Nat) => (iR BT (q.2.2.1))) := by
  unfold f_X7_feet
  refine D_bd2 (t_X7_startTrial pa qa Tn Tu q0 q2 hTn hTu) (fun Tu_1 q2_2 eq4 hq3 => ?_)
  refine D_lte (y := Tu_1) rfl ?_
  refine D_lte (y := q2_2) rfl ?_
  obtain ⟨p5, p6, p7⟩ : (iR BT Tu_1) ∧ (q2_2 = q0) ∧ (Tu_1 0 0 = Tn 0 0) := hq3
  have n8 : 0 ≤ (Tu_1 0 0).toInt ∧ (Tu_1 0 0).toInt ≤ 21 := p5 0 0
  have n9 : 0 ≤ (Tn 0 0).toInt ∧ (Tn 0 0).toInt ≤ 21 := hTn 0 0
  have kz10 : (Tu_1 0 0).toInt = (Tn 0 0).toInt := congrArg Int32.toInt p7
  refine D_lt (fun y11 ey11 => ?_)
  have hy11 : y11.toInt = (Tn 0 0).toInt := by rw [ey11]
  have l0 : (0 : Int32).toInt = 0 := by decide
  exact tl_X7_feet_L14 (Tu 0 0) pa qa P Tn q0 q2_2 q4 hP hTn hq0 (p6.trans hq0) hq4   2000 (0 : Int32) y11 L Tu_1 p5 ⟨(by omega), (by omega)⟩ (by omega) (by omega)
set_option maxHeartbeats 1000000 in
set_option maxRecDepth 100000 in
theorem tl_X7_findLeast_L99 (pa : Nat → Nat) (qa : Nat → Nat) (X : Tr) (P : Tr) (L : Lo) (Tn : Tr) (Tv : Tr) (q0 : Nat) (q2 : Nat) (q3 : Nat) (q4 : Nat) (x1 : Int32) (x2 : Int32) (x3 : Int32) (x4 : Int32) (N68 : Nat) (hX : iR BX X) (hP : iR BP P) (hTn : iR BT Tn) (hTv : iR BT Tv) (hq0 : q0 = pa 0) (hq2 : q2 = pa 0) (hq3 : q3 = pa 0) (hq4 : q4 = pa 0) (hx1 : 0 ≤ x1.toInt ∧ x1.toInt ≤ 4) (hx2 : 1 ≤ x2.toInt ∧ x2.toInt ≤ 625) (hx4 : 0 ≤ x4.toInt ∧ x4.toInt ≤ 624) (hvs : (Tv 0 0).toInt ≤ 20) (hN68 : 1000 - x4.toInt < (N68 : Int) + 1) (k68 : Int32 → Int32 → Lo → Tr → Nat → Option (Int32 × Lo × Tr × Tr × Nat × Nat)) (hk68 : ∀ (x3 : Int32) (x4 : Int32) (L : Lo) (Tu : Tr) (q2 : Nat), q2 = pa 0 → iR BT Tu → 0 ≤ x4.toInt ∧ x4.toInt ≤ 1000 → 1000 - x4.toInt < (N68 : Int) → D (k68 x3 x4 L Tu q2) (fun (q : Int32 × Lo × Tr × Tr × Nat × Nat) => (iR BT (q.2.2.1)) ∧ (iR BT (q.2.2.2.1)))) (N : Nat) : ∀ (x5 : Int32) (Tu : Tr), iR BT Tu → 0 ≤ x5.toInt ∧ x5.toInt ≤ 1000 → (Tu 0 0).toInt ≤ 20 → 1000 - x5.toInt < (N : Int) → D (lpF (fun _ _ => none) (fB_X7_findLeast_L99 k68 pa qa X P L Tn Tv q0 q2 q3 q4 x1 x2 x3 x4) N x5 Tu) (fun (q : Int32 × Lo × Tr × Tr × Nat × Nat) => (iR BT (q.2.2.1)) ∧ (iR BT (q.2.2.2.1))) := by
  induction N with
  | zero =>
    intro x5 Tu hTu hx5 hus hN
    exfalso
    omega
  | succ N99 ih =>
    intro x5 Tu hTu hx5 hus hN
    have hk99 : ∀ (x5 : Int32) (Tu : Tr), iR BT Tu → 0 ≤ x5.toInt ∧ x5.toInt ≤ 1000 → (Tu 0 0).toInt ≤ 20 → 1000 - x5.toInt < (N99 : Int) → D (lpF (fun _ _ => none) (fB_X7_findLeast_L99 k68 pa qa X P L Tn Tv q0 q2 q3 q4 x1 x2 x3 x4) N99 x5 Tu) (fun (q : Int32 × Lo × Tr × Tr × Nat × Nat) => (iR BT (q.2.2.1)) ∧ (iR BT (q.2.2.2.1))) := ih
    show D (fB_X7_findLeast_L99 k68 pa qa X P L Tn Tv q0 q2 q3 q4 x1 x2 x3 x4 (lpF (fun _ _ => none) (fB_X7_findLeast_L99 k68 pa qa X P L Tn Tv q0 q2 q3 q4 x1 x2 x3 x4) N99) x5 Tu) _
    generalize lpF (fun _ _ => none) (fB_X7_findLeast_L99 k68 pa qa X P L Tn Tv q0 q2 q3 q4 x1 x2 x3 x4) N99 = k99 at hk99 ⊢
    have hN99 : 1000 - x5.toInt < (N99 : Int) + 1 := by omega
    clear ih
    unfold fB_X7_findLeast_L99
    have n46 : 0 ≤ (Tu 0 0).toInt ∧ (Tu 0 0).toInt ≤ 21 := hTu 0 0
    refine D_ite (fun c47 => ?_) (fun c47 => ?_)
    · have kc47 := tq_le (x := x1) (y := x5) rfl rfl c47
      unfold fJ_X7_findLeast_J138
      refine D_ck (decide_eq_true hq2) ?_
      refine D_bd (t_X6_getIn Tu P hTu hP) (fun Tu_48 eq50 hq49 => ?_)
      obtain ⟨p51, p52⟩ : (iR BT Tu_48) ∧ (Tu_48 0 0 = (Tu 0 0)) := hq49
      have n53 : 0 ≤ (Tu_48 0 0).toInt ∧ (Tu_48 0 0).toInt ≤ 21 := p51 0 0
      have kz54 : (Tu_48 0 0).toInt = (Tu 0 0).toInt := congrArg Int32.toInt p52
      refine D_bd (t_X7_comingLeft pa qa X Tu_48 x1 hX p51 ⟨(by clear hx2 hx4 hvs hus hN68 hN99 hN n46 n53 kz54; omega), (by clear hx2 hx4 hvs hus hN68 hN99 hN n46 n53 kz54; omega)⟩) (fun r55 eq57 hq56 => ?_)
      have p58 : 0 ≤ r55.toInt ∧ r55.toInt ≤ 1 := hq56
      refine D_ite (fun c59 => ?_) (fun c59 => ?_)
      · have kc59 := tq_eq (x := r55) (y := (0 : Int32)) rfl (b := 0) (by decide) c59
        refine D_bd2 (t_X6_wayOn Tu_48 P L p51 hP (by first | assumption | exact (by clear hx1 hx2 hx4 hvs hx5 hN68 hN99 hN kc47 p58 kc59; omega))) (fun Tu_60 L_61 eq63 hq62 => ?_)
        refine D_lte (y := Tu_60) rfl ?_
        refine D_lte (y := L_61) rfl ?_
        obtain ⟨p64, p65⟩ : (iR BT Tu_60) ∧ ((Tu_60 0 0).toInt = (Tu_48 0 0).toInt + 1) := hq62
        refine D_bd2 (t_X6_runToEnd Tu_60 P L_61 p64 hP) (fun Tu_66 L_67 eq69 hq68 => ?_)
        refine D_lte (y := Tu_66) rfl ?_
        refine D_lte (y := L_67) rfl ?_
        have p70 : iR BT Tu_66 := hq68
        refine D_lt (fun y71 ey71 => ?_)
        have n72 := i_rng ((((Tu_66 0 1) - (Tn 0 1)) * 1024) + x4)
        have hy71 : y71.toInt = ((((Tu_66 0 1) - (Tn 0 1)) * 1024) + x4).toInt := by rw [ey71]
        have n74 := i_rng x3
        refine D_ite (fun c73 => ?_) (fun c73 => ?_)
        · have kc73 := tq_lt (x := x3) (y := (0 : Int32)) rfl (b := 0) (by decide) c73
          have n76 : (x4 + 1).toInt = x4.toInt + 1 := i_addK rfl (by decide) (by clear hx1 hx2 hvs hx5 hus hN68 hN99 hN n46 kc47 n53 kz54 p58 kc59 p65 n72 hy71 n74 kc73; omega) (by clear hx1 hx2 hvs hx5 hus hN68 hN99 hN n46 kc47 n53 kz54 p58 kc59 p65 n72 hy71 n74 kc73; omega)
          refine D_lt (fun y75 ey75 => ?_)
          have hy75 : y75.toInt = (x4 + 1 : Int32).toInt := by rw [ey75]
          exact hk68 y71 y75 L_67 Tu_66 (pa 0) rfl p70 ⟨(by clear hx1 hx2 hvs hx5 hus hN68 hN99 hN n46 kc47 n53 kz54 p58 kc59 p65 n72 hy71 n74 kc73; omega), (by clear hx1 hx2 hvs hx5 hus hN68 hN99 hN n46 kc47 n53 kz54 p58 kc59 p65 n72 hy71 n74 kc73; omega)⟩ (by clear hx1 hx2 hvs hx5 hus hN99 hN n46 kc47 n53 kz54 p58 kc59 p65 n72 hy71 n74 kc73; omega)
        · have kc73 := tq_ltn (x := x3) (y := (0 : Int32)) rfl (b := 0) (by decide) c73
          refine D_ite (fun c77 => ?_) (fun c77 => ?_)
          · have kc77 := tq_le (x := x3) (y := y71) rfl rfl c77
            have n79 : (x4 + 1).toInt = x4.toInt + 1 := i_addK rfl (by decide) (by clear hx1 hx2 hvs hx5 hus hN68 hN99 hN n46 kc47 n53 kz54 p58 kc59 p65 n72 hy71 n74 kc73 kc77; omega) (by clear hx1 hx2 hvs hx5 hus hN68 hN99 hN n46 kc47 n53 kz54 p58 kc59 p65 n72 hy71 n74 kc73 kc77; omega)
            refine D_lt (fun y78 ey78 => ?_)
            have hy78 : y78.toInt = (x4 + 1 : Int32).toInt := by rw [ey78]
            exact hk68 x3 y78 L_67 Tu_66 (pa 0) rfl p70 ⟨(by clear hx1 hx2 hvs hx5 hus hN68 hN99 hN n46 kc47 n53 kz54 p58 kc59 p65 n72 hy71 n74 kc73 kc77; omega), (by clear hx1 hx2 hvs hx5 hus hN68 hN99 hN n46 kc47 n53 kz54 p58 kc59 p65 n72 hy71 n74 kc73 kc77; omega)⟩ (by clear hx1 hx2 hvs hx5 hus hN99 hN n46 kc47 n53 kz54 p58 kc59 p65 n72 hy71 n74 kc73 kc77; omega)
          · have kc77 := tq_len (x := x3) (y := y71) rfl rfl c77
            have n81 : (x4 + 1).toInt = x4.toInt + 1 := i_addK rfl (by decide) (by clear hx1 hx2 hvs hx5 hus hN68 hN99 hN n46 kc47 n53 kz54 p58 kc59 p65 n72 hy71 n74 kc73 kc77; omega) (by clear hx1 hx2 hvs hx5 hus hN68 hN99 hN n46 kc47 n53 kz54 p58 kc59 p65 n72 hy71 n74 kc73 kc77; omega)
            refine D_lt (fun y80 ey80 => ?_)
            have hy80 : y80.toInt = (x4 + 1 : Int32).toInt := by rw [ey80]
            exact hk68 y71 y80 L_67 Tu_66 (pa 0) rfl p70 ⟨(by clear hx1 hx2 hvs hx5 hus hN68 hN99 hN n46 kc47 n53 kz54 p58 kc59 p65 n72 hy71 n74 kc73 kc77; omega), (by clear hx1 hx2 hvs hx5 hus hN68 hN99 hN n46 kc47 n53 kz54 p58 kc59 p65 n72 hy71 n74 kc73 kc77; omega)⟩ (by clear hx1 hx2 hvs hx5 hus hN99 hN n46 kc47 n53 kz54 p58 kc59 p65 n72 hy71 n74 kc73 kc77; omega)
      · have kc590 := tq_eqn (x := r55) (y := (0 : Int32)) rfl (b := 0) (by decide) c59
        have kc59 : 1 ≤ r55.toInt := (by clear hx1 hx2 hx4 hvs hx5 hus hN68 hN99 hN n46 kc47 n53 kz54; omega)
        clear kc590
        have n83 : (x4 + 1).toInt = x4.toInt + 1 := i_addK rfl (by decide) (by clear hx1 hx2 hvs hx5 hus hN68 hN99 hN n46 kc47 n53 kz54 p58 kc59; omega) (by clear hx1 hx2 hvs hx5 hus hN68 hN99 hN n46 kc47 n53 kz54 p58 kc59; omega)
        refine D_lt (fun y82 ey82 => ?_)
        have hy82 : y82.toInt = (x4 + 1 : Int32).toInt := by rw [ey82]
        have n84 := i_rng x3
        exact hk68 x3 y82 L Tu_48 (pa 0) rfl p51 ⟨(by clear hx1 hx2 hvs hx5 hus hN68 hN99 hN n46 kc47 n53 kz54 p58 kc59 n84; omega), (by clear hx1 hx2 hvs hx5 hus hN68 hN99 hN n46 kc47 n53 kz54 p58 kc59 n84; omega)⟩ (by clear hx1 hx2 hvs hx5 hus hN99 hN n46 kc47 n53 kz54 p58 kc59 n84; omega)
    · have kc47 := tq_len (x := x1) (y := x5) rfl rfl c47
      refine D_ck (okI_of (by clear hx2 hx4 hvs hus hN68 hN99 hN n46; omega) (by clear hx2 hx4 hvs hus hN68 hN99 hN n46; omega)) ?_
      have n85 : (x1 - 1).toInt = x1.toInt - 1 := i_subK rfl (by decide) (by clear hx2 hx4 hvs hus hN68 hN99 hN n46; omega) (by clear hx2 hx4 hvs hus hN68 hN99 hN n46; omega)
      have n86 : ((x1 - 1) - x5).toInt = (x1 - 1).toInt - x5.toInt := i_subK rfl rfl (by clear hx2 hx4 hvs hus hN68 hN99 hN n46; omega) (by clear hx2 hx4 hvs hus hN68 hN99 hN n46; omega)
      refine D_bd (t_X7_digit pa qa P q4 x4 ((x1 - 1) - x5) hP ⟨(by clear hx1 hx2 hvs hx5 hus hN68 hN99 hN n46 kc47 n85 n86; omega), (by clear hx1 hx2 hvs hx5 hus hN68 hN99 hN n46 kc47 n85 n86; omega)⟩ ⟨(by clear hx2 hx4 hvs hus hN68 hN99 hN n46; omega), (by clear hx2 hx4 hvs hus hN68 hN99 hN n46; omega)⟩ hq4) (fun r87 eq89 hq88 => ?_)
      have p90 : (-1) ≤ r87.toInt ∧ r87.toInt ≤ 4 := hq88
      have n91 : 0 ≤ (X 10 x5.toNatClampNeg).toInt ∧ (X 10 x5.toNatClampNeg).toInt ≤ 9 := hX 10 x5.toNatClampNeg
      refine D_ck (okI_of (by clear hx1 hx2 hx4 hvs hx5 hus hN68 hN99 hN n46 kc47 n85 n86 p90; omega) (by clear hx1 hx2 hx4 hvs hx5 hus hN68 hN99 hN n46 kc47 n85 n86 p90; omega)) ?_
      refine D_lt (fun Tu_92 eTu_92 => ?_)
      have hTu_92 : iR BT Tu_92 := by rw [eTu_92]; exact iR_set hTu (show ((-1) : Int) ≤ _ from (by clear hx1 hx2 hx4 hvs hx5 hus hN68 hN99 hN n46 kc47 n85 n86 n91; omega)) (show _ ≤ (4 : Int) from (by clear hx1 hx2 hx4 hvs hx5 hus hN68 hN99 hN n46 kc47 n85 n86 n91; omega))
      have n93 : (Tu_92 0 0).toInt = (Tu 0 0).toInt := by rw [eTu_92]; rfl
      have n95 : (x5 + 1).toInt = x5.toInt + 1 := i_addK rfl (by decide) (by clear hx2 hx4 hvs hus hN68 hN99 hN n46 p90 n91 n93; omega) (by clear hx2 hx4 hvs hus hN68 hN99 hN n46 p90 n91 n93; omega)
      refine D_lt (fun y94 ey94 => ?_)
      have hy94 : y94.toInt = (x5 + 1 : Int32).toInt := by rw [ey94]
      exact hk99 y94 Tu_92 hTu_92 ⟨(by clear hx2 hx4 hvs hus hN68 hN99 hN n46 p90 n91 n93; omega), (by clear hx2 hx4 hvs hus hN68 hN99 hN n46 p90 n91 n93; omega)⟩ (by clear hx1 hx2 hx4 hvs hx5 hN68 hN99 hN kc47 n85 n86 p90 n91 n95 hy94; omega) (by clear hx2 hx4 hvs hus hN68 n46 p90 n91 n93; omega)
set_option maxHeartbeats 1000000 in
set_option maxRecDepth 100000 in
theorem tl_X7_findLeast_L68 (pa : Nat → Nat) (qa : Nat → Nat) (X : Tr) (P : Tr) (Tn : Tr) (Tv : Tr) (q0 : Nat) (q3 : Nat) (q4 : Nat) (x1 : Int32) (x2 : Int32) (hX : iR BX X) (hP : iR BP P) (hTn : iR BT Tn) (hTv : iR BT Tv) (hq0 : q0 = pa 0) (hq3 : q3 = pa 0) (hq4 : q4 = pa 0) (hx1 : 0 ≤ x1.toInt ∧ x1.toInt ≤ 4) (hx2 : 0 ≤ x2.toInt ∧ x2.toInt ≤ 625) (hvs : (Tv 0 0).toInt ≤ 20)   (N : Nat) : ∀ (x3 : Int32) (x4 : Int32) (L : Lo) (Tu : Tr) (q2 : Nat), q2 = pa 0 → iR BT Tu → 0 ≤ x4.toInt ∧ x4.toInt ≤ 1000 → 1000 - x4.toInt < (N : Int) → D (lpF (fun _ _ _ _ _ => none) (fB_X7_findLeast_L68 pa qa X P Tn Tv q0 q3 q4 x1 x2) N x3 x4 L Tu q2) (fun (q : Int32 × Lo × Tr × Tr × Nat × Nat) => (iR BT (q.2.2.1)) ∧ (iR BT (q.2.2.2.1))) := by
  induction N with
  | zero =>
    intro x3 x4 L Tu q2 hq2 hTu hx4 hN
    exfalso
    omega
  | succ N68 ih =>
    intro x3 x4 L Tu q2 hq2 hTu hx4 hN
    have hk68 : ∀ (x3 : Int32) (x4 : Int32) (L : Lo) (Tu : Tr) (q2 : Nat), q2 = pa 0 → iR BT Tu → 0 ≤ x4.toInt ∧ x4.toInt ≤ 1000 → 1000 - x4.toInt < (N68 : Int) → D (lpF (fun _ _ _ _ _ => none) (fB_X7_findLeast_L68 pa qa X P Tn Tv q0 q3 q4 x1 x2) N68 x3 x4 L Tu q2) (fun (q : Int32 × Lo × Tr × Tr × Nat × Nat) => (iR BT (q.2.2.1)) ∧ (iR BT (q.2.2.2.1))) := ih
    show D (fB_X7_findLeast_L68 pa qa X P Tn Tv q0 q3 q4 x1 x2 (lpF (fun _ _ _ _ _ => none) (fB_X7_findLeast_L68 pa qa X P Tn Tv q0 q3 q4 x1 x2) N68) x3 x4 L Tu q2) _
    generalize lpF (fun _ _ _ _ _ => none) (fB_X7_findLeast_L68 pa qa X P Tn Tv q0 q3 q4 x1 x2) N68 = k68 at hk68 ⊢
    have hN68 : 1000 - x4.toInt < (N68 : Int) + 1 := by omega
    clear ih
    unfold fB_X7_findLeast_L68
    refine D_ite (fun c32 => ?_) (fun c32 => ?_)
    · have kc32 := tq_le (x := x2) (y := x4) rfl rfl c32
      have n33 := i_rng x3
      exact D_some (show (iR BT Tu) ∧ (iR BT Tv) from ⟨hTu, hTv⟩)
    · have kc32 := tq_len (x := x2) (y := x4) rfl rfl c32
      have n35 := i_rng x3
      refine D_ite (fun c34 => ?_) (fun c34 => ?_)
      · have kc34 := tq_lt (x := x3) (y := (0 : Int32)) rfl (b := 0) (by decide) c34
        unfold fJ_X7_findLeast_J85
        refine D_bd2 (t_X6_copy Tu Tv q2 q3 hTu hTv) (fun Tu_36 q2_37 eq39 hq38 => ?_)
        refine D_lte (y := Tu_36) rfl ?_
        refine D_lte (y := q2_37) rfl ?_
        obtain ⟨p40, p41, p42⟩ : (iR BT Tu_36) ∧ (q2_37 = q3) ∧ (Tu_36 0 0 = Tv 0 0) := hq38
        have n43 : 0 ≤ (Tu_36 0 0).toInt ∧ (Tu_36 0 0).toInt ≤ 21 := p40 0 0
        have n44 : 0 ≤ (Tv 0 0).toInt ∧ (Tv 0 0).toInt ≤ 21 := hTv 0 0
        have kz45 : (Tu_36 0 0).toInt = (Tv 0 0).toInt := congrArg Int32.toInt p42
        have l0 : (0 : Int32).toInt = 0 := by decide
        exact tl_X7_findLeast_L99 pa qa X P L Tn Tv q0 q2_37 q3 q4 x1 x2 x3 x4 N68 hX hP hTn hTv hq0 (p41.trans hq3) hq3 hq4 ⟨(by clear hx2 hvs hx4 hN68 hN kc32 n35 kc34 n43 n44 kz45; omega), (by clear hx2 hvs hx4 hN68 hN kc32 n35 kc34 n43 n44 kz45; omega)⟩ ⟨(by clear hx1 hvs hN68 hN n35 kc34 n43 n44 kz45; omega), (by clear hx1 hvs hN68 hN n35 kc34 n43 n44 kz45; omega)⟩ ⟨(by clear hx1 hvs hN68 hN n35 kc34 n43 n44 kz45; omega), (by clear hx1 hvs hN68 hN n35 kc34 n43 n44 kz45; omega)⟩ (by clear hx1 hx2 hx4 hN68 hN kc32 n35 kc34; omega) hN68 k68 hk68 2000 (0 : Int32) Tu_36 p40 ⟨(by clear hx1 hx2 hvs hx4 hN68 hN kc32 n35 kc34 n43 n44 kz45; omega), (by clear hx1 hx2 hvs hx4 hN68 hN kc32 n35 kc34 n43 n44 kz45; omega)⟩ (by clear hx1 hx2 hx4 hN68 hN kc32 n35 kc34; omega) (by clear hx1 hx2 hvs hx4 hN68 hN kc32 n35 kc34 n43 n44 kz45; omega)
      · have kc34 := tq_ltn (x := x3) (y := (0 : Int32)) rfl (b := 0) (by decide) c34
        refine D_ite (fun c96 => ?_) (fun c96 => ?_)
        · have kc96 := tq_lt (x := x3) (y := (1024 : Int32)) rfl (b := 1024) (by decide) c96
          exact D_some (show (iR BT Tu) ∧ (iR BT Tv) from ⟨hTu, hTv⟩)
        · have kc96 := tq_ltn (x := x3) (y := (1024 : Int32)) rfl (b := 1024) (by decide) c96
          unfold fJ_X7_findLeast_J85
          refine D_bd2 (t_X6_copy Tu Tv q2 q3 hTu hTv) (fun Tu_97 q2_98 eq100 hq99 => ?_)
          refine D_lte (y := Tu_97) rfl ?_
          refine D_lte (y := q2_98) rfl ?_
          obtain ⟨p101, p102, p103⟩ : (iR BT Tu_97) ∧ (q2_98 = q3) ∧ (Tu_97 0 0 = Tv 0 0) := hq99
          have n104 : 0 ≤ (Tu_97 0 0).toInt ∧ (Tu_97 0 0).toInt ≤ 21 := p101 0 0
          have n105 : 0 ≤ (Tv 0 0).toInt ∧ (Tv 0 0).toInt ≤ 21 := hTv 0 0
          have kz106 : (Tu_97 0 0).toInt = (Tv 0 0).toInt := congrArg Int32.toInt p103
          have l0 : (0 : Int32).toInt = 0 := by decide
          exact tl_X7_findLeast_L99 pa qa X P L Tn Tv q0 q2_98 q3 q4 x1 x2 x3 x4 N68 hX hP hTn hTv hq0 (p102.trans hq3) hq3 hq4 ⟨(by clear hx2 hvs hx4 hN68 hN kc32 n35 kc34 kc96 n104 n105 kz106; omega), (by clear hx2 hvs hx4 hN68 hN kc32 n35 kc34 kc96 n104 n105 kz106; omega)⟩ ⟨(by clear hx1 hvs hN68 hN n35 kc34 kc96 n104 n105 kz106; omega), (by clear hx1 hvs hN68 hN n35 kc34 kc96 n104 n105 kz106; omega)⟩ ⟨(by clear hx1 hvs hN68 hN n35 kc34 kc96 n104 n105 kz106; omega), (by clear hx1 hvs hN68 hN n35 kc34 kc96 n104 n105 kz106; omega)⟩ (by clear hx1 hx2 hx4 hN68 hN kc32 n35 kc34 kc96; omega) hN68 k68 hk68 2000 (0 : Int32) Tu_97 p101 ⟨(by clear hx1 hx2 hvs hx4 hN68 hN kc32 n35 kc34 kc96 n104 n105 kz106; omega), (by clear hx1 hx2 hvs hx4 hN68 hN kc32 n35 kc34 kc96 n104 n105 kz106; omega)⟩ (by clear hx1 hx2 hx4 hN68 hN kc32 n35 kc34 kc96; omega) (by clear hx1 hx2 hvs hx4 hN68 hN kc32 n35 kc34 kc96 n104 n105 kz106; omega)
set_option maxHeartbeats 1000000 in
set_option maxRecDepth 100000 in
theorem tl_X7_findLeast_L4 (pa : Nat → Nat) (qa : Nat → Nat) (X : Tr) (P : Tr) (L : Lo) (Tn : Tr) (Tu : Tr) (Tv : Tr) (q0 : Nat) (q2 : Nat) (q3 : Nat) (q4 : Nat) (x1 : Int32) (hX : iR BX X) (hP : iR BP P) (hTn : iR BT Tn) (hTu : iR BT Tu) (hTv : iR BT Tv) (hq0 : q0 = pa 0) (hq4 : q4 = pa 0) (hx1 : 0 ≤ x1.toInt ∧ x1.toInt ≤ 4) (hns : (Tn 0 0).toInt ≤ 20)   (N : Nat) : ∀ (x2 : Int32) (x3 : Int32), 0 ≤ x3.toInt ∧ x3.toInt ≤ 1000 → 0 ≤ x2.toInt ∧ (x3.toInt = 0 ∧ x2.toInt ≤ 1 ∨ x3.toInt = 1 ∧ x2.toInt ≤ 5 ∨ x3.toInt = 2 ∧ x2.toInt ≤ 25 ∨ x3.toInt = 3 ∧ x2.toInt ≤ 125 ∨ x3.toInt = 4 ∧ x2.toInt ≤ 625) → 1000 - x3.toInt < (N : Int) → D (lpF (fun _ _ => none) (fB_X7_findLeast_L4 pa qa X P L Tn Tu Tv q0 q2 q3 q4 x1) N x2 x3) (fun (q : Int32 × Lo × Tr × Tr × Nat × Nat) => (iR BT (q.2.2.1)) ∧ (iR BT (q.2.2.2.1))) := by
  induction N with
  | zero =>
    intro x2 x3 hx3 hp hN
    exfalso
    omega
  | succ N4 ih =>
    intro x2 x3 hx3 hp hN
    have hk4 : ∀ (x2 : Int32) (x3 : Int32), 0 ≤ x3.toInt ∧ x3.toInt ≤ 1000 → 0 ≤ x2.toInt ∧ (x3.toInt = 0 ∧ x2.toInt ≤ 1 ∨ x3.toInt = 1 ∧ x2.toInt ≤ 5 ∨ x3.toInt = 2 ∧ x2.toInt ≤ 25 ∨ x3.toInt = 3 ∧ x2.toInt ≤ 125 ∨ x3.toInt = 4 ∧ x2.toInt ≤ 625) → 1000 - x3.toInt < (N4 : Int) → D (lpF (fun _ _ => none) (fB_X7_findLeast_L4 pa qa X P L Tn Tu Tv q0 q2 q3 q4 x1) N4 x2 x3) (fun (q : Int32 × Lo × Tr × Tr × Nat × Nat) => (iR BT (q.2.2.1)) ∧ (iR BT (q.2.2.2.1))) := ih
    show D (fB_X7_findLeast_L4 pa qa X P L Tn Tu Tv q0 q2 q3 q4 x1 (lpF (fun _ _ => none) (fB_X7_findLeast_L4 pa qa X P L Tn Tu Tv q0 q2 q3 q4 x1) N4) x2 x3) _
    generalize lpF (fun _ _ => none) (fB_X7_findLeast_L4 pa qa X P L Tn Tu Tv q0 q2 q3 q4 x1) N4 = k4 at hk4 ⊢
    have hN4 : 1000 - x3.toInt < (N4 : Int) + 1 := by omega
    clear ih
    unfold fB_X7_findLeast_L4
    refine D_ite (fun c1 => ?_) (fun c1 => ?_)
    · have kc1 := tq_le (x := x1) (y := x3) rfl rfl c1
      unfold fJ_X7_findLeast_J25
      refine D_bd2 (t_X7_startTrial pa qa Tn Tu q0 q2 hTn hTu) (fun Tu_2 q2_3 eq5 hq4 => ?_)
      refine D_lte (y := Tu_2) rfl ?_
      refine D_lte (y := q2_3) rfl ?_
      obtain ⟨p6, p7, p8⟩ : (iR BT Tu_2) ∧ (q2_3 = q0) ∧ (Tu_2 0 0 = Tn 0 0) := hq4
      have n9 : 0 ≤ (Tu_2 0 0).toInt ∧ (Tu_2 0 0).toInt ≤ 21 := p6 0 0
      have n10 : 0 ≤ (Tn 0 0).toInt ∧ (Tn 0 0).toInt ≤ 21 := hTn 0 0
      have kz11 : (Tu_2 0 0).toInt = (Tn 0 0).toInt := congrArg Int32.toInt p8
      refine D_ck (decide_eq_true hq4) ?_
      refine D_ck (okI_of (by clear hx1 hx3 hp hN4 hN kc1; omega) (by clear hx1 hx3 hp hN4 hN kc1; omega)) ?_
      refine D_ck (decide_eq_true (p7.trans hq0)) ?_
      have n12 := i_rng (P 18 (Tn 0 0).toNatClampNeg)
      refine D_bd3 (t_X6_takeDown Tu_2 P L (P 18 (Tn 0 0).toNatClampNeg) p6 hP) (fun r13 Tu_14 L_15 eq17 hq16 => ?_)
      refine D_lte (y := r13) rfl ?_
      refine D_lte (y := Tu_14) rfl ?_
      refine D_lte (y := L_15) rfl ?_
      obtain ⟨p18, p19⟩ : (iR BT Tu_14) ∧ (Tu_14 0 0 = (Tu_2 0 0)) := hq16
      have n20 := i_rng r13
      have n21 : 0 ≤ (Tu_14 0 0).toInt ∧ (Tu_14 0 0).toInt ≤ 21 := p18 0 0
      have kz22 : (Tu_14 0 0).toInt = (Tu_2 0 0).toInt := congrArg Int32.toInt p19
      refine D_bd2 (t_X6_copy Tv Tu_14 q3 (pa 0) hTv p18) (fun Tv_23 q3_24 eq26 hq25 => ?_)
      refine D_lte (y := Tv_23) rfl ?_
      refine D_lte (y := q3_24) rfl ?_
      obtain ⟨p27, p28, p29⟩ : (iR BT Tv_23) ∧ (q3_24 = (pa 0)) ∧ (Tv_23 0 0 = Tu_14 0 0) := hq25
      have n30 : 0 ≤ (Tv_23 0 0).toInt ∧ (Tv_23 0 0).toInt ≤ 21 := p27 0 0
      have kz31 : (Tv_23 0 0).toInt = (Tu_14 0 0).toInt := congrArg Int32.toInt p29
      have lm1 : ((-1) : Int32).toInt = (-1) := by decide
      have l0 : (0 : Int32).toInt = 0 := by decide
      have n107 := i_rng x2
      exact tl_X7_findLeast_L68 pa qa X P Tn Tv_23 q0 q3_24 (pa 0) x1 x2 hX hP hTn p27 hq0 p28 rfl ⟨(by clear hns hN4 hN n9 n10 kz11 n12 n20 n21 kz22 n30 kz31; omega), (by clear hns hN4 hN n9 n10 kz11 n12 n20 n21 kz22 n30 kz31; omega)⟩ ⟨(by clear hns hN4 hN n9 n10 kz11 n12 n20 n21 kz22 n30 kz31; omega), (by clear hns hN4 hN n9 n10 kz11 n12 n20 n21 kz22 n30 kz31; omega)⟩ (by clear hx1 hx3 hp hN4 hN kc1 n12 n20 n107; omega)   2000 ((-1) : Int32) (0 : Int32) L_15 Tu_14 (pa 0) rfl p18 ⟨(by clear hx1 hns hx3 hp hN4 hN kc1 n9 n10 kz11 n12 n20 n21 kz22 n30 kz31 n107; omega), (by clear hx1 hns hx3 hp hN4 hN kc1 n9 n10 kz11 n12 n20 n21 kz22 n30 kz31 n107; omega)⟩ (by clear hx1 hns hx3 hp hN4 hN kc1 n9 n10 kz11 n12 n20 n21 kz22 n30 kz31 n107; omega)
    · have kc1 := tq_len (x := x1) (y := x3) rfl rfl c1
      refine D_ck (decide_eq_true hq4) ?_
      have n108 : 0 ≤ (P 0 0).toInt ∧ (P 0 0).toInt ≤ 5 := hP 0 0
      have n109 := i_mul5 (a := x2) (b := (P 0 0)) (by omega) (by omega) (by omega) (by omega)
      refine D_lt (fun y110 ey110 => ?_)
      have hy110 : y110.toInt = (x2 * (P 0 0)).toInt := by rw [ey110]
      have n112 : (x3 + 1).toInt = x3.toInt + 1 := i_addK rfl (by decide) (by clear hns hN4 hN n108 hy110; omega) (by clear hns hN4 hN n108 hy110; omega)
      refine D_lt (fun y111 ey111 => ?_)
      have hy111 : y111.toInt = (x3 + 1 : Int32).toInt := by rw [ey111]
      exact hk4 y110 y111 ⟨(by clear hns hN4 hN n108 hy110; omega), (by clear hns hN4 hN n108 hy110; omega)⟩ (by clear hns hN4 hN n108; omega) (by clear hns n108 hy110; omega)
set_option maxHeartbeats 1000000 in
set_option maxRecDepth 100000 in
theorem t_X7_findLeast (pa : Nat → Nat) (qa : Nat → Nat) (X : Tr) (P : Tr) (L : Lo) (Tn : Tr) (Tu : Tr) (Tv : Tr) (q0 : Nat) (q2 : Nat) (q3 : Nat) (q4 : Nat) (x1 : Int32) (hX : iR BX X) (hP : iR BP P) (hTn : iR BT Tn) (hTu : iR BT Tu) (hTv : iR BT Tv) (hx1 : 0 ≤ x1.toInt ∧ x1.toInt ≤ 4) (hq0 : q0 = pa 0) (hq4 : q4 = pa 0) (hns : (Tn 0 0).toInt ≤ 20) : D (f_X7_findLeast pa qa X P L Tn Tu Tv q0 q2 q3 q4 x1) (fun (q : Int32 × Lo × Tr × Tr × Nat × Nat) => (iR BT (q.2.2.1)) ∧ (iR BT (q.2.2.2.1))) := by
  unfold f_X7_findLeast
  have l1 : (1 : Int32).toInt = 1 := by decide
  have l0 : (0 : Int32).toInt = 0 := by decide
  have n113 : 0 ≤ (Tn 0 0).toInt ∧ (Tn 0 0).toInt ≤ 21 := hTn 0 0
  exact tl_X7_findLeast_L4 pa qa X P L Tn Tu Tv q0 q2 q3 q4 x1 hX hP hTn hTu hTv hq0 hq4 ⟨(by omega), (by omega)⟩ (by omega)   2000 (1 : Int32) (0 : Int32) ⟨(by clear hx1 hns n113; omega), (by clear hx1 hns n113; omega)⟩ (by clear hx1 hns n113; omega) (by clear hx1 hns n113; omega)
set_option maxHeartbeats 1000000 in
set_option maxRecDepth 100000 in
theorem tl_X7_findMine_L5 (pa : Nat → Nat) (qa : Nat → Nat) (P : Tr) (Tn : Tr) (q0 : Nat) (q4 : Nat) (x1 : Int32) (x2 : Int32) (hP : iR BP P) (hTn : iR BT Tn) (hq0 : q0 = pa 0) (hq4 : q4 = pa 0) (hx1 : 0 ≤ x1.toInt ∧ x1.toInt ≤ 9) (hns : (Tn 0 0).toInt ≤ 20)   (N : Nat) : ∀ (x3 : Int32) (x4 : Int32) (L : Lo) (Tu : Tr) (q2 : Nat), iR BT Tu → 0 ≤ x4.toInt ∧ x4.toInt ≤ 1000 → 1000 - x4.toInt < (N : Int) → D (lpF (fun _ _ _ _ _ => none) (fB_X7_findMine_L5 pa qa P Tn q0 q4 x1 x2) N x3 x4 L Tu q2) (fun (q : Int32 × Lo × Tr × Nat) => (iR BT (q.2.2.1))) := by
  induction N with
  | zero =>
    intro x3 x4 L Tu q2 hTu hx4 hN
    exfalso
    omega
  | succ N5 ih =>
    intro x3 x4 L Tu q2 hTu hx4 hN
    have hk5 : ∀ (x3 : Int32) (x4 : Int32) (L : Lo) (Tu : Tr) (q2 : Nat), iR BT Tu → 0 ≤ x4.toInt ∧ x4.toInt ≤ 1000 → 1000 - x4.toInt < (N5 : Int) → D (lpF (fun _ _ _ _ _ => none) (fB_X7_findMine_L5 pa qa P Tn q0 q4 x1 x2) N5 x3 x4 L Tu q2) (fun (q : Int32 × Lo × Tr × Nat) => (iR BT (q.2.2.1))) := ih
    show D (fB_X7_findMine_L5 pa qa P Tn q0 q4 x1 x2 (lpF (fun _ _ _ _ _ => none) (fB_X7_findMine_L5 pa qa P Tn q0 q4 x1 x2) N5) x3 x4 L Tu q2) _
    generalize lpF (fun _ _ _ _ _ => none) (fB_X7_findMine_L5 pa qa P Tn q0 q4 x1 x2) N5 = k5 at hk5 ⊢
    have hN5 : 1000 - x4.toInt < (N5 : Int) + 1 := by omega
    clear ih
    unfold fB_X7_findMine_L5
    refine D_ck (decide_eq_true hq4) ?_
    have n2 : 0 ≤ (P 0 0).toInt ∧ (P 0 0).toInt ≤ 5 := hP 0 0
    refine D_ite (fun c1 => ?_) (fun c1 => ?_)
    · have kc1 := tq_le (x := (P 0 0)) (y := x4) rfl rfl c1
      have n3 := i_rng x3
      exact D_some (show (iR BT Tu) from hTu)
    · have kc1 := tq_len (x := (P 0 0)) (y := x4) rfl rfl c1
      refine D_bd2 (t_X7_startTrial pa qa Tn Tu q0 q2 hTn hTu) (fun Tu_4 q2_5 eq7 hq6 => ?_)
      refine D_lte (y := Tu_4) rfl ?_
      refine D_lte (y := q2_5) rfl ?_
      obtain ⟨p8, p9, p10⟩ : (iR BT Tu_4) ∧ (q2_5 = q0) ∧ (Tu_4 0 0 = Tn 0 0) := hq6
      have n11 : 0 ≤ (Tu_4 0 0).toInt ∧ (Tu_4 0 0).toInt ≤ 21 := p8 0 0
      have n12 : 0 ≤ (Tn 0 0).toInt ∧ (Tn 0 0).toInt ≤ 21 := hTn 0 0
      have kz13 : (Tu_4 0 0).toInt = (Tn 0 0).toInt := congrArg Int32.toInt p10
      refine D_ck (okI_of (by clear hns hx4 hN5 hN n2 kc1 n11 n12 kz13; omega) (by clear hns hx4 hN5 hN n2 kc1 n11 n12 kz13; omega)) ?_
      refine D_lt (fun Tu_14 eTu_14 => ?_)
      have hTu_14 : iR BT Tu_14 := by rw [eTu_14]; exact iR_set p8 (show ((-1) : Int) ≤ _ from (by clear hx1 hns hN5 hN n11 n12 kz13; omega)) (show _ ≤ (4 : Int) from (by clear hx1 hns hN5 hN n11 n12 kz13; omega))
      have n15 : (Tu_14 0 0).toInt = (Tu_4 0 0).toInt := by rw [eTu_14]; rfl
      refine D_ck (okI_of (by clear hx1 hx4 hN5 hN n2 kc1; omega) (by clear hx1 hx4 hN5 hN n2 kc1; omega)) ?_
      refine D_ck (decide_eq_true (p9.trans hq0)) ?_
      have n16 := i_rng (P 18 (Tn 0 0).toNatClampNeg)
      refine D_bd3 (t_X6_takeDown Tu_14 P L (P 18 (Tn 0 0).toNatClampNeg) hTu_14 hP) (fun r17 Tu_18 L_19 eq21 hq20 => ?_)
      refine D_lte (y := r17) rfl ?_
      refine D_lte (y := Tu_18) rfl ?_
      refine D_lte (y := L_19) rfl ?_
      obtain ⟨p22, p23⟩ : (iR BT Tu_18) ∧ (Tu_18 0 0 = (Tu_14 0 0)) := hq20
      have n24 := i_rng r17
      have n25 : 0 ≤ (Tu_18 0 0).toInt ∧ (Tu_18 0 0).toInt ≤ 21 := p22 0 0
      have kz26 : (Tu_18 0 0).toInt = (Tu_14 0 0).toInt := congrArg Int32.toInt p23
      refine D_bd (t_X6_getIn Tu_18 P p22 hP) (fun Tu_27 eq29 hq28 => ?_)
      obtain ⟨p30, p31⟩ : (iR BT Tu_27) ∧ (Tu_27 0 0 = (Tu_18 0 0)) := hq28
      have n32 : 0 ≤ (Tu_27 0 0).toInt ∧ (Tu_27 0 0).toInt ≤ 21 := p30 0 0
      have kz33 : (Tu_27 0 0).toInt = (Tu_18 0 0).toInt := congrArg Int32.toInt p31
      have n35 := i_rng (Tu_27 14 x1.toNatClampNeg)
      refine D_ite (fun c34 => ?_) (fun c34 => ?_)
      · have kc34 := tq_eq (x := (Tu_27 14 x1.toNatClampNeg)) (y := (1 : Int32)) rfl (b := 1) (by decide) c34
        refine D_bd2 (t_X6_wayOn Tu_27 P L_19 p30 hP (by first | assumption | exact (by clear hx1 hx4 hN5 hN n2 kc1 n16 n24 n35 kc34; omega))) (fun Tu_36 L_37 eq39 hq38 => ?_)
        refine D_lte (y := Tu_36) rfl ?_
        refine D_lte (y := L_37) rfl ?_
        obtain ⟨p40, p41⟩ : (iR BT Tu_36) ∧ ((Tu_36 0 0).toInt = (Tu_27 0 0).toInt + 1) := hq38
        refine D_bd2 (t_X6_runToEnd Tu_36 P L_37 p40 hP) (fun Tu_42 L_43 eq45 hq44 => ?_)
        refine D_lte (y := Tu_42) rfl ?_
        refine D_lte (y := L_43) rfl ?_
        have p46 : iR BT Tu_42 := hq44
        have n48 := i_rng x2
        refine D_ite (fun c47 => ?_) (fun c47 => ?_)
        · have kc47 := tq_eq (x := x2) (y := (0 : Int32)) rfl (b := 0) (by decide) c47
          have n49 : 0 ≤ (P 14 x1.toNatClampNeg).toInt ∧ (P 14 x1.toNatClampNeg).toInt ≤ 5 := hP 14 x1.toNatClampNeg
          refine D_ck (okI_of (by clear hx1 hns hx4 hN5 hN n2 kc1 n11 n12 kz13 n15 n16 n24 n25 kz26 n32 kz33 n35 kc34 p41 n48 kc47; omega) (by clear hx1 hns hx4 hN5 hN n2 kc1 n11 n12 kz13 n15 n16 n24 n25 kz26 n32 kz33 n35 kc34 p41 n48 kc47; omega)) ?_
          unfold fJ_X7_findMine_J128
          refine D_lt (fun y50 ey50 => ?_)
          have n51 := i_rng (((Tu_42 12 (P 14 x1.toNatClampNeg).toNatClampNeg) * 5) + x4)
          have hy50 : y50.toInt = (((Tu_42 12 (P 14 x1.toNatClampNeg).toNatClampNeg) * 5) + x4).toInt := by rw [ey50]
          have n53 := i_rng x3
          refine D_ite (fun c52 => ?_) (fun c52 => ?_)
          · have kc52 := tq_lt (x := x3) (y := (0 : Int32)) rfl (b := 0) (by decide) c52
            have n55 : (x4 + 1).toInt = x4.toInt + 1 := i_addK rfl (by decide) (by clear hx1 hns hN5 hN n11 n12 kz13 n15 n16 n24 n25 kz26 n32 kz33 n35 kc34 p41 n48 kc47 n49 n51 hy50 n53 kc52; omega) (by clear hx1 hns hN5 hN n11 n12 kz13 n15 n16 n24 n25 kz26 n32 kz33 n35 kc34 p41 n48 kc47 n49 n51 hy50 n53 kc52; omega)
            refine D_lt (fun y54 ey54 => ?_)
            have hy54 : y54.toInt = (x4 + 1 : Int32).toInt := by rw [ey54]
            exact hk5 y50 y54 L_43 Tu_42 (pa 0) p46 ⟨(by clear hx1 hns hN5 hN n11 n12 kz13 n15 n16 n24 n25 kz26 n32 kz33 n35 kc34 p41 n48 kc47 n49 n51 hy50 n53 kc52; omega), (by clear hx1 hns hN5 hN n11 n12 kz13 n15 n16 n24 n25 kz26 n32 kz33 n35 kc34 p41 n48 kc47 n49 n51 hy50 n53 kc52; omega)⟩ (by clear hx1 hns n11 n12 kz13 n15 n16 n24 n25 kz26 n32 kz33 n35 kc34 p41 n48 kc47 n49 n51 hy50 n53 kc52; omega)
          · have kc52 := tq_ltn (x := x3) (y := (0 : Int32)) rfl (b := 0) (by decide) c52
            refine D_ite (fun c56 => ?_) (fun c56 => ?_)
            · have kc56 := tq_le (x := x3) (y := y50) rfl rfl c56
              have n58 : (x4 + 1).toInt = x4.toInt + 1 := i_addK rfl (by decide) (by clear hx1 hns hN5 hN n11 n12 kz13 n15 n16 n24 n25 kz26 n32 kz33 n35 kc34 p41 n48 kc47 n49 n51 hy50 n53 kc52 kc56; omega) (by clear hx1 hns hN5 hN n11 n12 kz13 n15 n16 n24 n25 kz26 n32 kz33 n35 kc34 p41 n48 kc47 n49 n51 hy50 n53 kc52 kc56; omega)
              refine D_lt (fun y57 ey57 => ?_)
              have hy57 : y57.toInt = (x4 + 1 : Int32).toInt := by rw [ey57]
              exact hk5 x3 y57 L_43 Tu_42 (pa 0) p46 ⟨(by clear hx1 hns hN5 hN n11 n12 kz13 n15 n16 n24 n25 kz26 n32 kz33 n35 kc34 p41 n48 kc47 n49 n51 hy50 n53 kc52 kc56; omega), (by clear hx1 hns hN5 hN n11 n12 kz13 n15 n16 n24 n25 kz26 n32 kz33 n35 kc34 p41 n48 kc47 n49 n51 hy50 n53 kc52 kc56; omega)⟩ (by clear hx1 hns n11 n12 kz13 n15 n16 n24 n25 kz26 n32 kz33 n35 kc34 p41 n48 kc47 n49 n51 hy50 n53 kc52 kc56; omega)
            · have kc56 := tq_len (x := x3) (y := y50) rfl rfl c56
              have n60 : (x4 + 1).toInt = x4.toInt + 1 := i_addK rfl (by decide) (by clear hx1 hns hN5 hN n11 n12 kz13 n15 n16 n24 n25 kz26 n32 kz33 n35 kc34 p41 n48 kc47 n49 n51 hy50 n53 kc52 kc56; omega) (by clear hx1 hns hN5 hN n11 n12 kz13 n15 n16 n24 n25 kz26 n32 kz33 n35 kc34 p41 n48 kc47 n49 n51 hy50 n53 kc52 kc56; omega)
              refine D_lt (fun y59 ey59 => ?_)
              have hy59 : y59.toInt = (x4 + 1 : Int32).toInt := by rw [ey59]
              exact hk5 y50 y59 L_43 Tu_42 (pa 0) p46 ⟨(by clear hx1 hns hN5 hN n11 n12 kz13 n15 n16 n24 n25 kz26 n32 kz33 n35 kc34 p41 n48 kc47 n49 n51 hy50 n53 kc52 kc56; omega), (by clear hx1 hns hN5 hN n11 n12 kz13 n15 n16 n24 n25 kz26 n32 kz33 n35 kc34 p41 n48 kc47 n49 n51 hy50 n53 kc52 kc56; omega)⟩ (by clear hx1 hns n11 n12 kz13 n15 n16 n24 n25 kz26 n32 kz33 n35 kc34 p41 n48 kc47 n49 n51 hy50 n53 kc52 kc56; omega)
        · skip
          unfold fJ_X7_findMine_J128
          refine D_lt (fun y61 ey61 => ?_)
          have n62 := i_rng ((((Tu_42 0 1) - (Tn 0 1)) * 5) + x4)
          have hy61 : y61.toInt = ((((Tu_42 0 1) - (Tn 0 1)) * 5) + x4).toInt := by rw [ey61]
          have n64 := i_rng x3
          refine D_ite (fun c63 => ?_) (fun c63 => ?_)
          · have kc63 := tq_lt (x := x3) (y := (0 : Int32)) rfl (b := 0) (by decide) c63
            have n66 : (x4 + 1).toInt = x4.toInt + 1 := i_addK rfl (by decide) (by clear hx1 hns hN5 hN n11 n12 kz13 n15 n16 n24 n25 kz26 n32 kz33 n35 kc34 p41 n48 n62 hy61 n64 kc63; omega) (by clear hx1 hns hN5 hN n11 n12 kz13 n15 n16 n24 n25 kz26 n32 kz33 n35 kc34 p41 n48 n62 hy61 n64 kc63; omega)
            refine D_lt (fun y65 ey65 => ?_)
            have hy65 : y65.toInt = (x4 + 1 : Int32).toInt := by rw [ey65]
            exact hk5 y61 y65 L_43 Tu_42 (pa 0) p46 ⟨(by clear hx1 hns hN5 hN n11 n12 kz13 n15 n16 n24 n25 kz26 n32 kz33 n35 kc34 p41 n48 n62 hy61 n64 kc63; omega), (by clear hx1 hns hN5 hN n11 n12 kz13 n15 n16 n24 n25 kz26 n32 kz33 n35 kc34 p41 n48 n62 hy61 n64 kc63; omega)⟩ (by clear hx1 hns n11 n12 kz13 n15 n16 n24 n25 kz26 n32 kz33 n35 kc34 p41 n48 n62 hy61 n64 kc63; omega)
          · have kc63 := tq_ltn (x := x3) (y := (0 : Int32)) rfl (b := 0) (by decide) c63
            refine D_ite (fun c67 => ?_) (fun c67 => ?_)
            · have kc67 := tq_le (x := x3) (y := y61) rfl rfl c67
              have n69 : (x4 + 1).toInt = x4.toInt + 1 := i_addK rfl (by decide) (by clear hx1 hns hN5 hN n11 n12 kz13 n15 n16 n24 n25 kz26 n32 kz33 n35 kc34 p41 n48 n62 hy61 n64 kc63 kc67; omega) (by clear hx1 hns hN5 hN n11 n12 kz13 n15 n16 n24 n25 kz26 n32 kz33 n35 kc34 p41 n48 n62 hy61 n64 kc63 kc67; omega)
              refine D_lt (fun y68 ey68 => ?_)
              have hy68 : y68.toInt = (x4 + 1 : Int32).toInt := by rw [ey68]
              exact hk5 x3 y68 L_43 Tu_42 (pa 0) p46 ⟨(by clear hx1 hns hN5 hN n11 n12 kz13 n15 n16 n24 n25 kz26 n32 kz33 n35 kc34 p41 n48 n62 hy61 n64 kc63 kc67; omega), (by clear hx1 hns hN5 hN n11 n12 kz13 n15 n16 n24 n25 kz26 n32 kz33 n35 kc34 p41 n48 n62 hy61 n64 kc63 kc67; omega)⟩ (by clear hx1 hns n11 n12 kz13 n15 n16 n24 n25 kz26 n32 kz33 n35 kc34 p41 n48 n62 hy61 n64 kc63 kc67; omega)
            · have kc67 := tq_len (x := x3) (y := y61) rfl rfl c67
              have n71 : (x4 + 1).toInt = x4.toInt + 1 := i_addK rfl (by decide) (by clear hx1 hns hN5 hN n11 n12 kz13 n15 n16 n24 n25 kz26 n32 kz33 n35 kc34 p41 n48 n62 hy61 n64 kc63 kc67; omega) (by clear hx1 hns hN5 hN n11 n12 kz13 n15 n16 n24 n25 kz26 n32 kz33 n35 kc34 p41 n48 n62 hy61 n64 kc63 kc67; omega)
              refine D_lt (fun y70 ey70 => ?_)
              have hy70 : y70.toInt = (x4 + 1 : Int32).toInt := by rw [ey70]
              exact hk5 y61 y70 L_43 Tu_42 (pa 0) p46 ⟨(by clear hx1 hns hN5 hN n11 n12 kz13 n15 n16 n24 n25 kz26 n32 kz33 n35 kc34 p41 n48 n62 hy61 n64 kc63 kc67; omega), (by clear hx1 hns hN5 hN n11 n12 kz13 n15 n16 n24 n25 kz26 n32 kz33 n35 kc34 p41 n48 n62 hy61 n64 kc63 kc67; omega)⟩ (by clear hx1 hns n11 n12 kz13 n15 n16 n24 n25 kz26 n32 kz33 n35 kc34 p41 n48 n62 hy61 n64 kc63 kc67; omega)
      · skip
        have n73 : (x4 + 1).toInt = x4.toInt + 1 := i_addK rfl (by decide) (by clear hx1 hns hN5 hN n11 n12 kz13 n15 n16 n24 n25 kz26 n32 kz33 n35; omega) (by clear hx1 hns hN5 hN n11 n12 kz13 n15 n16 n24 n25 kz26 n32 kz33 n35; omega)
        refine D_lt (fun y72 ey72 => ?_)
        have hy72 : y72.toInt = (x4 + 1 : Int32).toInt := by rw [ey72]
        have n74 := i_rng x3
        exact hk5 x3 y72 L_19 Tu_27 (pa 0) p30 ⟨(by clear hx1 hns hN5 hN n11 n12 kz13 n15 n16 n24 n25 kz26 n32 kz33 n35 n74; omega), (by clear hx1 hns hN5 hN n11 n12 kz13 n15 n16 n24 n25 kz26 n32 kz33 n35 n74; omega)⟩ (by clear hx1 hns n11 n12 kz13 n15 n16 n24 n25 kz26 n32 kz33 n35 n74; omega)
set_option maxHeartbeats 1000000 in
set_option maxRecDepth 100000 in
theorem t_X7_findMine (pa : Nat → Nat) (qa : Nat → Nat) (P : Tr) (L : Lo) (Tn : Tr) (Tu : Tr) (q0 : Nat) (q2 : Nat) (q4 : Nat) (x1 : Int32) (x2 : Int32) (hP : iR BP P) (hTn : iR BT Tn) (hTu : iR BT Tu) (hx1 : 0 ≤ x1.toInt ∧ x1.toInt ≤ 9) (hq0 : q0 = pa 0) (hq4 : q4 = pa 0) (hns : (Tn 0 0).toInt ≤ 20) : D (f_X7_findMine pa qa P L Tn Tu q0 q2 q4 x1 x2) (fun (q : Int32 × Lo × Tr × Nat) => (iR BT (q.2.2.1))) := by
  unfold f_X7_findMine
  have lm1 : ((-1) : Int32).toInt = (-1) := by decide
  have l0 : (0 : Int32).toInt = 0 := by decide
  have n75 := i_rng x2
  exact tl_X7_findMine_L5 pa qa P Tn q0 q4 x1 x2 hP hTn hq0 hq4 ⟨(by omega), (by omega)⟩ hns   2000 ((-1) : Int32) (0 : Int32) L Tu q2 hTu ⟨(by clear hx1 hns n75; omega), (by clear hx1 hns n75; omega)⟩ (by clear hx1 hns n75; omega)
set_option maxHeartbeats 1000000 in
set_option maxRecDepth 100000 in
theorem tl_X7_go_L36 (pa : Nat → Nat) (qa : Nat → Nat) (P : Tr) (C : Tr) (q0 : Nat) (x1 : Int32) (hP : iR BP P) (hC : iR BC C) (hq0 : q0 = pa 0) (hx1 : 0 ≤ x1.toInt ∧ x1.toInt ≤ 21)   (N : Nat) : ∀ (x2 : Int32) (L : Lo) (Tn : Tr), iR BT Tn → 0 ≤ x2.toInt ∧ x2.toInt ≤ 1000 → 1000 - x2.toInt < (N : Int) → D (lpF (fun _ _ _ => none) (fB_X7_go_L36 pa qa P C q0 x1) N x2 L Tn) (fun (q : Int32 × Lo × Tr × Tr) => (iR BT (q.2.2.1)) ∧ (iR BC (q.2.2.2))) := by
  induction N with
  | zero =>
    intro x2 L Tn hTn hx2 hN
    exfalso
    omega
  | succ N36 ih =>
    intro x2 L Tn hTn hx2 hN
    have hk36 : ∀ (x2 : Int32) (L : Lo) (Tn : Tr), iR BT Tn → 0 ≤ x2.toInt ∧ x2.toInt ≤ 1000 → 1000 - x2.toInt < (N36 : Int) → D (lpF (fun _ _ _ => none) (fB_X7_go_L36 pa qa P C q0 x1) N36 x2 L Tn) (fun (q : Int32 × Lo × Tr × Tr) => (iR BT (q.2.2.1)) ∧ (iR BC (q.2.2.2))) := ih
    show D (fB_X7_go_L36 pa qa P C q0 x1 (lpF (fun _ _ _ => none) (fB_X7_go_L36 pa qa P C q0 x1) N36) x2 L Tn) _
    generalize lpF (fun _ _ _ => none) (fB_X7_go_L36 pa qa P C q0 x1) N36 = k36 at hk36 ⊢
    have hN36 : 1000 - x2.toInt < (N36 : Int) + 1 := by omega
    clear ih
    unfold fB_X7_go_L36
    refine D_ite (fun c10 => ?_) (fun c10 => ?_)
    · have kc10 := tq_le (x := x1) (y := x2) rfl rfl c10
      unfold fJ_X7_go_J54
      refine D_ite (fun c11 => ?_) (fun c11 => ?_)
      · have kc11 := tq_le (x := x1) (y := (0 : Int32)) rfl (b := 0) (by decide) c11
        have n12 : 0 ≤ (Tn 0 0).toInt ∧ (Tn 0 0).toInt ≤ 21 := hTn 0 0
        exact D_some (show (iR BT Tn) ∧ (iR BC C) from ⟨hTn, hC⟩)
      · have kc11 := tq_len (x := x1) (y := (0 : Int32)) rfl (b := 0) (by decide) c11
        have l0 : (0 : Int32).toInt = 0 := by decide
        refine D_lt (fun C_13 eC_13 => ?_)
        have hC_13 : iR BC C_13 := by rw [eC_13]; exact iR_set hC (show (0 : Int) ≤ _ from (by clear hx1 hx2 hN36 hN kc10 kc11; omega)) (show _ ≤ (20 : Int) from (by clear hx1 hx2 hN36 hN kc10 kc11; omega))
        have n14 : (C_13 0 0).toInt = (0 : Int32).toInt := by rw [eC_13]; rfl
        have n15 : 0 ≤ (Tn 0 0).toInt ∧ (Tn 0 0).toInt ≤ 21 := hTn 0 0
        exact D_some (show (iR BT Tn) ∧ (iR BC C_13) from ⟨hTn, hC_13⟩)
    · have kc10 := tq_len (x := x1) (y := x2) rfl rfl c10
      refine D_ck (decide_eq_true hq0) ?_
      refine D_bd2 (t_X6_passStop Tn P L hTn hP) (fun Tn_16 L_17 eq19 hq18 => ?_)
      refine D_lte (y := Tn_16) rfl ?_
      refine D_lte (y := L_17) rfl ?_
      have p20 : iR BT Tn_16 := hq18
      have n22 : (x2 + 1).toInt = x2.toInt + 1 := i_addK rfl (by decide) (by omega) (by omega)
      refine D_lt (fun y21 ey21 => ?_)
      have hy21 : y21.toInt = (x2 + 1 : Int32).toInt := by rw [ey21]
      exact hk36 y21 L_17 Tn_16 p20 ⟨(by omega), (by omega)⟩ (by omega)
set_option maxHeartbeats 1000000 in
set_option maxRecDepth 100000 in
theorem t_X7_go (pa : Nat → Nat) (qa : Nat → Nat) (P : Tr) (L : Lo) (Tn : Tr) (C : Tr) (q0 : Nat) (x1 : Int32) (hP : iR BP P) (hTn : iR BT Tn) (hC : iR BC C) (hq0 : q0 = pa 0) : D (f_X7_go pa qa P L Tn C q0 x1) (fun (q : Int32 × Lo × Tr × Tr) => (iR BT (q.2.2.1)) ∧ (iR BC (q.2.2.2))) := by
  unfold f_X7_go
  have n2 := i_rng x1
  refine D_ite (fun c1 => ?_) (fun c1 => ?_)
  · have kc1 := tq_lt (x := x1) (y := (0 : Int32)) rfl (b := 0) (by decide) c1
    have lm1 : ((-1) : Int32).toInt = (-1) := by decide
    exact D_some (show (iR BT Tn) ∧ (iR BC C) from ⟨hTn, hC⟩)
  · have kc1 := tq_ltn (x := x1) (y := (0 : Int32)) rfl (b := 0) (by decide) c1
    refine D_ite (fun c3 => ?_) (fun c3 => ?_)
    · have kc3 := tq_lt (x := (21 : Int32)) (y := x1) (a := 21) (by decide) rfl c3
      have lm1 : ((-1) : Int32).toInt = (-1) := by decide
      exact D_some (show (iR BT Tn) ∧ (iR BC C) from ⟨hTn, hC⟩)
    · have kc3 := tq_ltn (x := (21 : Int32)) (y := x1) (a := 21) (by decide) rfl c3
      have n5 : 0 ≤ (Tn 0 0).toInt ∧ (Tn 0 0).toInt ≤ 21 := hTn 0 0
      have n6 : ((Tn 0 0) + x1).toInt = (Tn 0 0).toInt + x1.toInt := i_addK rfl rfl (by omega) (by omega)
      refine D_ite (fun c4 => ?_) (fun c4 => ?_)
      · have kc4 := tq_le (x := ((Tn 0 0) + x1)) (y := (21 : Int32)) rfl (b := 21) (by decide) c4
        refine D_lt (fun Tn_7 eTn_7 => ?_)
        have hTn_7 : iR BT Tn_7 := by rw [eTn_7]; exact iR_setU hTn rfl
        have n8 : (Tn_7 0 0).toInt = (Tn 0 0).toInt := by rw [eTn_7]; rfl
        have l1 : (1 : Int32).toInt = 1 := by decide
        have n9 : (Tn_7 0 5).toInt = (1 : Int32).toInt := by rw [eTn_7]; rfl
        have l0 : (0 : Int32).toInt = 0 := by decide
        exact tl_X7_go_L36 pa qa P C q0 x1 hP hC hq0 ⟨(by omega), (by omega)⟩   2000 (0 : Int32) L Tn_7 hTn_7 ⟨(by clear n2 kc1 kc3 n5 n6 kc4 n8 n9; omega), (by clear n2 kc1 kc3 n5 n6 kc4 n8 n9; omega)⟩ (by clear n2 kc1 kc3 n5 n6 kc4 n8 n9; omega)
      · have kc4 := tq_len (x := ((Tn 0 0) + x1)) (y := (21 : Int32)) rfl (b := 21) (by decide) c4
        have lm1 : ((-1) : Int32).toInt = (-1) := by decide
        exact D_some (show (iR BT Tn) ∧ (iR BC C) from ⟨hTn, hC⟩)
set_option maxHeartbeats 1000000 in
set_option maxRecDepth 100000 in
theorem t_X7_isPerson (pa : Nat → Nat) (qa : Nat → Nat) (P : Tr) (q4 : Nat) (x1 : Int32) (hP : iR BP P) (hq4 : q4 = pa 0) : D (f_X7_isPerson pa qa P q4 x1) (fun (q : Int32) => (0 ≤ q.toInt ∧ q.toInt ≤ 1) ∧ (q.toInt = 1 → 0 ≤ x1.toInt ∧ x1.toInt ≤ 5)) := by
  unfold f_X7_isPerson
  have n2 := i_rng x1
  refine D_ite (fun c1 => ?_) (fun c1 => ?_)
  · have kc1 := tq_lt (x := x1) (y := (0 : Int32)) rfl (b := 0) (by decide) c1
    have l0 : (0 : Int32).toInt = 0 := by decide
    exact D_some (show (0 ≤ (0 : Int32).toInt ∧ (0 : Int32).toInt ≤ 1) ∧ ((0 : Int32).toInt = 1 → 0 ≤ x1.toInt ∧ x1.toInt ≤ 5) from ⟨⟨(by omega), (by omega)⟩, (by omega)⟩)
  · have kc1 := tq_ltn (x := x1) (y := (0 : Int32)) rfl (b := 0) (by decide) c1
    refine D_ck (decide_eq_true hq4) ?_
    have n4 : 0 ≤ (P 0 1).toInt ∧ (P 0 1).toInt ≤ 6 := hP 0 1
    refine D_ite (fun c3 => ?_) (fun c3 => ?_)
    · have kc3 := tq_le (x := (P 0 1)) (y := x1) rfl rfl c3
      have l0 : (0 : Int32).toInt = 0 := by decide
      exact D_some (show (0 ≤ (0 : Int32).toInt ∧ (0 : Int32).toInt ≤ 1) ∧ ((0 : Int32).toInt = 1 → 0 ≤ x1.toInt ∧ x1.toInt ≤ 5) from ⟨⟨(by clear n2 kc1 n4 kc3; omega), (by clear n2 kc1 n4 kc3; omega)⟩, (by omega)⟩)
    · have kc3 := tq_len (x := (P 0 1)) (y := x1) rfl rfl c3
      have l1 : (1 : Int32).toInt = 1 := by decide
      exact D_some (show (0 ≤ (1 : Int32).toInt ∧ (1 : Int32).toInt ≤ 1) ∧ ((1 : Int32).toInt = 1 → 0 ≤ x1.toInt ∧ x1.toInt ≤ 5) from ⟨⟨(by clear n2 kc1 n4 kc3; omega), (by clear n2 kc1 n4 kc3; omega)⟩, (by omega)⟩)
set_option maxHeartbeats 1000000 in
set_option maxRecDepth 100000 in
theorem tl_X4_judge_x_L39 (pa : Nat → Nat) (qa : Nat → Nat)    (N : Nat) : ∀ (x2 : Int32) (Z : Tr), dZ Z → iR BZ Z → (-1) ≤ x2.toInt ∧ x2.toInt ≤ 23 → x2.toInt + 1 < (N : Int) → D (lpF (fun _ _ => none) (fB_X4_judge_x_L39 pa qa) N x2 Z) (fun (q : Tr) => (iR BZ q) ∧ (dZ q)) := by
  induction N with
  | zero =>
    intro x2 Z ddZ hZ hx2 hN
    exfalso
    omega
  | succ N39 ih =>
    intro x2 Z ddZ hZ hx2 hN
    have hk39 : ∀ (x2 : Int32) (Z : Tr), dZ Z → iR BZ Z → (-1) ≤ x2.toInt ∧ x2.toInt ≤ 23 → x2.toInt + 1 < (N39 : Int) → D (lpF (fun _ _ => none) (fB_X4_judge_x_L39 pa qa) N39 x2 Z) (fun (q : Tr) => (iR BZ q) ∧ (dZ q)) := ih
    show D (fB_X4_judge_x_L39 pa qa (lpF (fun _ _ => none) (fB_X4_judge_x_L39 pa qa) N39) x2 Z) _
    generalize lpF (fun _ _ => none) (fB_X4_judge_x_L39 pa qa) N39 = k39 at hk39 ⊢
    have hN39 : x2.toInt + 1 < (N39 : Int) + 1 := by omega
    clear ih
    unfold fB_X4_judge_x_L39
    refine D_ite (fun c8 => ?_) (fun c8 => ?_)
    · have kc8 := tq_lt (x := x2) (y := (0 : Int32)) rfl (b := 0) (by decide) c8
      exact D_some (show (iR BZ Z) ∧ (dZ Z) from ⟨hZ, ddZ⟩)
    · have kc8 := tq_ltn (x := x2) (y := (0 : Int32)) rfl (b := 0) (by decide) c8
      refine D_ck (okI_of (by omega) (by omega)) ?_
      have n10 := i_rng (Z 7 x2.toNatClampNeg)
      refine D_ite (fun c9 => ?_) (fun c9 => ?_)
      · have kc9 := tq_eq (x := (Z 7 x2.toNatClampNeg)) (y := (0 : Int32)) rfl (b := 0) (by decide) c9
        have n12 : (x2 + (-1)).toInt = x2.toInt + (-1) := i_addK rfl (by decide) (by clear hN39 hN n10 kc9; omega) (by clear hN39 hN n10 kc9; omega)
        refine D_lt (fun y11 ey11 => ?_)
        have hy11 : y11.toInt = (x2 + (-1) : Int32).toInt := by rw [ey11]
        exact hk39 y11 Z ddZ hZ ⟨(by clear hN39 hN n10 kc9; omega), (by clear hN39 hN n10 kc9; omega)⟩ (by omega)
      · skip
        have n14 := i_rng (Z 3 x2.toNatClampNeg)
        refine D_ite (fun c13 => ?_) (fun c13 => ?_)
        · have kc13 := tq_eq (x := (Z 3 x2.toNatClampNeg)) (y := ((-1) : Int32)) rfl (b := (-1)) (by decide) c13
          have n15 : 0 ≤ (Z 4 x2.toNatClampNeg).toInt ∧ (Z 4 x2.toNatClampNeg).toInt ≤ 23 := hZ 4 x2.toNatClampNeg
          refine D_ck (okI_of (by clear hx2 hN39 hN kc8 n10 n14 kc13; omega) (by clear hx2 hN39 hN kc8 n10 n14 kc13; omega)) ?_
          refine D_lt (fun Z_16 eZ_16 => ?_)
          have hZ_16 : iR BZ Z_16 := by rw [eZ_16]; exact iR_setU hZ rfl
          have kdZ_t17 : dZ Z_16 := by rw [eZ_16]; exact ddZ
          have n19 : (x2 + (-1)).toInt = x2.toInt + (-1) := i_addK rfl (by decide) (by clear hN39 hN n10 n14 kc13 n15; omega) (by clear hN39 hN n10 n14 kc13 n15; omega)
          refine D_lt (fun y18 ey18 => ?_)
          have hy18 : y18.toInt = (x2 + (-1) : Int32).toInt := by rw [ey18]
          exact hk39 y18 Z_16 kdZ_t17 hZ_16 ⟨(by clear hN39 hN n10 n14 kc13 n15; omega), (by clear hN39 hN n10 n14 kc13 n15; omega)⟩ (by clear n10 n14 kc13 n15; omega)
        · skip
          have n21 : (x2 + (-1)).toInt = x2.toInt + (-1) := i_addK rfl (by decide) (by clear hN39 hN n10 n14; omega) (by clear hN39 hN n10 n14; omega)
          refine D_lt (fun y20 ey20 => ?_)
          have hy20 : y20.toInt = (x2 + (-1) : Int32).toInt := by rw [ey20]
          exact hk39 y20 Z ddZ hZ ⟨(by clear hN39 hN n10 n14; omega), (by clear hN39 hN n10 n14; omega)⟩ (by omega)
set_option maxHeartbeats 1000000 in
set_option maxRecDepth 100000 in
theorem tl_X4_judge_x_L7 (pa : Nat → Nat) (qa : Nat → Nat) (x1 : Int32) (hx1 : 0 ≤ x1.toInt ∧ x1.toInt ≤ 24)   (N : Nat) : ∀ (x2 : Int32) (Z : Tr), dZ Z → iR BZ Z → 0 ≤ x2.toInt ∧ x2.toInt ≤ 1000 → 1000 - x2.toInt < (N : Int) → D (lpF (fun _ _ => none) (fB_X4_judge_x_L7 pa qa x1) N x2 Z) (fun (q : Tr) => (iR BZ q) ∧ (dZ q)) := by
  induction N with
  | zero =>
    intro x2 Z ddZ hZ hx2 hN
    exfalso
    omega
  | succ N7 ih =>
    intro x2 Z ddZ hZ hx2 hN
    have hk7 : ∀ (x2 : Int32) (Z : Tr), dZ Z → iR BZ Z → 0 ≤ x2.toInt ∧ x2.toInt ≤ 1000 → 1000 - x2.toInt < (N7 : Int) → D (lpF (fun _ _ => none) (fB_X4_judge_x_L7 pa qa x1) N7 x2 Z) (fun (q : Tr) => (iR BZ q) ∧ (dZ q)) := ih
    show D (fB_X4_judge_x_L7 pa qa x1 (lpF (fun _ _ => none) (fB_X4_judge_x_L7 pa qa x1) N7) x2 Z) _
    generalize lpF (fun _ _ => none) (fB_X4_judge_x_L7 pa qa x1) N7 = k7 at hk7 ⊢
    have hN7 : 1000 - x2.toInt < (N7 : Int) + 1 := by omega
    clear ih
    unfold fB_X4_judge_x_L7
    refine D_ite (fun c5 => ?_) (fun c5 => ?_)
    · have kc5 := tq_le (x := (24 : Int32)) (y := x2) (a := 24) (by decide) rfl c5
      refine D_lt (fun y6 ey6 => ?_)
      have n7 : (x1 - 1).toInt = x1.toInt - 1 := i_subK rfl (by decide) (by clear hx2 hN7 hN kc5; omega) (by clear hx2 hN7 hN kc5; omega)
      have hy6 : y6.toInt = (x1 - 1).toInt := by rw [ey6]
      exact tl_X4_judge_x_L39 pa qa    2000 y6 Z ddZ hZ ⟨(by clear hx2 hN7 hN kc5; omega), (by clear hx2 hN7 hN kc5; omega)⟩ (by clear hx2 hN7 hN kc5; omega)
    · have kc5 := tq_len (x := (24 : Int32)) (y := x2) (a := 24) (by decide) rfl c5
      refine D_ite (fun c22 => ?_) (fun c22 => ?_)
      · have kc22 := tq_le (x := x1) (y := x2) rfl rfl c22
        unfold fJ_X4_judge_x_J28
        refine D_ck (okI_of (by omega) (by omega)) ?_
        refine D_lt (fun Z_23 eZ_23 => ?_)
        have hZ_23 : iR BZ Z_23 := by rw [eZ_23]; exact iR_setU hZ rfl
        have kdZ_t24 : dZ Z_23 := by rw [eZ_23]; exact ddZ
        have n26 : (x2 + 1).toInt = x2.toInt + 1 := i_addK rfl (by decide) (by omega) (by omega)
        refine D_lt (fun y25 ey25 => ?_)
        have hy25 : y25.toInt = (x2 + 1 : Int32).toInt := by rw [ey25]
        exact hk7 y25 Z_23 kdZ_t24 hZ_23 ⟨(by omega), (by omega)⟩ (by omega)
      · have kc22 := tq_len (x := x1) (y := x2) rfl rfl c22
        unfold fJ_X4_judge_x_J28
        refine D_ck (okI_of (by omega) (by omega)) ?_
        refine D_lt (fun Z_27 eZ_27 => ?_)
        have hZ_27 : iR BZ Z_27 := by rw [eZ_27]; exact iR_setU hZ rfl
        have kdZ_t28 : dZ Z_27 := by rw [eZ_27]; exact ddZ
        have n30 : (x2 + 1).toInt = x2.toInt + 1 := i_addK rfl (by decide) (by omega) (by omega)
        refine D_lt (fun y29 ey29 => ?_)
        have hy29 : y29.toInt = (x2 + 1 : Int32).toInt := by rw [ey29]
        exact hk7 y29 Z_27 kdZ_t28 hZ_27 ⟨(by omega), (by omega)⟩ (by omega)
set_option maxHeartbeats 1000000 in
set_option maxRecDepth 100000 in
theorem t_X4_judge_x (pa : Nat → Nat) (qa : Nat → Nat) (Z : Tr) (hZ : iR BZ Z) (ddZ : dZ Z) : D (f_X4_judge_x pa qa Z) (fun (q : Tr) => (iR BZ q) ∧ (dZ q)) := by
  unfold f_X4_judge_x
  refine D_bd (t_X4_regarded_x pa qa Z hZ) (fun r1 eq3 hq2 => ?_)
  have p4 : 0 ≤ r1.toInt ∧ r1.toInt ≤ 24 := hq2
  have l0 : (0 : Int32).toInt = 0 := by decide
  exact tl_X4_judge_x_L7 pa qa r1 ⟨(by omega), (by omega)⟩   2000 (0 : Int32) Z ddZ hZ ⟨(by omega), (by omega)⟩ (by omega)
set_option maxHeartbeats 1000000 in
set_option maxRecDepth 100000 in
theorem tl_X7_got_L21 (pa : Nat → Nat) (qa : Nat → Nat) (P : Tr) (Z : Tr) (q4 : Nat) (x1 : Int32) (hP : iR BP P) (hZ : iR BZ Z) (ddZ : dZ Z) (hq4 : q4 = pa 0) (hx1 : 0 ≤ x1.toInt ∧ x1.toInt ≤ 5)   (N : Nat) : ∀ (x2 : Int32) (x3 : Int32) (L : Lo) (Tu : Tr) (q2 : Nat), iR BT Tu → 0 ≤ x3.toInt ∧ x3.toInt ≤ 1000 → 1000 - x3.toInt < (N : Int) → D (lpF (fun _ _ _ _ _ => none) (fB_X7_got_L21 pa qa P Z q4 x1) N x2 x3 L Tu q2) (fun (q : Int32 × Lo × Tr × Tr × Nat) => (iR BT (q.2.2.1)) ∧ (iR BZ (q.2.2.2.1)) ∧ (dZ (q.2.2.2.1))) := by
  induction N with
  | zero =>
    intro x2 x3 L Tu q2 hTu hx3 hN
    exfalso
    omega
  | succ N21 ih =>
    intro x2 x3 L Tu q2 hTu hx3 hN
    have hk21 : ∀ (x2 : Int32) (x3 : Int32) (L : Lo) (Tu : Tr) (q2 : Nat), iR BT Tu → 0 ≤ x3.toInt ∧ x3.toInt ≤ 1000 → 1000 - x3.toInt < (N21 : Int) → D (lpF (fun _ _ _ _ _ => none) (fB_X7_got_L21 pa qa P Z q4 x1) N21 x2 x3 L Tu q2) (fun (q : Int32 × Lo × Tr × Tr × Nat) => (iR BT (q.2.2.1)) ∧ (iR BZ (q.2.2.2.1)) ∧ (dZ (q.2.2.2.1))) := ih
    show D (fB_X7_got_L21 pa qa P Z q4 x1 (lpF (fun _ _ _ _ _ => none) (fB_X7_got_L21 pa qa P Z q4 x1) N21) x2 x3 L Tu q2) _
    generalize lpF (fun _ _ _ _ _ => none) (fB_X7_got_L21 pa qa P Z q4 x1) N21 = k21 at hk21 ⊢
    have hN21 : 1000 - x3.toInt < (N21 : Int) + 1 := by omega
    clear ih
    unfold fB_X7_got_L21
    refine D_ck (decide_eq_true hq4) ?_
    refine D_ck (okI_of (by clear hx3 hN21 hN; omega) (by clear hx3 hN21 hN; omega)) ?_
    have n14 : 0 ≤ (P 12 x1.toNatClampNeg).toInt ∧ (P 12 x1.toNatClampNeg).toInt ≤ 20 := hP 12 x1.toNatClampNeg
    refine D_ite (fun c13 => ?_) (fun c13 => ?_)
    · have kc13 := tq_le (x := (P 12 x1.toNatClampNeg)) (y := x3) rfl rfl c13
      have n15 := i_rng x2
      exact D_some (show (iR BT Tu) ∧ (iR BZ Z) ∧ (dZ Z) from ⟨hTu, hZ, ddZ⟩)
    · have kc13 := tq_len (x := (P 12 x1.toNatClampNeg)) (y := x3) rfl rfl c13
      refine D_bd4 (t_X7_agreesIfIn pa qa P L Tu Z q2 (pa 0) x1 x3 hP hTu hZ ddZ ⟨(by clear hx3 hN21 hN n14 kc13; omega), (by clear hx3 hN21 hN n14 kc13; omega)⟩ rfl) (fun r16 L_17 Tu_18 q2_19 eq21 hq20 => ?_)
      refine D_lte (y := r16) rfl ?_
      refine D_lte (y := L_17) rfl ?_
      refine D_lte (y := Tu_18) rfl ?_
      refine D_lte (y := q2_19) rfl ?_
      obtain ⟨p22, p23⟩ : (0 ≤ r16.toInt ∧ r16.toInt ≤ 1) ∧ (iR BT Tu_18) := hq20
      refine D_ite (fun c24 => ?_) (fun c24 => ?_)
      · have kc24 := tq_eq (x := r16) (y := (0 : Int32)) rfl (b := 0) (by decide) c24
        have n26 : (x3 + 1).toInt = x3.toInt + 1 := i_addK rfl (by decide) (by clear hx1 hN21 hN p22 kc24; omega) (by clear hx1 hN21 hN p22 kc24; omega)
        refine D_lt (fun y25 ey25 => ?_)
        have hy25 : y25.toInt = (x3 + 1 : Int32).toInt := by rw [ey25]
        have n27 := i_rng x2
        exact hk21 x2 y25 L_17 Tu_18 q2_19 p23 ⟨(by clear hx1 hN21 hN p22 kc24 n27; omega), (by clear hx1 hN21 hN p22 kc24 n27; omega)⟩ (by clear hx1 p22 kc24 n27; omega)
      · have kc240 := tq_eqn (x := r16) (y := (0 : Int32)) rfl (b := 0) (by decide) c24
        have kc24 : 1 ≤ r16.toInt := (by clear hx1 hx3 hN21 hN n14 kc13; omega)
        clear kc240
        refine D_lt (fun y28 ey28 => ?_)
        have n29 := i_rng (x2 ||| ((1 : Int32) <<< (x3 &&& 31)))
        have hy28 : y28.toInt = (x2 ||| ((1 : Int32) <<< (x3 &&& 31))).toInt := by rw [ey28]
        have n31 : (x3 + 1).toInt = x3.toInt + 1 := i_addK rfl (by decide) (by clear hx1 hN21 hN p22 kc24 n29 hy28; omega) (by clear hx1 hN21 hN p22 kc24 n29 hy28; omega)
        refine D_lt (fun y30 ey30 => ?_)
        have hy30 : y30.toInt = (x3 + 1 : Int32).toInt := by rw [ey30]
        exact hk21 y28 y30 L_17 Tu_18 q2_19 p23 ⟨(by clear hx1 hN21 hN p22 kc24 n29 hy28; omega), (by clear hx1 hN21 hN p22 kc24 n29 hy28; omega)⟩ (by clear hx1 p22 kc24 n29 hy28; omega)
set_option maxHeartbeats 1000000 in
set_option maxRecDepth 100000 in
theorem t_X7_got (pa : Nat → Nat) (qa : Nat → Nat) (P : Tr) (L : Lo) (Tu : Tr) (Z : Tr) (q2 : Nat) (q4 : Nat) (x1 : Int32) (hP : iR BP P) (hTu : iR BT Tu) (hZ : iR BZ Z) (ddZ : dZ Z) (hq4 : q4 = pa 0) : D (f_X7_got pa qa P L Tu Z q2 q4 x1) (fun (q : Int32 × Lo × Tr × Tr × Nat) => (iR BT (q.2.2.1)) ∧ (iR BZ (q.2.2.2.1)) ∧ (dZ (q.2.2.2.1))) := by
  unfold f_X7_got
  have n1 := i_rng x1
  refine D_bd (t_X7_isPerson pa qa P q4 x1 hP hq4) (fun r2 eq4 hq3 => ?_)
  obtain ⟨p5, p6⟩ : (0 ≤ r2.toInt ∧ r2.toInt ≤ 1) ∧ (r2.toInt = 1 → 0 ≤ x1.toInt ∧ x1.toInt ≤ 5) := hq3
  refine D_ite (fun c7 => ?_) (fun c7 => ?_)
  · have kc7 := tq_eq (x := r2) (y := (0 : Int32)) rfl (b := 0) (by decide) c7
    have lm1 : ((-1) : Int32).toInt = (-1) := by decide
    exact D_some (show (iR BT Tu) ∧ (iR BZ Z) ∧ (dZ Z) from ⟨hTu, hZ, ddZ⟩)
  · have kc70 := tq_eqn (x := r2) (y := (0 : Int32)) rfl (b := 0) (by decide) c7
    have kc7 : 1 ≤ r2.toInt := (by omega)
    clear kc70
    refine D_bd (t_X4_judge_x pa qa Z hZ ddZ) (fun Z_8 eq10 hq9 => ?_)
    obtain ⟨p11, p12⟩ : (iR BZ Z_8) ∧ (dZ Z_8) := hq9
    have l0 : (0 : Int32).toInt = 0 := by decide
    exact tl_X7_got_L21 pa qa P Z_8 q4 x1 hP p11 p12 hq4 ⟨(by omega), (by omega)⟩   2000 (0 : Int32) (0 : Int32) L Tu q2 hTu ⟨(by clear n1 p5 p6 kc7; omega), (by clear n1 p5 p6 kc7; omega)⟩ (by clear n1 p5 p6 kc7; omega)
set_option maxHeartbeats 1000000 in
set_option maxRecDepth 100000 in
theorem t_X0_saveRow_x_na16 (pa : Nat → Nat) (qa : Nat → Nat) (Tn : Tr) (C : Tr) (x2 : Int32) (hTn : iR BT Tn) (hC : iR BC C) (hx2 : 0 ≤ x2.toInt ∧ x2.toInt ≤ 1444) (hm : x2.toInt % 76 = 0) : D (f_X0_saveRow_x_na16 pa qa Tn C x2) (fun (q : Int32 × Tr) => (iR BC (q.2)) ∧ ((q.1).toInt = x2.toInt + 50)) := by
  unfold f_X0_saveRow_x_na16
  have l0 : (0 : Int32).toInt = 0 := by decide
  have l50 : (50 : Int32).toInt = 50 := by decide
  refine D_ck (okC_of (by omega) (by omega) (by omega) (by omega) (by omega)) ?_
  refine D_lt (fun C_1 eC_1 => ?_)
  have hC_1 : iR BC C_1 := by rw [eC_1]; exact BC_to hC (fun k hk => by rw [rB_A (by have hq := i_m76 (o := 0) hx2.1 hm; omega)]; exact hTn 16 k)
  have n2 : (x2 + 50).toInt = x2.toInt + 50 := i_addK rfl (by decide) (by omega) (by omega)
  exact D_some (show (iR BC C_1) ∧ ((x2 + 50).toInt = x2.toInt + 50) from ⟨hC_1, (by omega)⟩)
set_option maxHeartbeats 1000000 in
set_option maxRecDepth 100000 in
theorem t_X0_saveRow_x_na17 (pa : Nat → Nat) (qa : Nat → Nat) (Tn : Tr) (C : Tr) (x2 : Int32) (hTn : iR BT Tn) (hC : iR BC C) (hx2 : 0 ≤ x2.toInt ∧ x2.toInt ≤ 1494) (hm : x2.toInt % 76 = 50) : D (f_X0_saveRow_x_na17 pa qa Tn C x2) (fun (q : Int32 × Tr) => (iR BC (q.2)) ∧ ((q.1).toInt = x2.toInt + 5)) := by
  unfold f_X0_saveRow_x_na17
  have l0 : (0 : Int32).toInt = 0 := by decide
  have l5 : (5 : Int32).toInt = 5 := by decide
  refine D_ck (okC_of (by omega) (by omega) (by omega) (by omega) (by omega)) ?_
  refine D_lt (fun C_1 eC_1 => ?_)
  have hC_1 : iR BC C_1 := by rw [eC_1]; exact BC_to hC (fun k hk => by rw [rB_B (by have hq := i_m76 (o := 50) hx2.1 hm; omega) (by have hq := i_m76 (o := 50) hx2.1 hm; omega)]; exact hTn 17 k)
  have n2 : (x2 + 5).toInt = x2.toInt + 5 := i_addK rfl (by decide) (by omega) (by omega)
  exact D_some (show (iR BC C_1) ∧ ((x2 + 5).toInt = x2.toInt + 5) from ⟨hC_1, (by omega)⟩)
set_option maxHeartbeats 1000000 in
set_option maxRecDepth 100000 in
theorem t_X0_saveRow_x_na18 (pa : Nat → Nat) (qa : Nat → Nat) (Tn : Tr) (C : Tr) (x2 : Int32) (hTn : iR BT Tn) (hC : iR BC C) (hx2 : 0 ≤ x2.toInt ∧ x2.toInt ≤ 1499) (hm : x2.toInt % 76 = 55) : D (f_X0_saveRow_x_na18 pa qa Tn C x2) (fun (q : Int32 × Tr) => (iR BC (q.2)) ∧ ((q.1).toInt = x2.toInt + 5)) := by
  unfold f_X0_saveRow_x_na18
  have l0 : (0 : Int32).toInt = 0 := by decide
  have l5 : (5 : Int32).toInt = 5 := by decide
  refine D_ck (okC_of (by omega) (by omega) (by omega) (by omega) (by omega)) ?_
  refine D_lt (fun C_1 eC_1 => ?_)
  have hC_1 : iR BC C_1 := by rw [eC_1]; exact BC_to hC (fun k hk => by rw [rB_C (by have hq := i_m76 (o := 55) hx2.1 hm; omega) (by have hq := i_m76 (o := 55) hx2.1 hm; omega)]; exact full_at _)
  have n2 : (x2 + 5).toInt = x2.toInt + 5 := i_addK rfl (by decide) (by omega) (by omega)
  exact D_some (show (iR BC C_1) ∧ ((x2 + 5).toInt = x2.toInt + 5) from ⟨hC_1, (by omega)⟩)
set_option maxHeartbeats 1000000 in
set_option maxRecDepth 100000 in
theorem t_X0_saveRow_x_na15 (pa : Nat → Nat) (qa : Nat → Nat) (Tn : Tr) (C : Tr) (x2 : Int32) (hTn : iR BT Tn) (hC : iR BC C) (hx2 : 0 ≤ x2.toInt ∧ x2.toInt ≤ 1504) (hm : x2.toInt % 76 = 60) : D (f_X0_saveRow_x_na15 pa qa Tn C x2) (fun (q : Int32 × Tr) => (iR BC (q.2)) ∧ ((q.1).toInt = x2.toInt + 10)) := by
  unfold f_X0_saveRow_x_na15
  have l0 : (0 : Int32).toInt = 0 := by decide
  have l10 : (10 : Int32).toInt = 10 := by decide
  refine D_ck (okC_of (by omega) (by omega) (by omega) (by omega) (by omega)) ?_
  refine D_lt (fun C_1 eC_1 => ?_)
  have hC_1 : iR BC C_1 := by rw [eC_1]; exact BC_to hC (fun k hk => by rw [rB_D (by have hq := i_m76 (o := 60) hx2.1 hm; omega) (by have hq := i_m76 (o := 60) hx2.1 hm; omega)]; exact hTn 15 k)
  have n2 : (x2 + 10).toInt = x2.toInt + 10 := i_addK rfl (by decide) (by omega) (by omega)
  exact D_some (show (iR BC C_1) ∧ ((x2 + 10).toInt = x2.toInt + 10) from ⟨hC_1, (by omega)⟩)
set_option maxHeartbeats 1000000 in
set_option maxRecDepth 100000 in
theorem t_X0_saveRow_x_na10 (pa : Nat → Nat) (qa : Nat → Nat) (Tn : Tr) (C : Tr) (x2 : Int32) (hTn : iR BT Tn) (hC : iR BC C) (hx2 : 0 ≤ x2.toInt ∧ x2.toInt ≤ 1514) (hm : x2.toInt % 76 = 70) : D (f_X0_saveRow_x_na10 pa qa Tn C x2) (fun (q : Int32 × Tr) => (iR BC (q.2)) ∧ ((q.1).toInt = x2.toInt + 6)) := by
  unfold f_X0_saveRow_x_na10
  have l0 : (0 : Int32).toInt = 0 := by decide
  have l6 : (6 : Int32).toInt = 6 := by decide
  refine D_ck (okC_of (by omega) (by omega) (by omega) (by omega) (by omega)) ?_
  refine D_lt (fun C_1 eC_1 => ?_)
  have hC_1 : iR BC C_1 := by rw [eC_1]; exact BC_to hC (fun k hk => by rw [rB_E (by have hq := i_m76 (o := 70) hx2.1 hm; omega) (by have hq := i_m76 (o := 70) hx2.1 hm; omega)]; exact full_at _)
  have n2 : (x2 + 6).toInt = x2.toInt + 6 := i_addK rfl (by decide) (by omega) (by omega)
  exact D_some (show (iR BC C_1) ∧ ((x2 + 6).toInt = x2.toInt + 6) from ⟨hC_1, (by omega)⟩)
set_option maxHeartbeats 1000000 in
set_option maxRecDepth 100000 in
theorem t_X0_save_x_na0 (pa : Nat → Nat) (qa : Nat → Nat) (Tn : Tr) (C : Tr) (hTn : iR BT Tn) (hC : iR BC C) : D (f_X0_save_x_na0 pa qa Tn C) (fun (q : Tr) => (iR BC q)) := by
  unfold f_X0_save_x_na0
  refine D_lt (fun y1 ey1 => ?_)
  have n2 : 0 ≤ (C 0 1).toInt ∧ (C 0 1).toInt ≤ 19 := hC 0 1
  have n3 := i_mulR (a := (C 0 1)) (b := (76 : Int32)) 76 (by decide) (by omega) (by omega)
  have hy1 : y1.toInt = ((C 0 1) * 76).toInt := by rw [ey1]
  refine D_bd2 (t_X0_saveRow_x_na16 pa qa Tn C y1 hTn hC ⟨(by omega), (by omega)⟩ (by first | assumption | exact (by omega))) (fun r4 C_5 eq7 hq6 => ?_)
  refine D_lte (y := r4) rfl ?_
  refine D_lte (y := C_5) rfl ?_
  obtain ⟨p8, p9⟩ : (iR BC C_5) ∧ (r4.toInt = y1.toInt + 50) := hq6
  have n10 := i_rng r4
  refine D_bd2 (t_X0_saveRow_x_na17 pa qa Tn C_5 r4 hTn p8 ⟨(by omega), (by omega)⟩ (by first | assumption | exact (by omega))) (fun r11 C_12 eq14 hq13 => ?_)
  refine D_lte (y := r11) rfl ?_
  refine D_lte (y := C_12) rfl ?_
  obtain ⟨p15, p16⟩ : (iR BC C_12) ∧ (r11.toInt = r4.toInt + 5) := hq13
  have n17 := i_rng r11
  refine D_bd2 (t_X0_saveRow_x_na18 pa qa Tn C_12 r11 hTn p15 ⟨(by omega), (by omega)⟩ (by first | assumption | exact (by omega))) (fun r18 C_19 eq21 hq20 => ?_)
  refine D_lte (y := r18) rfl ?_
  refine D_lte (y := C_19) rfl ?_
  obtain ⟨p22, p23⟩ : (iR BC C_19) ∧ (r18.toInt = r11.toInt + 5) := hq20
  have n24 := i_rng r18
  refine D_bd2 (t_X0_saveRow_x_na15 pa qa Tn C_19 r18 hTn p22 ⟨(by omega), (by omega)⟩ (by first | assumption | exact (by omega))) (fun r25 C_26 eq28 hq27 => ?_)
  refine D_lte (y := r25) rfl ?_
  refine D_lte (y := C_26) rfl ?_
  obtain ⟨p29, p30⟩ : (iR BC C_26) ∧ (r25.toInt = r18.toInt + 10) := hq27
  have n31 := i_rng r25
  refine D_bd2 (t_X0_saveRow_x_na10 pa qa Tn C_26 r25 hTn p29 ⟨(by omega), (by omega)⟩ (by first | assumption | exact (by omega))) (fun r32 C_33 eq35 hq34 => ?_)
  refine D_lte (y := r32) rfl ?_
  refine D_lte (y := C_33) rfl ?_
  obtain ⟨p36, p37⟩ : (iR BC C_33) ∧ (r32.toInt = r25.toInt + 6) := hq34
  have n38 := i_rng r32
  have n40 : 0 ≤ (C_33 0 1).toInt ∧ (C_33 0 1).toInt ≤ 19 := p36 0 1
  have n41 : ((C_33 0 1) + 1).toInt = (C_33 0 1).toInt + 1 := i_addK rfl (by decide) (by clear n2 n3 hy1 p9 n10 p16 n17 p23 n24 p30 n31 p37 n38; omega) (by clear n2 n3 hy1 p9 n10 p16 n17 p23 n24 p30 n31 p37 n38; omega)
  have n42 := i_rem (a := ((C_33 0 1) + 1)) (b := (20 : Int32)) 20 (by decide) (by decide) (by clear n2 n3 hy1 p9 n10 p16 n17 p23 n24 p30 n31 p37 n38; omega)
  refine D_lt (fun C_39 eC_39 => ?_)
  have hC_39 : iR BC C_39 := by rw [eC_39]; exact iR_set p36 (show (0 : Int) ≤ _ from (by clear n2 n3 hy1 p9 n10 p16 n17 p23 n24 p30 n31 p37 n38; omega)) (show _ ≤ (19 : Int) from (by clear n2 n3 hy1 p9 n10 p16 n17 p23 n24 p30 n31 p37 n38; omega))
  have n43 : (C_39 0 1).toInt = (((C_33 0 1) + 1) - ((C_33 0 1) + 1) / 20 * 20).toInt := by rw [eC_39]; rfl
  have n45 : 0 ≤ (C_39 0 0).toInt ∧ (C_39 0 0).toInt ≤ 20 := hC_39 0 0
  refine D_ite (fun c44 => ?_) (fun c44 => ?_)
  · have kc44 := tq_eq (x := (C_39 0 0)) (y := (20 : Int32)) rfl (b := 20) (by decide) c44
    unfold fJ_X0_save_x_na0_J92
    have l20 : (20 : Int32).toInt = 20 := by decide
    refine D_lt (fun C_46 eC_46 => ?_)
    have hC_46 : iR BC C_46 := by rw [eC_46]; exact iR_set hC_39 (show (0 : Int) ≤ _ from (by clear n2 n3 hy1 p9 n10 p16 n17 p23 n24 p30 n31 p37 n38 n40 n41 n42 n43 n45 kc44; omega)) (show _ ≤ (20 : Int) from (by clear n2 n3 hy1 p9 n10 p16 n17 p23 n24 p30 n31 p37 n38 n40 n41 n42 n43 n45 kc44; omega))
    have n47 : (C_46 0 1).toInt = (C_39 0 1).toInt := by rw [eC_46]; rfl
    exact D_some (show (iR BC C_46) from hC_46)
  · have kc440 := tq_eqn (x := (C_39 0 0)) (y := (20 : Int32)) rfl (b := 20) (by decide) c44
    have kc44 : (C_39 0 0).toInt ≤ 19 := (by clear n2 n3 hy1 p9 n10 p16 n17 p23 n24 p30 n31 p37 n38 n40 n41 n42 n43; omega)
    clear kc440
    unfold fJ_X0_save_x_na0_J92
    have n49 : ((C_39 0 0) + 1).toInt = (C_39 0 0).toInt + 1 := i_addK rfl (by decide) (by clear n2 n3 hy1 p9 n10 p16 n17 p23 n24 p30 n31 p37 n38 n40 n41 n42 n43; omega) (by clear n2 n3 hy1 p9 n10 p16 n17 p23 n24 p30 n31 p37 n38 n40 n41 n42 n43; omega)
    refine D_lt (fun C_48 eC_48 => ?_)
    have hC_48 : iR BC C_48 := by rw [eC_48]; exact iR_set hC_39 (show (0 : Int) ≤ _ from (by clear n2 n3 hy1 p9 n10 p16 n17 p23 n24 p30 n31 p37 n38 n40 n41 n42 n43; omega)) (show _ ≤ (20 : Int) from (by clear n2 n3 hy1 p9 n10 p16 n17 p23 n24 p30 n31 p37 n38 n40 n41 n42 n43; omega))
    have n50 : (C_48 0 1).toInt = (C_39 0 1).toInt := by rw [eC_48]; rfl
    have n51 : (C_48 0 0).toInt = ((C_39 0 0) + 1).toInt := by rw [eC_48]; rfl
    exact D_some (show (iR BC C_48) from hC_48)
set_option maxHeartbeats 1000000 in
set_option maxRecDepth 100000 in
theorem t_X7_help (pa : Nat → Nat) (qa : Nat → Nat) (P : Tr) (Tn : Tr) (C : Tr) (q4 : Nat) (x1 : Int32) (x2 : Int32) (hP : iR BP P) (hTn : iR BT Tn) (hC : iR BC C) (hq4 : q4 = pa 0) : D (f_X7_help pa qa P Tn C q4 x1 x2) (fun (q : Int32 × Tr × Tr) => (0 ≤ (q.1).toInt ∧ (q.1).toInt ≤ 1) ∧ (iR BT (q.2.1)) ∧ (iR BC (q.2.2))) := by
  unfold f_X7_help
  have n1 := i_rng x1
  refine D_bd (t_X7_isPerson pa qa P q4 x1 hP hq4) (fun r2 eq4 hq3 => ?_)
  obtain ⟨p5, p6⟩ : (0 ≤ r2.toInt ∧ r2.toInt ≤ 1) ∧ (r2.toInt = 1 → 0 ≤ x1.toInt ∧ x1.toInt ≤ 5) := hq3
  refine D_ite (fun c7 => ?_) (fun c7 => ?_)
  · have kc7 := tq_eq (x := r2) (y := (0 : Int32)) rfl (b := 0) (by decide) c7
    have l0 : (0 : Int32).toInt = 0 := by decide
    exact D_some (show (0 ≤ (0 : Int32).toInt ∧ (0 : Int32).toInt ≤ 1) ∧ (iR BT Tn) ∧ (iR BC C) from ⟨⟨(by clear n1 p5 p6 kc7; omega), (by clear n1 p5 p6 kc7; omega)⟩, hTn, hC⟩)
  · have kc70 := tq_eqn (x := r2) (y := (0 : Int32)) rfl (b := 0) (by decide) c7
    have kc7 : 1 ≤ r2.toInt := (by omega)
    clear kc70
    have n9 := i_rng x2
    refine D_ite (fun c8 => ?_) (fun c8 => ?_)
    · have kc8 := tq_lt (x := x2) (y := (1 : Int32)) rfl (b := 1) (by decide) c8
      have l0 : (0 : Int32).toInt = 0 := by decide
      exact D_some (show (0 ≤ (0 : Int32).toInt ∧ (0 : Int32).toInt ≤ 1) ∧ (iR BT Tn) ∧ (iR BC C) from ⟨⟨(by clear n1 p5 p6 kc7 n9 kc8; omega), (by clear n1 p5 p6 kc7 n9 kc8; omega)⟩, hTn, hC⟩)
    · have kc8 := tq_ltn (x := x2) (y := (1 : Int32)) rfl (b := 1) (by decide) c8
      refine D_ite (fun c10 => ?_) (fun c10 => ?_)
      · have kc10 := tq_lt (x := (99 : Int32)) (y := x2) (a := 99) (by decide) rfl c10
        have l0 : (0 : Int32).toInt = 0 := by decide
        exact D_some (show (0 ≤ (0 : Int32).toInt ∧ (0 : Int32).toInt ≤ 1) ∧ (iR BT Tn) ∧ (iR BC C) from ⟨⟨(by clear n1 p5 p6 kc7 n9 kc8 kc10; omega), (by clear n1 p5 p6 kc7 n9 kc8 kc10; omega)⟩, hTn, hC⟩)
      · have kc10 := tq_ltn (x := (99 : Int32)) (y := x2) (a := 99) (by decide) rfl c10
        refine D_ck (okI_of (by clear n9 kc8 kc10; omega) (by clear n9 kc8 kc10; omega)) ?_
        have n12 := i_rng (Tn 10 x1.toNatClampNeg)
        refine D_ite (fun c11 => ?_) (fun c11 => ?_)
        · have kc11 := tq_eq (x := (Tn 10 x1.toNatClampNeg)) (y := x2) rfl rfl c11
          have l0 : (0 : Int32).toInt = 0 := by decide
          exact D_some (show (0 ≤ (0 : Int32).toInt ∧ (0 : Int32).toInt ≤ 1) ∧ (iR BT Tn) ∧ (iR BC C) from ⟨⟨(by clear n1 p5 p6 kc7 n9 kc8 kc10 n12 kc11; omega), (by clear n1 p5 p6 kc7 n9 kc8 kc10 n12 kc11; omega)⟩, hTn, hC⟩)
        · skip
          refine D_bd (t_X0_save_x_na0 pa qa Tn C hTn hC) (fun C_13 eq15 hq14 => ?_)
          have p16 : iR BC C_13 := hq14
          refine D_lt (fun Tn_17 eTn_17 => ?_)
          have hTn_17 : iR BT Tn_17 := by rw [eTn_17]; exact iR_setU hTn rfl
          have l1 : (1 : Int32).toInt = 1 := by decide
          exact D_some (show (0 ≤ (1 : Int32).toInt ∧ (1 : Int32).toInt ≤ 1) ∧ (iR BT Tn_17) ∧ (iR BC C_13) from ⟨⟨(by clear n1 p5 p6 kc7 n9 kc8 kc10 n12; omega), (by clear n1 p5 p6 kc7 n9 kc8 kc10 n12; omega)⟩, hTn_17, p16⟩)
set_option maxHeartbeats 1000000 in
set_option maxRecDepth 100000 in
theorem t_X7_isPlace (pa : Nat → Nat) (qa : Nat → Nat) (P : Tr) (q4 : Nat) (x1 : Int32) (hP : iR BP P) (hq4 : q4 = pa 0) : D (f_X7_isPlace pa qa P q4 x1) (fun (q : Int32) => (0 ≤ q.toInt ∧ q.toInt ≤ 1) ∧ (q.toInt = 1 → 0 ≤ x1.toInt ∧ x1.toInt ≤ 4)) := by
  unfold f_X7_isPlace
  have n2 := i_rng x1
  refine D_ite (fun c1 => ?_) (fun c1 => ?_)
  · have kc1 := tq_lt (x := x1) (y := (0 : Int32)) rfl (b := 0) (by decide) c1
    have l0 : (0 : Int32).toInt = 0 := by decide
    exact D_some (show (0 ≤ (0 : Int32).toInt ∧ (0 : Int32).toInt ≤ 1) ∧ ((0 : Int32).toInt = 1 → 0 ≤ x1.toInt ∧ x1.toInt ≤ 4) from ⟨⟨(by omega), (by omega)⟩, (by omega)⟩)
  · have kc1 := tq_ltn (x := x1) (y := (0 : Int32)) rfl (b := 0) (by decide) c1
    refine D_ck (decide_eq_true hq4) ?_
    have n4 : 0 ≤ (P 0 0).toInt ∧ (P 0 0).toInt ≤ 5 := hP 0 0
    refine D_ite (fun c3 => ?_) (fun c3 => ?_)
    · have kc3 := tq_le (x := (P 0 0)) (y := x1) rfl rfl c3
      have l0 : (0 : Int32).toInt = 0 := by decide
      exact D_some (show (0 ≤ (0 : Int32).toInt ∧ (0 : Int32).toInt ≤ 1) ∧ ((0 : Int32).toInt = 1 → 0 ≤ x1.toInt ∧ x1.toInt ≤ 4) from ⟨⟨(by clear n2 kc1 n4 kc3; omega), (by clear n2 kc1 n4 kc3; omega)⟩, (by omega)⟩)
    · have kc3 := tq_len (x := (P 0 0)) (y := x1) rfl rfl c3
      have l1 : (1 : Int32).toInt = 1 := by decide
      exact D_some (show (0 ≤ (1 : Int32).toInt ∧ (1 : Int32).toInt ≤ 1) ∧ ((1 : Int32).toInt = 1 → 0 ≤ x1.toInt ∧ x1.toInt ≤ 4) from ⟨⟨(by clear n2 kc1 n4 kc3; omega), (by clear n2 kc1 n4 kc3; omega)⟩, (by omega)⟩)
set_option maxHeartbeats 1000000 in
set_option maxRecDepth 100000 in
theorem tl_X7_isRest_L35 (pa : Nat → Nat) (qa : Nat → Nat) (X : Tr) (P : Tr) (q4 : Nat) (x1 : Int32) (x2 : Int32) (x3 : Int32) (hX : iR BX X) (hP : iR BP P) (hq4 : q4 = pa 0) (hx1 : 0 ≤ x1.toInt ∧ x1.toInt ≤ 24) (hx2 : 0 ≤ x2.toInt ∧ x2.toInt ≤ 4) (hx3 : 0 ≤ x3.toInt ∧ x3.toInt ≤ 4)   (N : Nat) : ∀ (x4 : Int32), 0 ≤ x4.toInt ∧ x4.toInt ≤ 1000 → 1000 - x4.toInt < (N : Int) → D (lpF (fun _ => none) (fB_X7_isRest_L35 pa qa X P q4 x1 x2 x3) N x4) (fun (q : Int32) => (0 ≤ q.toInt ∧ q.toInt ≤ 1)) := by
  induction N with
  | zero =>
    intro x4 hx4 hN
    exfalso
    omega
  | succ N35 ih =>
    intro x4 hx4 hN
    have hk35 : ∀ (x4 : Int32), 0 ≤ x4.toInt ∧ x4.toInt ≤ 1000 → 1000 - x4.toInt < (N35 : Int) → D (lpF (fun _ => none) (fB_X7_isRest_L35 pa qa X P q4 x1 x2 x3) N35 x4) (fun (q : Int32) => (0 ≤ q.toInt ∧ q.toInt ≤ 1)) := ih
    show D (fB_X7_isRest_L35 pa qa X P q4 x1 x2 x3 (lpF (fun _ => none) (fB_X7_isRest_L35 pa qa X P q4 x1 x2 x3) N35) x4) _
    generalize lpF (fun _ => none) (fB_X7_isRest_L35 pa qa X P q4 x1 x2 x3) N35 = k35 at hk35 ⊢
    have hN35 : 1000 - x4.toInt < (N35 : Int) + 1 := by omega
    clear ih
    unfold fB_X7_isRest_L35
    refine D_ck (decide_eq_true hq4) ?_
    have n9 : 0 ≤ (P 0 0).toInt ∧ (P 0 0).toInt ≤ 5 := hP 0 0
    refine D_ite (fun c8 => ?_) (fun c8 => ?_)
    · have kc8 := tq_le (x := (P 0 0)) (y := x4) rfl rfl c8
      have l1 : (1 : Int32).toInt = 1 := by decide
      exact D_some (show (0 ≤ (1 : Int32).toInt ∧ (1 : Int32).toInt ≤ 1) from ⟨(by clear hx1 hx2 hx3 hx4 hN35 hN n9 kc8; omega), (by clear hx1 hx2 hx3 hx4 hN35 hN n9 kc8; omega)⟩)
    · have kc8 := tq_len (x := (P 0 0)) (y := x4) rfl rfl c8
      have n10 := i_mulR (a := x4) (b := (5 : Int32)) 5 (by decide) (by clear hx1 hx2 hx3 hN35 hN; omega) (by clear hx1 hx2 hx3 hN35 hN; omega)
      have n11 : ((x4 * 5) + x3).toInt = (x4 * 5).toInt + x3.toInt := i_addK rfl rfl (by clear hx1 hx2 hN35 hN; omega) (by clear hx1 hx2 hN35 hN; omega)
      refine D_ck (okI_of (by clear hx1 hx2 hN35 hN; omega) (by clear hx1 hx2 hN35 hN; omega)) ?_
      refine D_ck (okI_of (by clear hx2 hx3 hx4 hN35 hN n9 kc8 n10 n11; omega) (by clear hx2 hx3 hx4 hN35 hN n9 kc8 n10 n11; omega)) ?_
      have n13 := i_rng (X 11 ((x4 * 5) + x3).toNatClampNeg)
      have n14 := i_rng (X 11 x1.toNatClampNeg)
      refine D_ite (fun c12 => ?_) (fun c12 => ?_)
      · have kc12 := tq_lt (x := (X 11 ((x4 * 5) + x3).toNatClampNeg)) (y := (X 11 x1.toNatClampNeg)) rfl rfl c12
        have l0 : (0 : Int32).toInt = 0 := by decide
        exact D_some (show (0 ≤ (0 : Int32).toInt ∧ (0 : Int32).toInt ≤ 1) from ⟨(by clear hx1 hx2 hx3 hx4 hN35 hN n9 kc8 n10 n11 n13 n14 kc12; omega), (by clear hx1 hx2 hx3 hx4 hN35 hN n9 kc8 n10 n11 n13 n14 kc12; omega)⟩)
      · have kc12 := tq_ltn (x := (X 11 ((x4 * 5) + x3).toNatClampNeg)) (y := (X 11 x1.toNatClampNeg)) rfl rfl c12
        have n15 := i_mulR (a := x2) (b := (5 : Int32)) 5 (by decide) (by clear hx1 hx3 hx4 hN35 hN n9 kc8 n10 n11 n13 n14 kc12; omega) (by clear hx1 hx3 hx4 hN35 hN n9 kc8 n10 n11 n13 n14 kc12; omega)
        have n16 : ((x2 * 5) + x4).toInt = (x2 * 5).toInt + x4.toInt := i_addK rfl rfl (by clear hx1 hN35 hN n13 n14 kc12; omega) (by clear hx1 hN35 hN n13 n14 kc12; omega)
        refine D_ck (okI_of (by clear hx1 hN35 hN n13 n14 kc12; omega) (by clear hx1 hN35 hN n13 n14 kc12; omega)) ?_
        have n18 := i_rng (X 12 ((x2 * 5) + x4).toNatClampNeg)
        have n19 := i_rng (X 12 x1.toNatClampNeg)
        refine D_ite (fun c17 => ?_) (fun c17 => ?_)
        · have kc17 := tq_le (x := (X 12 x1.toNatClampNeg)) (y := (X 12 ((x2 * 5) + x4).toNatClampNeg)) rfl rfl c17
          have n21 : (x4 + 1).toInt = x4.toInt + 1 := i_addK rfl (by decide) (by clear hx1 hN35 hN n13 n14 kc12 n18 n19 kc17; omega) (by clear hx1 hN35 hN n13 n14 kc12 n18 n19 kc17; omega)
          refine D_lt (fun y20 ey20 => ?_)
          have hy20 : y20.toInt = (x4 + 1 : Int32).toInt := by rw [ey20]
          exact hk35 y20 ⟨(by clear hx1 hN35 hN n13 n14 kc12 n18 n19 kc17; omega), (by clear hx1 hN35 hN n13 n14 kc12 n18 n19 kc17; omega)⟩ (by clear hx1 n13 n14 kc12 n18 n19 kc17; omega)
        · have kc17 := tq_len (x := (X 12 x1.toNatClampNeg)) (y := (X 12 ((x2 * 5) + x4).toNatClampNeg)) rfl rfl c17
          have l0 : (0 : Int32).toInt = 0 := by decide
          exact D_some (show (0 ≤ (0 : Int32).toInt ∧ (0 : Int32).toInt ≤ 1) from ⟨(by clear hx1 hx2 hx3 hx4 hN35 hN n9 kc8 n10 n11 n13 n14 kc12 n15 n16 n18 n19 kc17; omega), (by clear hx1 hx2 hx3 hx4 hN35 hN n9 kc8 n10 n11 n13 n14 kc12 n15 n16 n18 n19 kc17; omega)⟩)
set_option maxHeartbeats 1000000 in
set_option maxRecDepth 100000 in
theorem t_X7_isRest (pa : Nat → Nat) (qa : Nat → Nat) (X : Tr) (P : Tr) (q4 : Nat) (x1 : Int32) (hX : iR BX X) (hP : iR BP P) (hx1 : 0 ≤ x1.toInt ∧ x1.toInt ≤ 24) (hq4 : q4 = pa 0) : D (f_X7_isRest pa qa X P q4 x1) (fun (q : Int32) => (0 ≤ q.toInt ∧ q.toInt ≤ 1)) := by
  unfold f_X7_isRest
  refine D_lt (fun y1 ey1 => ?_)
  have n2 := i_div (a := x1) (b := (5 : Int32)) 5 (by decide) (by decide) (by omega)
  have hy1 : y1.toInt = (x1 / 5).toInt := by rw [ey1]
  refine D_lt (fun y3 ey3 => ?_)
  have n4 := i_rem (a := x1) (b := (5 : Int32)) 5 (by decide) (by decide) (by omega)
  have hy3 : y3.toInt = (x1 - x1 / 5 * 5).toInt := by rw [ey3]
  refine D_ck (decide_eq_true hq4) ?_
  have n6 : 0 ≤ (P 0 0).toInt ∧ (P 0 0).toInt ≤ 5 := hP 0 0
  refine D_ite (fun c5 => ?_) (fun c5 => ?_)
  · have kc5 := tq_le (x := (P 0 0)) (y := y1) rfl rfl c5
    have l0 : (0 : Int32).toInt = 0 := by decide
    exact D_some (show (0 ≤ (0 : Int32).toInt ∧ (0 : Int32).toInt ≤ 1) from ⟨(by clear hx1 n2 hy1 n4 hy3 n6 kc5; omega), (by clear hx1 n2 hy1 n4 hy3 n6 kc5; omega)⟩)
  · have kc5 := tq_len (x := (P 0 0)) (y := y1) rfl rfl c5
    refine D_ite (fun c7 => ?_) (fun c7 => ?_)
    · have kc7 := tq_lt (x := y3) (y := (P 0 0)) rfl rfl c7
      have l0 : (0 : Int32).toInt = 0 := by decide
      exact tl_X7_isRest_L35 pa qa X P (pa 0) x1 y1 y3 hX hP rfl ⟨(by omega), (by omega)⟩ ⟨(by omega), (by omega)⟩ ⟨(by omega), (by omega)⟩   2000 (0 : Int32) ⟨(by clear hx1 n2 hy1 n4 hy3 n6 kc5 kc7; omega), (by clear hx1 n2 hy1 n4 hy3 n6 kc5 kc7; omega)⟩ (by clear hx1 n2 hy1 n4 hy3 n6 kc5 kc7; omega)
    · have kc7 := tq_ltn (x := y3) (y := (P 0 0)) rfl rfl c7
      have l0 : (0 : Int32).toInt = 0 := by decide
      exact D_some (show (0 ≤ (0 : Int32).toInt ∧ (0 : Int32).toInt ≤ 1) from ⟨(by clear hx1 n2 hy1 n4 hy3 n6 kc5 kc7; omega), (by clear hx1 n2 hy1 n4 hy3 n6 kc5 kc7; omega)⟩)
set_option maxHeartbeats 1000000 in
set_option maxRecDepth 100000 in
theorem t_X7_keep (pa : Nat → Nat) (qa : Nat → Nat) (X : Tr) (Tn : Tr) (Ti : Tr) (q0 : Nat) (q1 : Nat) (hX : iR BX X) (hTn : iR BT Tn) (hTi : iR BT Ti) (hq0 : q0 = pa 0) : D (f_X7_keep pa qa X Tn Ti q0 q1) (fun (q : Int32 × Tr × Tr × Nat) => (iR BX (q.2.1)) ∧ (iR BT (q.2.2.1)) ∧ ((q.2.2.2) = pa 0)) := by
  unfold f_X7_keep
  refine D_bd2 (t_X6_copy Ti Tn q1 q0 hTi hTn) (fun Ti_1 q1_2 eq4 hq3 => ?_)
  refine D_lte (y := Ti_1) rfl ?_
  refine D_lte (y := q1_2) rfl ?_
  obtain ⟨p5, p6, p7⟩ : (iR BT Ti_1) ∧ (q1_2 = q0) ∧ (Ti_1 0 0 = Tn 0 0) := hq3
  refine D_lt (fun X_8 eX_8 => ?_)
  have hX_8 : iR BX X_8 := by rw [eX_8]; exact iR_setU hX rfl
  have l1 : (1 : Int32).toInt = 1 := by decide
  have n9 : (X_8 0 4).toInt = (1 : Int32).toInt := by rw [eX_8]; rfl
  have n10 : 0 ≤ (Tn 0 0).toInt ∧ (Tn 0 0).toInt ≤ 21 := hTn 0 0
  exact D_some (show (iR BX X_8) ∧ (iR BT Ti_1) ∧ (q1_2 = pa 0) from ⟨hX_8, p5, (p6.trans hq0)⟩)
set_option maxHeartbeats 1000000 in
set_option maxRecDepth 100000 in
theorem t_X7_known (pa : Nat → Nat) (qa : Nat → Nat) (Z : Tr) (x1 : Int32) (hZ : iR BZ Z) (ddZ : dZ Z) : D (f_X7_known pa qa Z x1) (fun (q : Int32 × Tr) => (0 ≤ (q.1).toInt ∧ (q.1).toInt ≤ 1) ∧ (iR BZ (q.2)) ∧ (dZ (q.2))) := by
  unfold f_X7_known
  have n2 := i_rng x1
  refine D_ite (fun c1 => ?_) (fun c1 => ?_)
  · have kc1 := tq_lt (x := x1) (y := ((-1) : Int32)) rfl (b := (-1)) (by decide) c1
    have l0 : (0 : Int32).toInt = 0 := by decide
    exact D_some (show (0 ≤ (0 : Int32).toInt ∧ (0 : Int32).toInt ≤ 1) ∧ (iR BZ Z) ∧ (dZ Z) from ⟨⟨(by omega), (by omega)⟩, hZ, ddZ⟩)
  · have kc1 := tq_ltn (x := x1) (y := ((-1) : Int32)) rfl (b := (-1)) (by decide) c1
    have n4 : 0 ≤ (Z 0 0).toInt ∧ (Z 0 0).toInt ≤ 24 := hZ 0 0
    refine D_ite (fun c3 => ?_) (fun c3 => ?_)
    · have kc3 := tq_le (x := x1) (y := (Z 0 0)) rfl rfl c3
      refine D_lt (fun Z_5 eZ_5 => ?_)
      have hZ_5 : iR BZ Z_5 := by rw [eZ_5]; exact iR_set hZ (show ((-1) : Int) ≤ _ from (by omega)) (show _ ≤ (24 : Int) from (by omega))
      have kdZ_t6 : dZ Z_5 := by rw [eZ_5]; exact ddZ
      have n7 : (Z_5 0 0).toInt = (Z 0 0).toInt := by rw [eZ_5]; rfl
      have n8 : (Z_5 0 1).toInt = x1.toInt := by rw [eZ_5]; rfl
      have l1 : (1 : Int32).toInt = 1 := by decide
      exact D_some (show (0 ≤ (1 : Int32).toInt ∧ (1 : Int32).toInt ≤ 1) ∧ (iR BZ Z_5) ∧ (dZ Z_5) from ⟨⟨(by clear n2 kc1 n4 kc3 n7 n8; omega), (by clear n2 kc1 n4 kc3 n7 n8; omega)⟩, hZ_5, kdZ_t6⟩)
    · have kc3 := tq_len (x := x1) (y := (Z 0 0)) rfl rfl c3
      have l0 : (0 : Int32).toInt = 0 := by decide
      exact D_some (show (0 ≤ (0 : Int32).toInt ∧ (0 : Int32).toInt ≤ 1) ∧ (iR BZ Z) ∧ (dZ Z) from ⟨⟨(by clear n2 kc1 n4 kc3; omega), (by clear n2 kc1 n4 kc3; omega)⟩, hZ, ddZ⟩)
set_option maxHeartbeats 1000000 in
set_option maxRecDepth 100000 in
theorem t_X7_law (pa : Nat → Nat) (qa : Nat → Nat) (P : Tr) (L : Lo) (Tn : Tr) (q0 : Nat) (q4 : Nat) (x1 : Int32) (x2 : Int32) (hP : iR BP P) (hTn : iR BT Tn) (hq0 : q0 = pa 0) (hq4 : q4 = pa 0) : D (f_X7_law pa qa P L Tn q0 q4 x1 x2) (fun (q : Int64 × Lo × Tr) => (iR BT (q.2.2))) := by
  unfold f_X7_law
  have n2 := i_rng x1
  refine D_ite (fun c1 => ?_) (fun c1 => ?_)
  · have kc1 := tq_lt (x := x1) (y := (0 : Int32)) rfl (b := 0) (by decide) c1
    exact D_some (show (iR BT Tn) from hTn)
  · have kc1 := tq_ltn (x := x1) (y := (0 : Int32)) rfl (b := 0) (by decide) c1
    refine D_ite (fun c3 => ?_) (fun c3 => ?_)
    · have kc3 := tq_le (x := (3 : Int32)) (y := x1) (a := 3) (by decide) rfl c3
      exact D_some (show (iR BT Tn) from hTn)
    · have kc3 := tq_len (x := (3 : Int32)) (y := x1) (a := 3) (by decide) rfl c3
      have n4 := i_rng x2
      refine D_bd (t_X7_isPiece pa qa P q4 x2 hP hq4) (fun r5 eq7 hq6 => ?_)
      obtain ⟨p8, p9⟩ : (0 ≤ r5.toInt ∧ r5.toInt ≤ 1) ∧ (r5.toInt = 1 → 0 ≤ x2.toInt ∧ x2.toInt ≤ 9) := hq6
      refine D_ite (fun c10 => ?_) (fun c10 => ?_)
      · have kc10 := tq_eq (x := r5) (y := (0 : Int32)) rfl (b := 0) (by decide) c10
        exact D_some (show (iR BT Tn) from hTn)
      · have kc100 := tq_eqn (x := r5) (y := (0 : Int32)) rfl (b := 0) (by decide) c10
        have kc10 : 1 ≤ r5.toInt := (by clear n2 kc1 kc3; omega)
        clear kc100
        refine D_ck (decide_eq_true hq4) ?_
        refine D_ck (okI_of (by clear n2 kc1 kc3; omega) (by clear n2 kc1 kc3; omega)) ?_
        have n11 : 0 ≤ (P 14 x2.toNatClampNeg).toInt ∧ (P 14 x2.toNatClampNeg).toInt ≤ 5 := hP 14 x2.toNatClampNeg
        refine D_ck (okI_of (by clear n2 kc1 kc3 n4 p8 p9 kc10; omega) (by clear n2 kc1 kc3 n4 p8 p9 kc10; omega)) ?_
        refine D_ck (decide_eq_true hq0) ?_
        have n12 := i_rng (Tn 10 (P 14 x2.toNatClampNeg).toNatClampNeg)
        refine D_bd3 (t_X6_worked Tn P L x1 x2 (Tn 10 (P 14 x2.toNatClampNeg).toNatClampNeg) hTn hP ⟨(by clear n4 p8 p9 kc10 n11 n12; omega), (by clear n4 p8 p9 kc10 n11 n12; omega)⟩ ⟨(by clear n2 kc1 kc3 n11 n12; omega), (by clear n2 kc1 kc3 n11 n12; omega)⟩) (fun r13 Tn_14 L_15 eq17 hq16 => ?_)
        refine D_lte (y := r13) rfl ?_
        refine D_lte (y := Tn_14) rfl ?_
        refine D_lte (y := L_15) rfl ?_
        obtain ⟨p18, p19⟩ : (iR BT Tn_14) ∧ (Tn_14 0 0 = (Tn 0 0)) := hq16
        exact D_some (show (iR BT Tn_14) from p18)
set_option maxHeartbeats 1000000 in
set_option maxRecDepth 100000 in
theorem tl_X7_listComing_L4 (pa : Nat → Nat) (qa : Nat → Nat) (P : Tr) (Tn : Tr) (q4 : Nat) (hP : iR BP P) (hTn : iR BT Tn) (hq4 : q4 = pa 0)   (N : Nat) : ∀ (x1 : Int32) (x2 : Int32) (X : Tr), iR BX X → 0 ≤ x1.toInt ∧ x1.toInt ≤ 10 → 0 ≤ x2.toInt ∧ x2.toInt ≤ 1000 → x1.toInt ≤ x2.toInt → 1000 - x2.toInt < (N : Int) → D (lpF (fun _ _ _ => none) (fB_X7_listComing_L4 pa qa P Tn q4) N x1 x2 X) (fun (q : Int32 × Tr) => (0 ≤ (q.1).toInt ∧ (q.1).toInt ≤ 10) ∧ (iR BX (q.2))) := by
  induction N with
  | zero =>
    intro x1 x2 X hX hx1 hx2 hsz hN
    exfalso
    omega
  | succ N4 ih =>
    intro x1 x2 X hX hx1 hx2 hsz hN
    have hk4 : ∀ (x1 : Int32) (x2 : Int32) (X : Tr), iR BX X → 0 ≤ x1.toInt ∧ x1.toInt ≤ 10 → 0 ≤ x2.toInt ∧ x2.toInt ≤ 1000 → x1.toInt ≤ x2.toInt → 1000 - x2.toInt < (N4 : Int) → D (lpF (fun _ _ _ => none) (fB_X7_listComing_L4 pa qa P Tn q4) N4 x1 x2 X) (fun (q : Int32 × Tr) => (0 ≤ (q.1).toInt ∧ (q.1).toInt ≤ 10) ∧ (iR BX (q.2))) := ih
    show D (fB_X7_listComing_L4 pa qa P Tn q4 (lpF (fun _ _ _ => none) (fB_X7_listComing_L4 pa qa P Tn q4) N4) x1 x2 X) _
    generalize lpF (fun _ _ _ => none) (fB_X7_listComing_L4 pa qa P Tn q4) N4 = k4 at hk4 ⊢
    have hN4 : 1000 - x2.toInt < (N4 : Int) + 1 := by omega
    clear ih
    unfold fB_X7_listComing_L4
    refine D_ck (decide_eq_true hq4) ?_
    have n2 : 0 ≤ (P 0 2).toInt ∧ (P 0 2).toInt ≤ 10 := hP 0 2
    refine D_ite (fun c1 => ?_) (fun c1 => ?_)
    · have kc1 := tq_le (x := (P 0 2)) (y := x2) rfl rfl c1
      exact D_some (show (0 ≤ x1.toInt ∧ x1.toInt ≤ 10) ∧ (iR BX X) from ⟨⟨(by omega), (by omega)⟩, hX⟩)
    · have kc1 := tq_len (x := (P 0 2)) (y := x2) rfl rfl c1
      refine D_bd (t_X7_comesNow pa qa P Tn (pa 0) x2 hP hTn rfl) (fun r3 eq5 hq4 => ?_)
      obtain ⟨p6, p7⟩ : (0 ≤ r3.toInt ∧ r3.toInt ≤ 1) ∧ (r3.toInt = 1 → 0 ≤ x2.toInt ∧ x2.toInt ≤ 9 ∧ (Tn 0 0).toInt ≤ 20) := hq4
      refine D_ite (fun c8 => ?_) (fun c8 => ?_)
      · have kc8 := tq_eq (x := r3) (y := (0 : Int32)) rfl (b := 0) (by decide) c8
        have n10 : (x2 + 1).toInt = x2.toInt + 1 := i_addK rfl (by decide) (by omega) (by omega)
        refine D_lt (fun y9 ey9 => ?_)
        have hy9 : y9.toInt = (x2 + 1 : Int32).toInt := by rw [ey9]
        exact hk4 x1 y9 X hX ⟨(by omega), (by omega)⟩ ⟨(by omega), (by omega)⟩ (by omega) (by omega)
      · have kc80 := tq_eqn (x := r3) (y := (0 : Int32)) rfl (b := 0) (by decide) c8
        have kc8 : 1 ≤ r3.toInt := (by omega)
        clear kc80
        refine D_ck (okI_of (by omega) (by omega)) ?_
        refine D_lt (fun X_11 eX_11 => ?_)
        have hX_11 : iR BX X_11 := by rw [eX_11]; exact iR_set hX (show (0 : Int) ≤ _ from (by omega)) (show _ ≤ (9 : Int) from (by omega))
        have n13 : (x1 + 1).toInt = x1.toInt + 1 := i_addK rfl (by decide) (by omega) (by omega)
        refine D_lt (fun y12 ey12 => ?_)
        have hy12 : y12.toInt = (x1 + 1 : Int32).toInt := by rw [ey12]
        have n15 : (x2 + 1).toInt = x2.toInt + 1 := i_addK rfl (by decide) (by omega) (by omega)
        refine D_lt (fun y14 ey14 => ?_)
        have hy14 : y14.toInt = (x2 + 1 : Int32).toInt := by rw [ey14]
        exact hk4 y12 y14 X_11 hX_11 ⟨(by omega), (by omega)⟩ ⟨(by omega), (by omega)⟩ (by omega) (by omega)
set_option maxHeartbeats 1000000 in
set_option maxRecDepth 100000 in
theorem t_X7_listComing (pa : Nat → Nat) (qa : Nat → Nat) (X : Tr) (P : Tr) (Tn : Tr) (q4 : Nat) (hX : iR BX X) (hP : iR BP P) (hTn : iR BT Tn) (hq4 : q4 = pa 0) : D (f_X7_listComing pa qa X P Tn q4) (fun (q : Int32 × Tr) => (0 ≤ (q.1).toInt ∧ (q.1).toInt ≤ 10) ∧ (iR BX (q.2))) := by
  unfold f_X7_listComing
  have l0 : (0 : Int32).toInt = 0 := by decide
  exact tl_X7_listComing_L4 pa qa P Tn q4 hP hTn hq4   2000 (0 : Int32) (0 : Int32) X hX ⟨(by omega), (by omega)⟩ ⟨(by omega), (by omega)⟩ (by omega) (by omega)
set_option maxHeartbeats 1000000 in
set_option maxRecDepth 100000 in
theorem t_X7_least (pa : Nat → Nat) (qa : Nat → Nat) (X : Tr) (P : Tr) (L : Lo) (Tn : Tr) (Tu : Tr) (Tv : Tr) (q0 : Nat) (q2 : Nat) (q3 : Nat) (q4 : Nat) (x1 : Int32) (hX : iR BX X) (hP : iR BP P) (hTn : iR BT Tn) (hTu : iR BT Tu) (hTv : iR BT Tv) (hq0 : q0 = pa 0) (hq4 : q4 = pa 0) : D (f_X7_least pa qa X P L Tn Tu Tv q0 q2 q3 q4 x1) (fun (q : Int32 × Tr × Lo × Tr × Tr × Nat × Nat) => (iR BX (q.2.1)) ∧ (iR BT (q.2.2.2.1)) ∧ (iR BT (q.2.2.2.2.1))) := by
  unfold f_X7_least
  have n2 := i_rng x1
  refine D_ite (fun c1 => ?_) (fun c1 => ?_)
  · have kc1 := tq_lt (x := x1) (y := (0 : Int32)) rfl (b := 0) (by decide) c1
    have lm1 : ((-1) : Int32).toInt = (-1) := by decide
    exact D_some (show (iR BX X) ∧ (iR BT Tu) ∧ (iR BT Tv) from ⟨hX, hTu, hTv⟩)
  · have kc1 := tq_ltn (x := x1) (y := (0 : Int32)) rfl (b := 0) (by decide) c1
    refine D_ite (fun c3 => ?_) (fun c3 => ?_)
    · have kc3 := tq_lt (x := (4 : Int32)) (y := x1) (a := 4) (by decide) rfl c3
      have lm1 : ((-1) : Int32).toInt = (-1) := by decide
      exact D_some (show (iR BX X) ∧ (iR BT Tu) ∧ (iR BT Tv) from ⟨hX, hTu, hTv⟩)
    · have kc3 := tq_ltn (x := (4 : Int32)) (y := x1) (a := 4) (by decide) rfl c3
      have n5 : 0 ≤ (Tn 0 0).toInt ∧ (Tn 0 0).toInt ≤ 21 := hTn 0 0
      refine D_ite (fun c4 => ?_) (fun c4 => ?_)
      · have kc4 := tq_le (x := (Tn 0 0)) (y := (20 : Int32)) rfl (b := 20) (by decide) c4
        refine D_bd2 (t_X7_listComing pa qa X P Tn q4 hX hP hTn hq4) (fun r6 X_7 eq9 hq8 => ?_)
        refine D_lte (y := r6) rfl ?_
        refine D_lte (y := X_7) rfl ?_
        obtain ⟨p10, p11⟩ : (0 ≤ r6.toInt ∧ r6.toInt ≤ 10) ∧ (iR BX X_7) := hq8
        refine D_ite (fun c12 => ?_) (fun c12 => ?_)
        · have kc12 := tq_le (x := r6) (y := (4 : Int32)) rfl (b := 4) (by decide) c12
          refine D_bd6 (t_X7_findLeast pa qa X_7 P L Tn Tu Tv q0 q2 q3 q4 r6 p11 hP hTn hTu hTv ⟨(by clear n2 kc1 kc3 n5 kc4; omega), (by clear n2 kc1 kc3 n5 kc4; omega)⟩ hq0 hq4 (by first | assumption | exact (by clear n2 kc1 kc3 p10 kc12; omega))) (fun r13 L_14 Tu_15 Tv_16 q2_17 q3_18 eq20 hq19 => ?_)
          refine D_lte (y := r13) rfl ?_
          refine D_lte (y := L_14) rfl ?_
          refine D_lte (y := Tu_15) rfl ?_
          refine D_lte (y := Tv_16) rfl ?_
          refine D_lte (y := q2_17) rfl ?_
          refine D_lte (y := q3_18) rfl ?_
          obtain ⟨p21, p22⟩ : (iR BT Tu_15) ∧ (iR BT Tv_16) := hq19
          have n23 := i_rng r13
          refine D_ite (fun c24 => ?_) (fun c24 => ?_)
          · have kc24 := tq_le (x := (0 : Int32)) (y := r13) (a := 0) (by decide) rfl c24
            refine D_ite (fun c25 => ?_) (fun c25 => ?_)
            · have kc25 := tq_eq (x := x1) (y := (0 : Int32)) rfl (b := 0) (by decide) c25
              have n26 := i_div (a := r13) (b := (1024 : Int32)) 1024 (by decide) (by decide) (by clear n2 kc1 kc3 n5 kc4 p10 kc12 kc25; omega)
              exact D_some (show (iR BX X_7) ∧ (iR BT Tu_15) ∧ (iR BT Tv_16) from ⟨p11, p21, p22⟩)
            · have kc250 := tq_eqn (x := x1) (y := (0 : Int32)) rfl (b := 0) (by decide) c25
              have kc25 : 1 ≤ x1.toInt := (by clear n5 kc4 p10 kc12 n23 kc24; omega)
              clear kc250
              refine D_ite (fun c27 => ?_) (fun c27 => ?_)
              · have kc27 := tq_le (x := x1) (y := r6) rfl rfl c27
                have n28 := i_rem (a := r13) (b := (1024 : Int32)) 1024 (by decide) (by decide) (by clear n2 kc1 kc3 n5 kc4 p10 kc12 kc25 kc27; omega)
                have n29 : (r6 - x1).toInt = r6.toInt - x1.toInt := i_subK rfl rfl (by clear n5 kc4 n23 kc24 n28; omega) (by clear n5 kc4 n23 kc24 n28; omega)
                refine D_bd (t_X7_digit pa qa P q4 (r13 - r13 / 1024 * 1024) (r6 - x1) hP ⟨(by clear n2 kc1 kc3 n5 kc4 p10 kc12 kc25 kc27 n29; omega), (by clear n2 kc1 kc3 n5 kc4 p10 kc12 kc25 kc27 n29; omega)⟩ ⟨(by clear n5 kc4 n23 kc24 n28; omega), (by clear n5 kc4 n23 kc24 n28; omega)⟩ hq4) (fun r30 eq32 hq31 => ?_)
                have p33 : (-1) ≤ r30.toInt ∧ r30.toInt ≤ 4 := hq31
                exact D_some (show (iR BX X_7) ∧ (iR BT Tu_15) ∧ (iR BT Tv_16) from ⟨p11, p21, p22⟩)
              · have kc27 := tq_len (x := x1) (y := r6) rfl rfl c27
                have lm2 : ((-2) : Int32).toInt = (-2) := by decide
                exact D_some (show (iR BX X_7) ∧ (iR BT Tu_15) ∧ (iR BT Tv_16) from ⟨p11, p21, p22⟩)
          · have kc24 := tq_len (x := (0 : Int32)) (y := r13) (a := 0) (by decide) rfl c24
            have lm3 : ((-3) : Int32).toInt = (-3) := by decide
            exact D_some (show (iR BX X_7) ∧ (iR BT Tu_15) ∧ (iR BT Tv_16) from ⟨p11, p21, p22⟩)
        · have kc12 := tq_len (x := r6) (y := (4 : Int32)) rfl (b := 4) (by decide) c12
          have lm4 : ((-4) : Int32).toInt = (-4) := by decide
          exact D_some (show (iR BX X_7) ∧ (iR BT Tu) ∧ (iR BT Tv) from ⟨p11, hTu, hTv⟩)
      · have kc4 := tq_len (x := (Tn 0 0)) (y := (20 : Int32)) rfl (b := 20) (by decide) c4
        have lm1 : ((-1) : Int32).toInt = (-1) := by decide
        exact D_some (show (iR BX X) ∧ (iR BT Tu) ∧ (iR BT Tv) from ⟨hX, hTu, hTv⟩)
set_option maxHeartbeats 1000000 in
set_option maxRecDepth 100000 in
theorem t_X7_mine (pa : Nat → Nat) (qa : Nat → Nat) (P : Tr) (L : Lo) (Tn : Tr) (Tu : Tr) (q0 : Nat) (q2 : Nat) (q4 : Nat) (x1 : Int32) (x2 : Int32) (hP : iR BP P) (hTn : iR BT Tn) (hTu : iR BT Tu) (hq0 : q0 = pa 0) (hq4 : q4 = pa 0) : D (f_X7_mine pa qa P L Tn Tu q0 q2 q4 x1 x2) (fun (q : Int32 × Lo × Tr × Nat) => (iR BT (q.2.2.1))) := by
  unfold f_X7_mine
  have n2 := i_rng x2
  refine D_ite (fun c1 => ?_) (fun c1 => ?_)
  · have kc1 := tq_lt (x := x2) (y := (0 : Int32)) rfl (b := 0) (by decide) c1
    have lm1 : ((-1) : Int32).toInt = (-1) := by decide
    exact D_some (show (iR BT Tu) from hTu)
  · have kc1 := tq_ltn (x := x2) (y := (0 : Int32)) rfl (b := 0) (by decide) c1
    refine D_ite (fun c3 => ?_) (fun c3 => ?_)
    · have kc3 := tq_lt (x := (3 : Int32)) (y := x2) (a := 3) (by decide) rfl c3
      have lm1 : ((-1) : Int32).toInt = (-1) := by decide
      exact D_some (show (iR BT Tu) from hTu)
    · have kc3 := tq_ltn (x := (3 : Int32)) (y := x2) (a := 3) (by decide) rfl c3
      have n4 := i_rng x1
      refine D_bd (t_X7_comesNow pa qa P Tn q4 x1 hP hTn hq4) (fun r5 eq7 hq6 => ?_)
      obtain ⟨p8, p9⟩ : (0 ≤ r5.toInt ∧ r5.toInt ≤ 1) ∧ (r5.toInt = 1 → 0 ≤ x1.toInt ∧ x1.toInt ≤ 9 ∧ (Tn 0 0).toInt ≤ 20) := hq6
      refine D_ite (fun c10 => ?_) (fun c10 => ?_)
      · have kc10 := tq_eq (x := r5) (y := (0 : Int32)) rfl (b := 0) (by decide) c10
        have lm1 : ((-1) : Int32).toInt = (-1) := by decide
        exact D_some (show (iR BT Tu) from hTu)
      · have kc100 := tq_eqn (x := r5) (y := (0 : Int32)) rfl (b := 0) (by decide) c10
        have kc10 : 1 ≤ r5.toInt := (by clear n2 kc1 kc3; omega)
        clear kc100
        refine D_ite (fun c11 => ?_) (fun c11 => ?_)
        · have kc11 := tq_lt (x := x2) (y := (2 : Int32)) rfl (b := 2) (by decide) c11
          unfold fJ_X7_mine_J31
          have l0 : (0 : Int32).toInt = 0 := by decide
          refine D_bd4 (t_X7_findMine pa qa P L Tn Tu q0 q2 q4 x1 (0 : Int32) hP hTn hTu ⟨(by clear n2 kc1 kc3 kc11; omega), (by clear n2 kc1 kc3 kc11; omega)⟩ hq0 hq4 (by first | assumption | exact (by clear n2 kc1 kc3 kc11; omega))) (fun r12 L_13 Tu_14 q2_15 eq17 hq16 => ?_)
          refine D_lte (y := r12) rfl ?_
          refine D_lte (y := L_13) rfl ?_
          refine D_lte (y := Tu_14) rfl ?_
          refine D_lte (y := q2_15) rfl ?_
          have p18 : iR BT Tu_14 := hq16
          have n19 := i_rng r12
          refine D_ite (fun c20 => ?_) (fun c20 => ?_)
          · have kc20 := tq_le (x := (0 : Int32)) (y := r12) (a := 0) (by decide) rfl c20
            have n22 := i_rem (a := x2) (b := (2 : Int32)) 2 (by decide) (by decide) (by clear n4 p8 p9 kc10 n19 kc20; omega)
            refine D_ite (fun c21 => ?_) (fun c21 => ?_)
            · have kc21 := tq_eq (x := (x2 - x2 / 2 * 2)) (y := (0 : Int32)) rfl (b := 0) (by decide) c21
              have n23 := i_rem (a := r12) (b := (5 : Int32)) 5 (by decide) (by decide) (by clear n2 kc1 kc3 n4 p8 p9 kc10 kc11 n22 kc21; omega)
              exact D_some (show (iR BT Tu_14) from p18)
            · have kc210 := tq_eqn (x := (x2 - x2 / 2 * 2)) (y := (0 : Int32)) rfl (b := 0) (by decide) c21
              have kc21 : 1 ≤ (x2 - x2 / 2 * 2).toInt := (by clear n4 p8 p9 kc10 n19 kc20; omega)
              clear kc210
              have n24 := i_div (a := r12) (b := (5 : Int32)) 5 (by decide) (by decide) (by clear n2 kc1 kc3 n4 p8 p9 kc10 kc11 n22 kc21; omega)
              exact D_some (show (iR BT Tu_14) from p18)
          · have kc20 := tq_len (x := (0 : Int32)) (y := r12) (a := 0) (by decide) rfl c20
            have lm2 : ((-2) : Int32).toInt = (-2) := by decide
            exact D_some (show (iR BT Tu_14) from p18)
        · have kc11 := tq_ltn (x := x2) (y := (2 : Int32)) rfl (b := 2) (by decide) c11
          unfold fJ_X7_mine_J31
          have l1 : (1 : Int32).toInt = 1 := by decide
          refine D_bd4 (t_X7_findMine pa qa P L Tn Tu q0 q2 q4 x1 (1 : Int32) hP hTn hTu ⟨(by clear n2 kc1 kc3 kc11; omega), (by clear n2 kc1 kc3 kc11; omega)⟩ hq0 hq4 (by first | assumption | exact (by clear n2 kc1 kc3 kc11; omega))) (fun r25 L_26 Tu_27 q2_28 eq30 hq29 => ?_)
          refine D_lte (y := r25) rfl ?_
          refine D_lte (y := L_26) rfl ?_
          refine D_lte (y := Tu_27) rfl ?_
          refine D_lte (y := q2_28) rfl ?_
          have p31 : iR BT Tu_27 := hq29
          have n32 := i_rng r25
          refine D_ite (fun c33 => ?_) (fun c33 => ?_)
          · have kc33 := tq_le (x := (0 : Int32)) (y := r25) (a := 0) (by decide) rfl c33
            have n35 := i_rem (a := x2) (b := (2 : Int32)) 2 (by decide) (by decide) (by clear n4 p8 p9 kc10 n32 kc33; omega)
            refine D_ite (fun c34 => ?_) (fun c34 => ?_)
            · have kc34 := tq_eq (x := (x2 - x2 / 2 * 2)) (y := (0 : Int32)) rfl (b := 0) (by decide) c34
              have n36 := i_rem (a := r25) (b := (5 : Int32)) 5 (by decide) (by decide) (by clear n2 kc1 kc3 n4 p8 p9 kc10 kc11 n35 kc34; omega)
              exact D_some (show (iR BT Tu_27) from p31)
            · have kc340 := tq_eqn (x := (x2 - x2 / 2 * 2)) (y := (0 : Int32)) rfl (b := 0) (by decide) c34
              have kc34 : 1 ≤ (x2 - x2 / 2 * 2).toInt := (by clear n4 p8 p9 kc10 n32 kc33; omega)
              clear kc340
              have n37 := i_div (a := r25) (b := (5 : Int32)) 5 (by decide) (by decide) (by clear n2 kc1 kc3 n4 p8 p9 kc10 kc11 n35 kc34; omega)
              exact D_some (show (iR BT Tu_27) from p31)
          · have kc33 := tq_len (x := (0 : Int32)) (y := r25) (a := 0) (by decide) rfl c33
            have lm2 : ((-2) : Int32).toInt = (-2) := by decide
            exact D_some (show (iR BT Tu_27) from p31)
set_option maxHeartbeats 1000000 in
set_option maxRecDepth 100000 in
theorem tl_X7_missed_L23 (zTu_0_0 : Int32) (pa : Nat → Nat) (qa : Nat → Nat) (P : Tr) (Tn : Tr) (q0 : Nat) (q2 : Nat) (q4 : Nat) (x1 : Int32) (hP : iR BP P) (hTn : iR BT Tn) (hq0 : q0 = pa 0) (hq2 : q2 = pa 0) (hq4 : q4 = pa 0) (hx1 : 0 ≤ x1.toInt ∧ x1.toInt ≤ 1)   (N : Nat) : ∀ (x2 : Int32) (L : Lo) (Tu : Tr) (Tv : Tr) (q3 : Nat), iR BT Tu → iR BT Tv → 0 ≤ x2.toInt ∧ x2.toInt ≤ 1000 → (Tu 0 0).toInt = x2.toInt → 1000 - x2.toInt < (N : Int) → D (lpF (fun _ _ _ _ _ => none) (fB_X7_missed_L23 pa qa P Tn q0 q2 q4 x1) N x2 L Tu Tv q3) (fun (q : Int32 × Lo × Tr × Tr × Nat × Nat) => (iR BT (q.2.2.1)) ∧ (iR BT (q.2.2.2.1))) := by
  induction N with
  | zero =>
    intro x2 L Tu Tv q3 hTu hTv hx2 hst hN
    exfalso
    omega
  | succ N23 ih =>
    intro x2 L Tu Tv q3 hTu hTv hx2 hst hN
    have hk23 : ∀ (x2 : Int32) (L : Lo) (Tu : Tr) (Tv : Tr) (q3 : Nat), iR BT Tu → iR BT Tv → 0 ≤ x2.toInt ∧ x2.toInt ≤ 1000 → (Tu 0 0).toInt = x2.toInt → 1000 - x2.toInt < (N23 : Int) → D (lpF (fun _ _ _ _ _ => none) (fB_X7_missed_L23 pa qa P Tn q0 q2 q4 x1) N23 x2 L Tu Tv q3) (fun (q : Int32 × Lo × Tr × Tr × Nat × Nat) => (iR BT (q.2.2.1)) ∧ (iR BT (q.2.2.2.1))) := ih
    show D (fB_X7_missed_L23 pa qa P Tn q0 q2 q4 x1 (lpF (fun _ _ _ _ _ => none) (fB_X7_missed_L23 pa qa P Tn q0 q2 q4 x1) N23) x2 L Tu Tv q3) _
    generalize lpF (fun _ _ _ _ _ => none) (fB_X7_missed_L23 pa qa P Tn q0 q2 q4 x1) N23 = k23 at hk23 ⊢
    have hN23 : 1000 - x2.toInt < (N23 : Int) + 1 := by omega
    clear ih
    unfold fB_X7_missed_L23
    refine D_ite (fun c15 => ?_) (fun c15 => ?_)
    · have kc15 := tq_lt (x := (20 : Int32)) (y := x2) (a := 20) (by decide) rfl c15
      have lm2 : ((-2) : Int32).toInt = (-2) := by decide
      exact D_some (show (iR BT Tu) ∧ (iR BT Tv) from ⟨hTu, hTv⟩)
    · have kc15 := tq_ltn (x := (20 : Int32)) (y := x2) (a := 20) (by decide) rfl c15
      refine D_bd2 (t_X6_copy Tv Tu q3 q2 hTv hTu) (fun Tv_16 q3_17 eq19 hq18 => ?_)
      refine D_lte (y := Tv_16) rfl ?_
      refine D_lte (y := q3_17) rfl ?_
      obtain ⟨p20, p21, p22⟩ : (iR BT Tv_16) ∧ (q3_17 = q2) ∧ (Tv_16 0 0 = Tu 0 0) := hq18
      refine D_ck (decide_eq_true hq4) ?_
      refine D_ck (okI_of (by clear hx1 hN23 hN; omega) (by clear hx1 hN23 hN; omega)) ?_
      refine D_ck (decide_eq_true hq2) ?_
      have n23 := i_rng (P 18 x2.toNatClampNeg)
      refine D_bd3 (t_X6_takeDown Tu P L (P 18 x2.toNatClampNeg) hTu hP) (fun r24 Tu_25 L_26 eq28 hq27 => ?_)
      refine D_lte (y := r24) rfl ?_
      refine D_lte (y := Tu_25) rfl ?_
      refine D_lte (y := L_26) rfl ?_
      obtain ⟨p29, p30⟩ : (iR BT Tu_25) ∧ (Tu_25 0 0 = (Tu 0 0)) := hq27
      have n31 := i_rng r24
      have k32 : Tu_25 0 0 = (Tu 0 0) := p30
      refine D_bd (t_X6_firstLate Tu_25 P p29 hP) (fun r33 eq35 hq34 => ?_)
      have p36 : (-1) ≤ r33.toInt ∧ r33.toInt ≤ 5 := hq34
      refine D_ite (fun c37 => ?_) (fun c37 => ?_)
      · have kc37 := tq_lt (x := r33) (y := (0 : Int32)) rfl (b := 0) (by decide) c37
        refine D_bd (t_X6_getIn Tu_25 P p29 hP) (fun Tu_38 eq40 hq39 => ?_)
        obtain ⟨p41, p42⟩ : (iR BT Tu_38) ∧ (Tu_38 0 0 = (Tu_25 0 0)) := hq39
        have k43 : Tu_38 0 0 = (Tu 0 0) := p42.trans k32
        have n44 : 0 ≤ (Tu_38 0 0).toInt ∧ (Tu_38 0 0).toInt ≤ 21 := p41 0 0
        have n45 : 0 ≤ (Tu 0 0).toInt ∧ (Tu 0 0).toInt ≤ 21 := hTu 0 0
        have kz46 : (Tu_38 0 0).toInt = (Tu 0 0).toInt := congrArg Int32.toInt k43
        refine D_bd2 (t_X6_wayOn Tu_38 P L_26 p41 hP (by clear hx1 hN23 hN n23 n31 p36 kc37; omega)) (fun Tu_47 L_48 eq50 hq49 => ?_)
        refine D_lte (y := Tu_47) rfl ?_
        refine D_lte (y := L_48) rfl ?_
        obtain ⟨p51, p52⟩ : (iR BT Tu_47) ∧ ((Tu_47 0 0).toInt = (Tu_38 0 0).toInt + 1) := hq49
        have n54 : (x2 + 1).toInt = x2.toInt + 1 := i_addK rfl (by decide) (by clear hx1 hN23 hN n23 n31 p36 kc37; omega) (by clear hx1 hN23 hN n23 n31 p36 kc37; omega)
        refine D_lt (fun y53 ey53 => ?_)
        have hy53 : y53.toInt = (x2 + 1 : Int32).toInt := by rw [ey53]
        have n55 : 0 ≤ (Tu_47 0 0).toInt ∧ (Tu_47 0 0).toInt ≤ 21 := p51 0 0
        exact hk23 y53 L_48 Tu_47 Tv_16 q3_17 p51 p20 ⟨(by clear hx1 hN23 hN n23 n31 p36 kc37; omega), (by clear hx1 hN23 hN n23 n31 p36 kc37; omega)⟩ (by clear hx1 hN23 hN n23 n31 p36 kc37; omega) (by clear hx1 n23 n31 p36 kc37; omega)
      · have kc37 := tq_ltn (x := r33) (y := (0 : Int32)) rfl (b := 0) (by decide) c37
        unfold fJ_X7_missed_J69
        refine D_ite (fun c56 => ?_) (fun c56 => ?_)
        · have kc56 := tq_eq (x := x1) (y := (0 : Int32)) rfl (b := 0) (by decide) c56
          exact D_some (show (iR BT Tu_25) ∧ (iR BT Tv_16) from ⟨p29, p20⟩)
        · have kc560 := tq_eqn (x := x1) (y := (0 : Int32)) rfl (b := 0) (by decide) c56
          have kc56 : 1 ≤ x1.toInt := (by clear hx2 hst hN23 hN kc15 n23 n31 p36 kc37; omega)
          clear kc560
          refine D_ck (decide_eq_true (p21.trans hq2)) ?_
          have l1000000 : (1000000 : Int32).toInt = 1000000 := by decide
          refine D_bd3 (t_X6_takeDown Tv_16 P L_26 (1000000 : Int32) p20 hP) (fun r57 Tv_58 L_59 eq61 hq60 => ?_)
          refine D_lte (y := r57) rfl ?_
          refine D_lte (y := Tv_58) rfl ?_
          refine D_lte (y := L_59) rfl ?_
          obtain ⟨p62, p63⟩ : (iR BT Tv_58) ∧ (Tv_58 0 0 = (Tv_16 0 0)) := hq60
          have n64 := i_rng r57
          refine D_ck (decide_eq_true rfl) ?_
          refine D_ck (okI_of (by clear hx1 hN23 hN n23 n31 p36 kc37 kc56 n64; omega) (by clear hx1 hN23 hN n23 n31 p36 kc37 kc56 n64; omega)) ?_
          have n65 := i_rng (r57 - (P 18 x2.toNatClampNeg))
          exact D_some (show (iR BT Tu_25) ∧ (iR BT Tv_58) from ⟨p29, p62⟩)
set_option maxHeartbeats 1000000 in
set_option maxRecDepth 100000 in
theorem t_X7_missed (pa : Nat → Nat) (qa : Nat → Nat) (P : Tr) (L : Lo) (Tn : Tr) (Tu : Tr) (Tv : Tr) (q0 : Nat) (q2 : Nat) (q3 : Nat) (q4 : Nat) (x1 : Int32) (hP : iR BP P) (hTn : iR BT Tn) (hTu : iR BT Tu) (hTv : iR BT Tv) (hq0 : q0 = pa 0) (hq4 : q4 = pa 0) : D (f_X7_missed pa qa P L Tn Tu Tv q0 q2 q3 q4 x1) (fun (q : Int32 × Lo × Tr × Tr × Nat × Nat) => (iR BT (q.2.2.1)) ∧ (iR BT (q.2.2.2.1))) := by
  unfold f_X7_missed
  have n2 := i_rng x1
  refine D_ite (fun c1 => ?_) (fun c1 => ?_)
  · have kc1 := tq_lt (x := x1) (y := (0 : Int32)) rfl (b := 0) (by decide) c1
    have lm1 : ((-1) : Int32).toInt = (-1) := by decide
    exact D_some (show (iR BT Tu) ∧ (iR BT Tv) from ⟨hTu, hTv⟩)
  · have kc1 := tq_ltn (x := x1) (y := (0 : Int32)) rfl (b := 0) (by decide) c1
    refine D_ite (fun c3 => ?_) (fun c3 => ?_)
    · have kc3 := tq_le (x := x1) (y := (1 : Int32)) rfl (b := 1) (by decide) c3
      refine D_bd2 (t_X7_startTrial pa qa Tn Tu q0 q2 hTn hTu) (fun Tu_4 q2_5 eq7 hq6 => ?_)
      refine D_lte (y := Tu_4) rfl ?_
      refine D_lte (y := q2_5) rfl ?_
      obtain ⟨p8, p9, p10⟩ : (iR BT Tu_4) ∧ (q2_5 = q0) ∧ (Tu_4 0 0 = Tn 0 0) := hq6
      have n11 : 0 ≤ (Tu_4 0 0).toInt ∧ (Tu_4 0 0).toInt ≤ 21 := p8 0 0
      have n12 : 0 ≤ (Tn 0 0).toInt ∧ (Tn 0 0).toInt ≤ 21 := hTn 0 0
      have kz13 : (Tu_4 0 0).toInt = (Tn 0 0).toInt := congrArg Int32.toInt p10
      refine D_lt (fun y14 ey14 => ?_)
      have hy14 : y14.toInt = (Tn 0 0).toInt := by rw [ey14]
      exact tl_X7_missed_L23 (Tu 0 0) pa qa P Tn q0 q2_5 q4 x1 hP hTn hq0 (p9.trans hq0) hq4 ⟨(by clear n11 n12 kz13 hy14; omega), (by clear n11 n12 kz13 hy14; omega)⟩   2000 y14 L Tu_4 Tv q3 p8 hTv ⟨(by clear n2 kc1 kc3; omega), (by clear n2 kc1 kc3; omega)⟩ (by clear n2 kc1 kc3; omega) (by clear n2 kc1 kc3; omega)
    · have kc3 := tq_len (x := x1) (y := (1 : Int32)) rfl (b := 1) (by decide) c3
      have lm1 : ((-1) : Int32).toInt = (-1) := by decide
      exact D_some (show (iR BT Tu) ∧ (iR BT Tv) from ⟨hTu, hTv⟩)
set_option maxHeartbeats 1000000 in
set_option maxRecDepth 100000 in
theorem t_X7_move (pa : Nat → Nat) (qa : Nat → Nat) (P : Tr) (Tn : Tr) (C : Tr) (q0 : Nat) (q4 : Nat) (x1 : Int32) (x2 : Int32) (hP : iR BP P) (hTn : iR BT Tn) (hC : iR BC C) (hq0 : q0 = pa 0) (hq4 : q4 = pa 0) : D (f_X7_move pa qa P Tn C q0 q4 x1 x2) (fun (q : Int32 × Tr × Tr) => (0 ≤ (q.1).toInt ∧ (q.1).toInt ≤ 1) ∧ (iR BT (q.2.1)) ∧ (iR BC (q.2.2))) := by
  unfold f_X7_move
  have n1 := i_rng x1
  refine D_bd (t_X7_isPiece pa qa P q4 x1 hP hq4) (fun r2 eq4 hq3 => ?_)
  obtain ⟨p5, p6⟩ : (0 ≤ r2.toInt ∧ r2.toInt ≤ 1) ∧ (r2.toInt = 1 → 0 ≤ x1.toInt ∧ x1.toInt ≤ 9) := hq3
  refine D_ite (fun c7 => ?_) (fun c7 => ?_)
  · have kc7 := tq_eq (x := r2) (y := (0 : Int32)) rfl (b := 0) (by decide) c7
    have l0 : (0 : Int32).toInt = 0 := by decide
    exact D_some (show (0 ≤ (0 : Int32).toInt ∧ (0 : Int32).toInt ≤ 1) ∧ (iR BT Tn) ∧ (iR BC C) from ⟨⟨(by clear n1 p5 p6 kc7; omega), (by clear n1 p5 p6 kc7; omega)⟩, hTn, hC⟩)
  · have kc70 := tq_eqn (x := r2) (y := (0 : Int32)) rfl (b := 0) (by decide) c7
    have kc7 : 1 ≤ r2.toInt := (by omega)
    clear kc70
    have n8 := i_rng x2
    refine D_bd (t_X7_isPlace pa qa P q4 x2 hP hq4) (fun r9 eq11 hq10 => ?_)
    obtain ⟨p12, p13⟩ : (0 ≤ r9.toInt ∧ r9.toInt ≤ 1) ∧ (r9.toInt = 1 → 0 ≤ x2.toInt ∧ x2.toInt ≤ 4) := hq10
    refine D_ite (fun c14 => ?_) (fun c14 => ?_)
    · have kc14 := tq_eq (x := r9) (y := (0 : Int32)) rfl (b := 0) (by decide) c14
      have l0 : (0 : Int32).toInt = 0 := by decide
      exact D_some (show (0 ≤ (0 : Int32).toInt ∧ (0 : Int32).toInt ≤ 1) ∧ (iR BT Tn) ∧ (iR BC C) from ⟨⟨(by clear n1 p5 p6 kc7 n8 p12 p13 kc14; omega), (by clear n1 p5 p6 kc7 n8 p12 p13 kc14; omega)⟩, hTn, hC⟩)
    · have kc140 := tq_eqn (x := r9) (y := (0 : Int32)) rfl (b := 0) (by decide) c14
      have kc14 : 1 ≤ r9.toInt := (by clear n1 p5 p6 kc7; omega)
      clear kc140
      refine D_ck (okI_of (by clear n8 p12 p13 kc14; omega) (by clear n8 p12 p13 kc14; omega)) ?_
      have n16 : (-1) ≤ (Tn 15 x1.toNatClampNeg).toInt ∧ (Tn 15 x1.toNatClampNeg).toInt ≤ 4 := hTn 15 x1.toNatClampNeg
      refine D_ite (fun c15 => ?_) (fun c15 => ?_)
      · have kc15 := tq_lt (x := (Tn 15 x1.toNatClampNeg)) (y := (0 : Int32)) rfl (b := 0) (by decide) c15
        have l0 : (0 : Int32).toInt = 0 := by decide
        exact D_some (show (0 ≤ (0 : Int32).toInt ∧ (0 : Int32).toInt ≤ 1) ∧ (iR BT Tn) ∧ (iR BC C) from ⟨⟨(by clear n1 p5 p6 kc7 n8 p12 p13 kc14 n16 kc15; omega), (by clear n1 p5 p6 kc7 n8 p12 p13 kc14 n16 kc15; omega)⟩, hTn, hC⟩)
      · have kc15 := tq_ltn (x := (Tn 15 x1.toNatClampNeg)) (y := (0 : Int32)) rfl (b := 0) (by decide) c15
        refine D_ck (decide_eq_true hq0) ?_
        refine D_bd (t_X6_top Tn x2 hTn ⟨(by clear n1 p5 p6 kc7 n16 kc15; omega), (by clear n1 p5 p6 kc7 n16 kc15; omega)⟩) (fun r17 eq19 hq18 => ?_)
        have p20 : (-1) ≤ r17.toInt ∧ r17.toInt ≤ 9 := hq18
        refine D_ite (fun c21 => ?_) (fun c21 => ?_)
        · have kc21 := tq_eq (x := r17) (y := x1) rfl rfl c21
          have l0 : (0 : Int32).toInt = 0 := by decide
          exact D_some (show (0 ≤ (0 : Int32).toInt ∧ (0 : Int32).toInt ≤ 1) ∧ (iR BT Tn) ∧ (iR BC C) from ⟨⟨(by clear n1 p5 p6 kc7 n8 p12 p13 kc14 n16 kc15 p20 kc21; omega), (by clear n1 p5 p6 kc7 n8 p12 p13 kc14 n16 kc15 p20 kc21; omega)⟩, hTn, hC⟩)
        · skip
          refine D_ite (fun c22 => ?_) (fun c22 => ?_)
          · have kc22 := tq_eq (x := (Tn 15 x1.toNatClampNeg)) (y := x2) rfl rfl c22
            unfold fJ_X7_move_J69
            refine D_bd (t_X0_save_x_na0 pa qa Tn C hTn hC) (fun C_23 eq25 hq24 => ?_)
            have p26 : iR BC C_23 := hq24
            refine D_ck (decide_eq_true rfl) ?_
            have l1 : (1 : Int32).toInt = 1 := by decide
            refine D_bd (t_X6_takeAway Tn P x1 (1 : Int32) hTn hP ⟨(by clear n8 p12 p13 kc14 n16 kc15 p20 kc22; omega), (by clear n8 p12 p13 kc14 n16 kc15 p20 kc22; omega)⟩) (fun Tn_27 eq29 hq28 => ?_)
            obtain ⟨p30, p31⟩ : (iR BT Tn_27) ∧ (Tn_27 0 0 = (Tn 0 0)) := hq28
            refine D_bd (t_X6_putOn Tn_27 P x2 x1 p30 hP ⟨(by clear n1 p5 p6 kc7 p20; omega), (by clear n1 p5 p6 kc7 p20; omega)⟩ ⟨(by clear n8 p12 p13 kc14 n16 kc15 p20 kc22; omega), (by clear n8 p12 p13 kc14 n16 kc15 p20 kc22; omega)⟩) (fun Tn_32 eq34 hq33 => ?_)
            obtain ⟨p35, p36⟩ : (iR BT Tn_32) ∧ (Tn_32 0 0 = (Tn_27 0 0)) := hq33
            exact D_some (show (0 ≤ (1 : Int32).toInt ∧ (1 : Int32).toInt ≤ 1) ∧ (iR BT Tn_32) ∧ (iR BC C_23) from ⟨⟨(by clear n1 p5 p6 kc7 n8 p12 p13 kc14 n16 kc15 p20 kc22; omega), (by clear n1 p5 p6 kc7 n8 p12 p13 kc14 n16 kc15 p20 kc22; omega)⟩, p35, p26⟩)
          · skip
            refine D_bd (t_X6_hasRoom Tn P x2 x1 hTn hP ⟨(by clear n1 p5 p6 kc7 n16 kc15 p20; omega), (by clear n1 p5 p6 kc7 n16 kc15 p20; omega)⟩ ⟨(by clear n8 p12 p13 kc14 n16 kc15 p20; omega), (by clear n8 p12 p13 kc14 n16 kc15 p20; omega)⟩) (fun r37 eq39 hq38 => ?_)
            have p40 : 0 ≤ r37.toInt ∧ r37.toInt ≤ 1 := hq38
            refine D_ite (fun c41 => ?_) (fun c41 => ?_)
            · have kc41 := tq_eq (x := r37) (y := (0 : Int32)) rfl (b := 0) (by decide) c41
              have l0 : (0 : Int32).toInt = 0 := by decide
              exact D_some (show (0 ≤ (0 : Int32).toInt ∧ (0 : Int32).toInt ≤ 1) ∧ (iR BT Tn) ∧ (iR BC C) from ⟨⟨(by clear n1 p5 p6 kc7 n8 p12 p13 kc14 n16 kc15 p20 p40 kc41; omega), (by clear n1 p5 p6 kc7 n8 p12 p13 kc14 n16 kc15 p20 p40 kc41; omega)⟩, hTn, hC⟩)
            · have kc410 := tq_eqn (x := r37) (y := (0 : Int32)) rfl (b := 0) (by decide) c41
              have kc41 : 1 ≤ r37.toInt := (by clear n1 p5 p6 kc7 n8 p12 p13 kc14 n16 kc15 p20; omega)
              clear kc410
              unfold fJ_X7_move_J69
              refine D_bd (t_X0_save_x_na0 pa qa Tn C hTn hC) (fun C_42 eq44 hq43 => ?_)
              have p45 : iR BC C_42 := hq43
              refine D_ck (decide_eq_true rfl) ?_
              have l1 : (1 : Int32).toInt = 1 := by decide
              refine D_bd (t_X6_takeAway Tn P x1 (1 : Int32) hTn hP ⟨(by clear n8 p12 p13 kc14 n16 kc15 p20 p40 kc41; omega), (by clear n8 p12 p13 kc14 n16 kc15 p20 p40 kc41; omega)⟩) (fun Tn_46 eq48 hq47 => ?_)
              obtain ⟨p49, p50⟩ : (iR BT Tn_46) ∧ (Tn_46 0 0 = (Tn 0 0)) := hq47
              refine D_bd (t_X6_putOn Tn_46 P x2 x1 p49 hP ⟨(by clear n1 p5 p6 kc7 n16 kc15 p20 p40 kc41; omega), (by clear n1 p5 p6 kc7 n16 kc15 p20 p40 kc41; omega)⟩ ⟨(by clear n8 p12 p13 kc14 n16 kc15 p20 p40 kc41; omega), (by clear n8 p12 p13 kc14 n16 kc15 p20 p40 kc41; omega)⟩) (fun Tn_51 eq53 hq52 => ?_)
              obtain ⟨p54, p55⟩ : (iR BT Tn_51) ∧ (Tn_51 0 0 = (Tn_46 0 0)) := hq52
              exact D_some (show (0 ≤ (1 : Int32).toInt ∧ (1 : Int32).toInt ≤ 1) ∧ (iR BT Tn_51) ∧ (iR BC C_42) from ⟨⟨(by clear n1 p5 p6 kc7 n8 p12 p13 kc14 n16 kc15 p20 p40 kc41; omega), (by clear n1 p5 p6 kc7 n8 p12 p13 kc14 n16 kc15 p20 p40 kc41; omega)⟩, p54, p45⟩)
set_option maxHeartbeats 1000000 in
set_option maxRecDepth 100000 in
theorem tl_X2_personNamed_x_L2 (pa : Nat → Nat) (qa : Nat → Nat) (P : Tr) (x1 : Int32) (hP : iR BP P)   (N : Nat) : ∀ (x2 : Int32), 0 ≤ x2.toInt ∧ x2.toInt ≤ 1000 → 1000 - x2.toInt < (N : Int) → D (lpF (fun _ => none) (fB_X2_personNamed_x_L2 pa qa P x1) N x2) (fun (q : Int32) => ((-1) ≤ q.toInt ∧ q.toInt ≤ 5)) := by
  induction N with
  | zero =>
    intro x2 hx2 hN
    exfalso
    omega
  | succ N2 ih =>
    intro x2 hx2 hN
    have hk2 : ∀ (x2 : Int32), 0 ≤ x2.toInt ∧ x2.toInt ≤ 1000 → 1000 - x2.toInt < (N2 : Int) → D (lpF (fun _ => none) (fB_X2_personNamed_x_L2 pa qa P x1) N2 x2) (fun (q : Int32) => ((-1) ≤ q.toInt ∧ q.toInt ≤ 5)) := ih
    show D (fB_X2_personNamed_x_L2 pa qa P x1 (lpF (fun _ => none) (fB_X2_personNamed_x_L2 pa qa P x1) N2) x2) _
    generalize lpF (fun _ => none) (fB_X2_personNamed_x_L2 pa qa P x1) N2 = k2 at hk2 ⊢
    have hN2 : 1000 - x2.toInt < (N2 : Int) + 1 := by omega
    clear ih
    unfold fB_X2_personNamed_x_L2
    have n2 : 0 ≤ (P 0 1).toInt ∧ (P 0 1).toInt ≤ 6 := hP 0 1
    refine D_ite (fun c1 => ?_) (fun c1 => ?_)
    · have kc1 := tq_le (x := (P 0 1)) (y := x2) rfl rfl c1
      have lm1 : ((-1) : Int32).toInt = (-1) := by decide
      exact D_some (show ((-1) ≤ ((-1) : Int32).toInt ∧ ((-1) : Int32).toInt ≤ 5) from ⟨(by clear hx2 hN2 hN n2 kc1; omega), (by clear hx2 hN2 hN n2 kc1; omega)⟩)
    · have kc1 := tq_len (x := (P 0 1)) (y := x2) rfl rfl c1
      refine D_ck (okI_of (by omega) (by omega)) ?_
      have n4 := i_rng (P 10 x2.toNatClampNeg)
      have n5 := i_rng x1
      refine D_ite (fun c3 => ?_) (fun c3 => ?_)
      · have kc3 := tq_eq (x := (P 10 x2.toNatClampNeg)) (y := x1) rfl rfl c3
        exact D_some (show ((-1) ≤ x2.toInt ∧ x2.toInt ≤ 5) from ⟨(by clear hN2 hN n4 n5 kc3; omega), (by clear hN2 hN n4 n5 kc3; omega)⟩)
      · skip
        have n7 : (x2 + 1).toInt = x2.toInt + 1 := i_addK rfl (by decide) (by clear hN2 hN n4 n5; omega) (by clear hN2 hN n4 n5; omega)
        refine D_lt (fun y6 ey6 => ?_)
        have hy6 : y6.toInt = (x2 + 1 : Int32).toInt := by rw [ey6]
        exact hk2 y6 ⟨(by clear hN2 hN n4 n5; omega), (by clear hN2 hN n4 n5; omega)⟩ (by omega)
set_option maxHeartbeats 1000000 in
set_option maxRecDepth 100000 in
theorem t_X2_personNamed_x (pa : Nat → Nat) (qa : Nat → Nat) (P : Tr) (x1 : Int32) (hP : iR BP P) : D (f_X2_personNamed_x pa qa P x1) (fun (q : Int32) => ((-1) ≤ q.toInt ∧ q.toInt ≤ 5)) := by
  unfold f_X2_personNamed_x
  have l0 : (0 : Int32).toInt = 0 := by decide
  have n8 := i_rng x1
  exact tl_X2_personNamed_x_L2 pa qa P x1 hP   2000 (0 : Int32) ⟨(by omega), (by omega)⟩ (by omega)
set_option maxHeartbeats 1000000 in
set_option maxRecDepth 100000 in
theorem t_X7_named (pa : Nat → Nat) (qa : Nat → Nat) (P : Tr) (q4 : Nat) (x1 : Int32) (hP : iR BP P) (hq4 : q4 = pa 0) : D (f_X7_named pa qa P q4 x1) (fun (q : Int32) => True) := by
  unfold f_X7_named
  refine D_ck (decide_eq_true hq4) ?_
  have n1 := i_rng x1
  refine D_bd (t_X2_personNamed_x pa qa P x1 hP) (fun r2 eq4 hq3 => ?_)
  have p5 : (-1) ≤ r2.toInt ∧ r2.toInt ≤ 5 := hq3
  exact D_some trivial
set_option maxHeartbeats 1000000 in
set_option maxRecDepth 100000 in
theorem t_X7_piece (pa : Nat → Nat) (qa : Nat → Nat) (P : Tr) (Tn : Tr) (q0 : Nat) (q4 : Nat) (x1 : Int32) (x2 : Int32) (hP : iR BP P) (hTn : iR BT Tn) (hq0 : q0 = pa 0) (hq4 : q4 = pa 0) : D (f_X7_piece pa qa P Tn q0 q4 x1 x2) (fun (q : Int32) => True) := by
  unfold f_X7_piece
  have n1 := i_rng x1
  refine D_bd (t_X7_isPiece pa qa P q4 x1 hP hq4) (fun r2 eq4 hq3 => ?_)
  obtain ⟨p5, p6⟩ : (0 ≤ r2.toInt ∧ r2.toInt ≤ 1) ∧ (r2.toInt = 1 → 0 ≤ x1.toInt ∧ x1.toInt ≤ 9) := hq3
  refine D_ite (fun c7 => ?_) (fun c7 => ?_)
  · have kc7 := tq_eq (x := r2) (y := (0 : Int32)) rfl (b := 0) (by decide) c7
    have lm1 : ((-1) : Int32).toInt = (-1) := by decide
    exact D_some trivial
  · have kc70 := tq_eqn (x := r2) (y := (0 : Int32)) rfl (b := 0) (by decide) c7
    have kc7 : 1 ≤ r2.toInt := (by omega)
    clear kc70
    have n8 := i_rng x2
    refine D_ite (fun c9 => ?_) (fun c9 => ?_)
    · have kc9 := tq_eq (x := x2) (y := (0 : Int32)) rfl (b := 0) (by decide) c9
      refine D_ck (decide_eq_true hq4) ?_
      refine D_ck (okI_of (by omega) (by omega)) ?_
      have n10 : 0 ≤ (P 14 x1.toNatClampNeg).toInt ∧ (P 14 x1.toNatClampNeg).toInt ≤ 5 := hP 14 x1.toNatClampNeg
      exact D_some trivial
    · skip
      refine D_ite (fun c11 => ?_) (fun c11 => ?_)
      · have kc11 := tq_eq (x := x2) (y := (1 : Int32)) rfl (b := 1) (by decide) c11
        refine D_ck (decide_eq_true hq4) ?_
        refine D_ck (okI_of (by omega) (by omega)) ?_
        have n12 := i_rng (P 15 x1.toNatClampNeg)
        exact D_some trivial
      · skip
        refine D_ite (fun c13 => ?_) (fun c13 => ?_)
        · have kc13 := tq_eq (x := x2) (y := (2 : Int32)) rfl (b := 2) (by decide) c13
          refine D_ck (decide_eq_true hq4) ?_
          refine D_ck (okI_of (by omega) (by omega)) ?_
          have n14 := i_rng (P 16 x1.toNatClampNeg)
          exact D_some trivial
        · skip
          refine D_ite (fun c15 => ?_) (fun c15 => ?_)
          · have kc15 := tq_eq (x := x2) (y := (3 : Int32)) rfl (b := 3) (by decide) c15
            refine D_ck (okI_of (by omega) (by omega)) ?_
            have n16 := i_rng (Tn 14 x1.toNatClampNeg)
            exact D_some trivial
          · skip
            refine D_ite (fun c17 => ?_) (fun c17 => ?_)
            · have kc17 := tq_eq (x := x2) (y := (4 : Int32)) rfl (b := 4) (by decide) c17
              refine D_ck (okI_of (by omega) (by omega)) ?_
              have n18 : (-1) ≤ (Tn 15 x1.toNatClampNeg).toInt ∧ (Tn 15 x1.toNatClampNeg).toInt ≤ 4 := hTn 15 x1.toNatClampNeg
              exact D_some trivial
            · skip
              refine D_ite (fun c19 => ?_) (fun c19 => ?_)
              · have kc19 := tq_eq (x := x2) (y := (5 : Int32)) rfl (b := 5) (by decide) c19
                refine D_ck (decide_eq_true hq0) ?_
                refine D_bd (t_X6_above Tn x1 hTn ⟨(by omega), (by omega)⟩) (fun r20 eq22 hq21 => ?_)
                have n23 := i_rng r20
                exact D_some trivial
              · skip
                have lm1 : ((-1) : Int32).toInt = (-1) := by decide
                exact D_some trivial
set_option maxHeartbeats 1000000 in
set_option maxRecDepth 100000 in
theorem t_X7_place (pa : Nat → Nat) (qa : Nat → Nat) (P : Tr) (Tn : Tr) (q0 : Nat) (q4 : Nat) (x1 : Int32) (x2 : Int32) (hP : iR BP P) (hTn : iR BT Tn) (hq0 : q0 = pa 0) (hq4 : q4 = pa 0) : D (f_X7_place pa qa P Tn q0 q4 x1 x2) (fun (q : Int32) => True) := by
  unfold f_X7_place
  have n1 := i_rng x1
  refine D_bd (t_X7_isPlace pa qa P q4 x1 hP hq4) (fun r2 eq4 hq3 => ?_)
  obtain ⟨p5, p6⟩ : (0 ≤ r2.toInt ∧ r2.toInt ≤ 1) ∧ (r2.toInt = 1 → 0 ≤ x1.toInt ∧ x1.toInt ≤ 4) := hq3
  refine D_ite (fun c7 => ?_) (fun c7 => ?_)
  · have kc7 := tq_eq (x := r2) (y := (0 : Int32)) rfl (b := 0) (by decide) c7
    have lm1 : ((-1) : Int32).toInt = (-1) := by decide
    exact D_some trivial
  · have kc70 := tq_eqn (x := r2) (y := (0 : Int32)) rfl (b := 0) (by decide) c7
    have kc7 : 1 ≤ r2.toInt := (by omega)
    clear kc70
    have n8 := i_rng x2
    refine D_ite (fun c9 => ?_) (fun c9 => ?_)
    · have kc9 := tq_eq (x := x2) (y := (0 : Int32)) rfl (b := 0) (by decide) c9
      refine D_ck (decide_eq_true hq4) ?_
      refine D_ck (okI_of (by omega) (by omega)) ?_
      have n10 := i_rng (P 8 x1.toNatClampNeg)
      exact D_some trivial
    · skip
      refine D_ite (fun c11 => ?_) (fun c11 => ?_)
      · have kc11 := tq_eq (x := x2) (y := (1 : Int32)) rfl (b := 1) (by decide) c11
        refine D_ck (decide_eq_true hq4) ?_
        refine D_ck (okI_of (by omega) (by omega)) ?_
        have n12 := i_rng (P 9 x1.toNatClampNeg)
        exact D_some trivial
      · skip
        refine D_ite (fun c13 => ?_) (fun c13 => ?_)
        · have kc13 := tq_eq (x := x2) (y := (2 : Int32)) rfl (b := 2) (by decide) c13
          refine D_ck (okI_of (by omega) (by omega)) ?_
          have n14 := i_rng (Tn 18 x1.toNatClampNeg)
          exact D_some trivial
        · skip
          refine D_ite (fun c15 => ?_) (fun c15 => ?_)
          · have kc15 := tq_eq (x := x2) (y := (3 : Int32)) rfl (b := 3) (by decide) c15
            refine D_ck (okI_of (by omega) (by omega)) ?_
            have n16 : 0 ≤ (Tn 17 x1.toNatClampNeg).toInt ∧ (Tn 17 x1.toNatClampNeg).toInt ≤ 10 := hTn 17 x1.toNatClampNeg
            exact D_some trivial
          · skip
            refine D_ite (fun c17 => ?_) (fun c17 => ?_)
            · have kc17 := tq_eq (x := x2) (y := (4 : Int32)) rfl (b := 4) (by decide) c17
              refine D_ck (decide_eq_true hq0) ?_
              refine D_bd (t_X6_top Tn x1 hTn ⟨(by omega), (by omega)⟩) (fun r18 eq20 hq19 => ?_)
              have p21 : (-1) ≤ r18.toInt ∧ r18.toInt ≤ 9 := hq19
              exact D_some trivial
            · skip
              have lm1 : ((-1) : Int32).toInt = (-1) := by decide
              exact D_some trivial
set_option maxHeartbeats 1000000 in
set_option maxRecDepth 100000 in
theorem tl_X7_workOutCosts_L16 (pa : Nat → Nat) (qa : Nat → Nat) (P : Tr) (Tn : Tr) (q0 : Nat) (q4 : Nat) (x1 : Int32) (x2 : Int32) (x3 : Int32) (N2 : Nat) (hP : iR BP P) (hTn : iR BT Tn) (hq0 : q0 = pa 0) (hq4 : q4 = pa 0) (hx1 : 0 ≤ x1.toInt ∧ x1.toInt ≤ 9) (hx2 : 0 ≤ x2.toInt ∧ x2.toInt ≤ 9) (hx3 : 0 ≤ x3.toInt ∧ x3.toInt ≤ 4) (hN2 : 1000 - x3.toInt < (N2 : Int) + 1) (k2 : Int32 → Tr → Lo → Tr → Nat → Option (Tr × Lo × Tr × Nat)) (hk2 : ∀ (x3 : Int32) (X : Tr) (L : Lo) (Tu : Tr) (q2 : Nat), iR BX X → iR BT Tu → 0 ≤ x3.toInt ∧ x3.toInt ≤ 1000 → 1000 - x3.toInt < (N2 : Int) → D (k2 x3 X L Tu q2) (fun (q : Tr × Lo × Tr × Nat) => (iR BX (q.1)) ∧ (iR BT (q.2.2.1)))) (N : Nat) : ∀ (x4 : Int32) (X : Tr) (L : Lo) (Tu : Tr) (q2 : Nat), iR BX X → iR BT Tu → 0 ≤ x4.toInt ∧ x4.toInt ≤ 1000 → 1000 - x4.toInt < (N : Int) → D (lpF (fun _ _ _ _ _ => none) (fB_X7_workOutCosts_L16 k2 pa qa P Tn q0 q4 x1 x2 x3) N x4 X L Tu q2) (fun (q : Tr × Lo × Tr × Nat) => (iR BX (q.1)) ∧ (iR BT (q.2.2.1))) := by
  induction N with
  | zero =>
    intro x4 X L Tu q2 hX hTu hx4 hN
    exfalso
    omega
  | succ N16 ih =>
    intro x4 X L Tu q2 hX hTu hx4 hN
    have hk16 : ∀ (x4 : Int32) (X : Tr) (L : Lo) (Tu : Tr) (q2 : Nat), iR BX X → iR BT Tu → 0 ≤ x4.toInt ∧ x4.toInt ≤ 1000 → 1000 - x4.toInt < (N16 : Int) → D (lpF (fun _ _ _ _ _ => none) (fB_X7_workOutCosts_L16 k2 pa qa P Tn q0 q4 x1 x2 x3) N16 x4 X L Tu q2) (fun (q : Tr × Lo × Tr × Nat) => (iR BX (q.1)) ∧ (iR BT (q.2.2.1))) := ih
    show D (fB_X7_workOutCosts_L16 k2 pa qa P Tn q0 q4 x1 x2 x3 (lpF (fun _ _ _ _ _ => none) (fB_X7_workOutCosts_L16 k2 pa qa P Tn q0 q4 x1 x2 x3) N16) x4 X L Tu q2) _
    generalize lpF (fun _ _ _ _ _ => none) (fB_X7_workOutCosts_L16 k2 pa qa P Tn q0 q4 x1 x2 x3) N16 = k16 at hk16 ⊢
    have hN16 : 1000 - x4.toInt < (N16 : Int) + 1 := by omega
    clear ih
    unfold fB_X7_workOutCosts_L16
    refine D_ck (decide_eq_true hq4) ?_
    have n4 : 0 ≤ (P 0 0).toInt ∧ (P 0 0).toInt ≤ 5 := hP 0 0
    refine D_ite (fun c3 => ?_) (fun c3 => ?_)
    · have kc3 := tq_le (x := (P 0 0)) (y := x4) rfl rfl c3
      have n6 : (x3 + 1).toInt = x3.toInt + 1 := i_addK rfl (by decide) (by clear hx1 hx2 hx4 hN2 hN16 hN n4 kc3; omega) (by clear hx1 hx2 hx4 hN2 hN16 hN n4 kc3; omega)
      refine D_lt (fun y5 ey5 => ?_)
      have hy5 : y5.toInt = (x3 + 1 : Int32).toInt := by rw [ey5]
      exact hk2 y5 X L Tu q2 hX hTu ⟨(by clear hx1 hx2 hx4 hN2 hN16 hN n4 kc3; omega), (by clear hx1 hx2 hx4 hN2 hN16 hN n4 kc3; omega)⟩ (by clear hx1 hx2 hx4 hN16 hN n4 kc3; omega)
    · have kc3 := tq_len (x := (P 0 0)) (y := x4) rfl rfl c3
      refine D_bd2 (t_X7_startTrial pa qa Tn Tu q0 q2 hTn hTu) (fun Tu_7 q2_8 eq10 hq9 => ?_)
      refine D_lte (y := Tu_7) rfl ?_
      refine D_lte (y := q2_8) rfl ?_
      obtain ⟨p11, p12, p13⟩ : (iR BT Tu_7) ∧ (q2_8 = q0) ∧ (Tu_7 0 0 = Tn 0 0) := hq9
      refine D_ck (okI_of (by clear hx2 hx3 hx4 hN2 hN16 hN n4 kc3; omega) (by clear hx2 hx3 hx4 hN2 hN16 hN n4 kc3; omega)) ?_
      refine D_lt (fun Tu_14 eTu_14 => ?_)
      have hTu_14 : iR BT Tu_14 := by rw [eTu_14]; exact iR_set p11 (show ((-1) : Int) ≤ _ from (by clear hx1 hx2 hx4 hN2 hN16 hN n4 kc3; omega)) (show _ ≤ (4 : Int) from (by clear hx1 hx2 hx4 hN2 hN16 hN n4 kc3; omega))
      refine D_ck (okI_of (by clear hx1 hx3 hx4 hN2 hN16 hN n4 kc3; omega) (by clear hx1 hx3 hx4 hN2 hN16 hN n4 kc3; omega)) ?_
      refine D_lt (fun Tu_15 eTu_15 => ?_)
      have hTu_15 : iR BT Tu_15 := by rw [eTu_15]; exact iR_set hTu_14 (show ((-1) : Int) ≤ _ from (by clear hx1 hx2 hx3 hN2 hN16 hN; omega)) (show _ ≤ (4 : Int) from (by clear hx1 hx2 hx3 hN2 hN16 hN; omega))
      refine D_ck (decide_eq_true (p12.trans hq0)) ?_
      refine D_bd2 (t_X6_runToEnd Tu_15 P L hTu_15 hP) (fun Tu_16 L_17 eq19 hq18 => ?_)
      refine D_lte (y := Tu_16) rfl ?_
      refine D_lte (y := L_17) rfl ?_
      have p20 : iR BT Tu_16 := hq18
      refine D_bd (t_X7_costOf pa qa P Tu_16 (pa 0) x1 hP p20 ⟨(by clear hx2 hx3 hx4 hN2 hN16 hN n4 kc3; omega), (by clear hx2 hx3 hx4 hN2 hN16 hN n4 kc3; omega)⟩ rfl) (fun r21 eq23 hq22 => ?_)
      have n24 := i_rng r21
      have n25 := i_mulR (a := x3) (b := (5 : Int32)) 5 (by decide) (by clear hx1 hx2 hx4 hN2 hN16 hN n4 kc3 n24; omega) (by clear hx1 hx2 hx4 hN2 hN16 hN n4 kc3 n24; omega)
      have n26 : ((x3 * 5) + x4).toInt = (x3 * 5).toInt + x4.toInt := i_addK rfl rfl (by clear hx1 hx2 hN2 hN16 hN n24; omega) (by clear hx1 hx2 hN2 hN16 hN n24; omega)
      refine D_ck (okI_of (by clear hx1 hx2 hN2 hN16 hN n24; omega) (by clear hx1 hx2 hN2 hN16 hN n24; omega)) ?_
      refine D_lt (fun X_27 eX_27 => ?_)
      have hX_27 : iR BX X_27 := by rw [eX_27]; exact iR_setU hX rfl
      refine D_bd (t_X7_costOf pa qa P Tu_16 (pa 0) x2 hP p20 ⟨(by clear hx1 hx3 hx4 hN2 hN16 hN n4 kc3 n24 n25 n26; omega), (by clear hx1 hx3 hx4 hN2 hN16 hN n4 kc3 n24 n25 n26; omega)⟩ rfl) (fun r28 eq30 hq29 => ?_)
      have n31 := i_rng r28
      refine D_lt (fun X_32 eX_32 => ?_)
      have hX_32 : iR BX X_32 := by rw [eX_32]; exact iR_setU hX_27 rfl
      have n34 : (x4 + 1).toInt = x4.toInt + 1 := i_addK rfl (by decide) (by clear hx1 hx2 hN2 hN16 hN n24 n31; omega) (by clear hx1 hx2 hN2 hN16 hN n24 n31; omega)
      refine D_lt (fun y33 ey33 => ?_)
      have hy33 : y33.toInt = (x4 + 1 : Int32).toInt := by rw [ey33]
      exact hk16 y33 X_32 L_17 Tu_16 (pa 0) hX_32 p20 ⟨(by clear hx1 hx2 hN2 hN16 hN n24 n31; omega), (by clear hx1 hx2 hN2 hN16 hN n24 n31; omega)⟩ (by clear hx1 hx2 hN2 n24 n31; omega)
set_option maxHeartbeats 1000000 in
set_option maxRecDepth 100000 in
theorem tl_X7_workOutCosts_L2 (pa : Nat → Nat) (qa : Nat → Nat) (P : Tr) (Tn : Tr) (q0 : Nat) (q4 : Nat) (x1 : Int32) (x2 : Int32) (hP : iR BP P) (hTn : iR BT Tn) (hq0 : q0 = pa 0) (hq4 : q4 = pa 0) (hx1 : 0 ≤ x1.toInt ∧ x1.toInt ≤ 9) (hx2 : 0 ≤ x2.toInt ∧ x2.toInt ≤ 9)   (N : Nat) : ∀ (x3 : Int32) (X : Tr) (L : Lo) (Tu : Tr) (q2 : Nat), iR BX X → iR BT Tu → 0 ≤ x3.toInt ∧ x3.toInt ≤ 1000 → 1000 - x3.toInt < (N : Int) → D (lpF (fun _ _ _ _ _ => none) (fB_X7_workOutCosts_L2 pa qa P Tn q0 q4 x1 x2) N x3 X L Tu q2) (fun (q : Tr × Lo × Tr × Nat) => (iR BX (q.1)) ∧ (iR BT (q.2.2.1))) := by
  induction N with
  | zero =>
    intro x3 X L Tu q2 hX hTu hx3 hN
    exfalso
    omega
  | succ N2 ih =>
    intro x3 X L Tu q2 hX hTu hx3 hN
    have hk2 : ∀ (x3 : Int32) (X : Tr) (L : Lo) (Tu : Tr) (q2 : Nat), iR BX X → iR BT Tu → 0 ≤ x3.toInt ∧ x3.toInt ≤ 1000 → 1000 - x3.toInt < (N2 : Int) → D (lpF (fun _ _ _ _ _ => none) (fB_X7_workOutCosts_L2 pa qa P Tn q0 q4 x1 x2) N2 x3 X L Tu q2) (fun (q : Tr × Lo × Tr × Nat) => (iR BX (q.1)) ∧ (iR BT (q.2.2.1))) := ih
    show D (fB_X7_workOutCosts_L2 pa qa P Tn q0 q4 x1 x2 (lpF (fun _ _ _ _ _ => none) (fB_X7_workOutCosts_L2 pa qa P Tn q0 q4 x1 x2) N2) x3 X L Tu q2) _
    generalize lpF (fun _ _ _ _ _ => none) (fB_X7_workOutCosts_L2 pa qa P Tn q0 q4 x1 x2) N2 = k2 at hk2 ⊢
    have hN2 : 1000 - x3.toInt < (N2 : Int) + 1 := by omega
    clear ih
    unfold fB_X7_workOutCosts_L2
    refine D_ck (decide_eq_true hq4) ?_
    have n2 : 0 ≤ (P 0 0).toInt ∧ (P 0 0).toInt ≤ 5 := hP 0 0
    refine D_ite (fun c1 => ?_) (fun c1 => ?_)
    · have kc1 := tq_le (x := (P 0 0)) (y := x3) rfl rfl c1
      exact D_some (show (iR BX X) ∧ (iR BT Tu) from ⟨hX, hTu⟩)
    · have kc1 := tq_len (x := (P 0 0)) (y := x3) rfl rfl c1
      have l0 : (0 : Int32).toInt = 0 := by decide
      exact tl_X7_workOutCosts_L16 pa qa P Tn q0 (pa 0) x1 x2 x3 N2 hP hTn hq0 rfl ⟨(by clear hx2 hx3 hN2 hN n2 kc1; omega), (by clear hx2 hx3 hN2 hN n2 kc1; omega)⟩ ⟨(by clear hx1 hx3 hN2 hN n2 kc1; omega), (by clear hx1 hx3 hN2 hN n2 kc1; omega)⟩ ⟨(by clear hx1 hx2 hN2 hN; omega), (by clear hx1 hx2 hN2 hN; omega)⟩ hN2 k2 hk2 2000 (0 : Int32) X L Tu q2 hX hTu ⟨(by clear hx1 hx2 hx3 hN2 hN n2 kc1; omega), (by clear hx1 hx2 hx3 hN2 hN n2 kc1; omega)⟩ (by clear hx1 hx2 hx3 hN2 hN n2 kc1; omega)
set_option maxHeartbeats 1000000 in
set_option maxRecDepth 100000 in
theorem t_X7_workOutCosts (pa : Nat → Nat) (qa : Nat → Nat) (X : Tr) (P : Tr) (L : Lo) (Tn : Tr) (Tu : Tr) (q0 : Nat) (q2 : Nat) (q4 : Nat) (x1 : Int32) (x2 : Int32) (hX : iR BX X) (hP : iR BP P) (hTn : iR BT Tn) (hTu : iR BT Tu) (hx1 : 0 ≤ x1.toInt ∧ x1.toInt ≤ 9) (hx2 : 0 ≤ x2.toInt ∧ x2.toInt ≤ 9) (hq0 : q0 = pa 0) (hq4 : q4 = pa 0) : D (f_X7_workOutCosts pa qa X P L Tn Tu q0 q2 q4 x1 x2) (fun (q : Tr × Lo × Tr × Nat) => (iR BX (q.1)) ∧ (iR BT (q.2.2.1))) := by
  unfold f_X7_workOutCosts
  have l0 : (0 : Int32).toInt = 0 := by decide
  exact tl_X7_workOutCosts_L2 pa qa P Tn q0 q4 x1 x2 hP hTn hq0 hq4 ⟨(by omega), (by omega)⟩ ⟨(by omega), (by omega)⟩   2000 (0 : Int32) X L Tu q2 hX hTu ⟨(by omega), (by omega)⟩ (by omega)
set_option maxHeartbeats 1000000 in
set_option maxRecDepth 100000 in
theorem tl_X7_rest_L27 (pa : Nat → Nat) (qa : Nat → Nat) (X : Tr) (P : Tr) (L : Lo) (Tn : Tr) (Tu : Tr) (q0 : Nat) (q2 : Nat) (q4 : Nat) (x3 : Int32) (hX : iR BX X) (hP : iR BP P) (hTn : iR BT Tn) (hTu : iR BT Tu) (hq0 : q0 = pa 0) (hq4 : q4 = pa 0) (hx3 : 0 ≤ x3.toInt ∧ x3.toInt ≤ 2147483647)   (N : Nat) : ∀ (x4 : Int32) (x5 : Int32), 0 ≤ x5.toInt ∧ x5.toInt ≤ 1000 → 1000 - x5.toInt < (N : Int) → D (lpF (fun _ _ => none) (fB_X7_rest_L27 pa qa X P L Tn Tu q0 q2 q4 x3) N x4 x5) (fun (q : Int32 × Tr × Lo × Tr × Nat) => (iR BX (q.2.1)) ∧ (iR BT (q.2.2.2.1))) := by
  induction N with
  | zero =>
    intro x4 x5 hx5 hN
    exfalso
    omega
  | succ N27 ih =>
    intro x4 x5 hx5 hN
    have hk27 : ∀ (x4 : Int32) (x5 : Int32), 0 ≤ x5.toInt ∧ x5.toInt ≤ 1000 → 1000 - x5.toInt < (N27 : Int) → D (lpF (fun _ _ => none) (fB_X7_rest_L27 pa qa X P L Tn Tu q0 q2 q4 x3) N27 x4 x5) (fun (q : Int32 × Tr × Lo × Tr × Nat) => (iR BX (q.2.1)) ∧ (iR BT (q.2.2.2.1))) := ih
    show D (fB_X7_rest_L27 pa qa X P L Tn Tu q0 q2 q4 x3 (lpF (fun _ _ => none) (fB_X7_rest_L27 pa qa X P L Tn Tu q0 q2 q4 x3) N27) x4 x5) _
    generalize lpF (fun _ _ => none) (fB_X7_rest_L27 pa qa X P L Tn Tu q0 q2 q4 x3) N27 = k27 at hk27 ⊢
    have hN27 : 1000 - x5.toInt < (N27 : Int) + 1 := by omega
    clear ih
    unfold fB_X7_rest_L27
    refine D_ite (fun c19 => ?_) (fun c19 => ?_)
    · have kc19 := tq_le (x := (25 : Int32)) (y := x5) (a := 25) (by decide) rfl c19
      have lm2 : ((-2) : Int32).toInt = (-2) := by decide
      exact D_some (show (iR BX X) ∧ (iR BT Tu) from ⟨hX, hTu⟩)
    · have kc19 := tq_len (x := (25 : Int32)) (y := x5) (a := 25) (by decide) rfl c19
      refine D_bd (t_X7_isRest pa qa X P q4 x5 hX hP ⟨(by clear hx3 hN27 hN; omega), (by clear hx3 hN27 hN; omega)⟩ hq4) (fun r20 eq22 hq21 => ?_)
      have p23 : 0 ≤ r20.toInt ∧ r20.toInt ≤ 1 := hq21
      refine D_ite (fun c24 => ?_) (fun c24 => ?_)
      · have kc24 := tq_eq (x := r20) (y := (0 : Int32)) rfl (b := 0) (by decide) c24
        have n26 : (x5 + 1).toInt = x5.toInt + 1 := i_addK rfl (by decide) (by clear hx3 hN27 hN p23 kc24; omega) (by clear hx3 hN27 hN p23 kc24; omega)
        refine D_lt (fun y25 ey25 => ?_)
        have hy25 : y25.toInt = (x5 + 1 : Int32).toInt := by rw [ey25]
        have n27 := i_rng x4
        exact hk27 x4 y25 ⟨(by clear hx3 hN27 hN p23 kc24 n27; omega), (by clear hx3 hN27 hN p23 kc24 n27; omega)⟩ (by clear hx3 p23 kc24 n27; omega)
      · have kc240 := tq_eqn (x := r20) (y := (0 : Int32)) rfl (b := 0) (by decide) c24
        have kc24 : 1 ≤ r20.toInt := (by clear hx3 hx5 hN27 hN kc19; omega)
        clear kc240
        have n29 := i_rng x4
        have n30 := i_rng x3
        refine D_ite (fun c28 => ?_) (fun c28 => ?_)
        · have kc28 := tq_eq (x := x4) (y := x3) rfl rfl c28
          unfold fJ_X7_rest_J49
          have n31 := i_div (a := x5) (b := (5 : Int32)) 5 (by decide) (by decide) (by clear hx3 hN27 hN p23 kc24 n29 n30 kc28; omega)
          have n32 := i_mulR (a := (x5 / 5)) (b := (10 : Int32)) 10 (by decide) (by clear hx3 hN27 hN p23 kc24 n29 n30 kc28; omega) (by clear hx3 hN27 hN p23 kc24 n29 n30 kc28; omega)
          have n33 := i_rem (a := x5) (b := (5 : Int32)) 5 (by decide) (by decide) (by clear hx3 hN27 hN p23 kc24 n29 n30 kc28; omega)
          have n34 : (((x5 / 5) * 10) + (x5 - x5 / 5 * 5)).toInt = ((x5 / 5) * 10).toInt + (x5 - x5 / 5 * 5).toInt := i_addK rfl rfl (by clear hx3 hN27 hN p23 kc24 n29 n30 kc28; omega) (by clear hx3 hN27 hN p23 kc24 n29 n30 kc28; omega)
          exact D_some (show (iR BX X) ∧ (iR BT Tu) from ⟨hX, hTu⟩)
        · skip
          have n36 := i_rng (x4 + 1)
          refine D_lt (fun y35 ey35 => ?_)
          have hy35 : y35.toInt = (x4 + 1 : Int32).toInt := by rw [ey35]
          have n38 : (x5 + 1).toInt = x5.toInt + 1 := i_addK rfl (by decide) (by clear hx3 hN27 hN p23 kc24 n29 n30 n36 hy35; omega) (by clear hx3 hN27 hN p23 kc24 n29 n30 n36 hy35; omega)
          refine D_lt (fun y37 ey37 => ?_)
          have hy37 : y37.toInt = (x5 + 1 : Int32).toInt := by rw [ey37]
          exact hk27 y35 y37 ⟨(by clear hx3 hN27 hN p23 kc24 n29 n30 n36 hy35; omega), (by clear hx3 hN27 hN p23 kc24 n29 n30 n36 hy35; omega)⟩ (by clear hx3 p23 kc24 n29 n30 n36 hy35; omega)
set_option maxHeartbeats 1000000 in
set_option maxRecDepth 100000 in
theorem t_X7_rest (pa : Nat → Nat) (qa : Nat → Nat) (X : Tr) (P : Tr) (L : Lo) (Tn : Tr) (Tu : Tr) (q0 : Nat) (q2 : Nat) (q4 : Nat) (x1 : Int32) (x2 : Int32) (x3 : Int32) (hX : iR BX X) (hP : iR BP P) (hTn : iR BT Tn) (hTu : iR BT Tu) (hq0 : q0 = pa 0) (hq4 : q4 = pa 0) : D (f_X7_rest pa qa X P L Tn Tu q0 q2 q4 x1 x2 x3) (fun (q : Int32 × Tr × Lo × Tr × Nat) => (iR BX (q.2.1)) ∧ (iR BT (q.2.2.2.1))) := by
  unfold f_X7_rest
  have n2 := i_rng x3
  refine D_ite (fun c1 => ?_) (fun c1 => ?_)
  · have kc1 := tq_lt (x := x3) (y := (0 : Int32)) rfl (b := 0) (by decide) c1
    have lm1 : ((-1) : Int32).toInt = (-1) := by decide
    exact D_some (show (iR BX X) ∧ (iR BT Tu) from ⟨hX, hTu⟩)
  · have kc1 := tq_ltn (x := x3) (y := (0 : Int32)) rfl (b := 0) (by decide) c1
    have n3 := i_rng x1
    have n4 := i_rng x2
    refine D_bd (t_X7_canChoose pa qa P Tn q4 x1 x2 hP hTn hq4) (fun r5 eq7 hq6 => ?_)
    obtain ⟨p8, p9⟩ : (0 ≤ r5.toInt ∧ r5.toInt ≤ 1) ∧ (r5.toInt = 1 → 0 ≤ x1.toInt ∧ x1.toInt ≤ 9 ∧ 0 ≤ x2.toInt ∧ x2.toInt ≤ 9) := hq6
    refine D_ite (fun c10 => ?_) (fun c10 => ?_)
    · have kc10 := tq_eq (x := r5) (y := (0 : Int32)) rfl (b := 0) (by decide) c10
      have lm1 : ((-1) : Int32).toInt = (-1) := by decide
      exact D_some (show (iR BX X) ∧ (iR BT Tu) from ⟨hX, hTu⟩)
    · have kc100 := tq_eqn (x := r5) (y := (0 : Int32)) rfl (b := 0) (by decide) c10
      have kc10 : 1 ≤ r5.toInt := (by omega)
      clear kc100
      refine D_bd4 (t_X7_workOutCosts pa qa X P L Tn Tu q0 q2 q4 x1 x2 hX hP hTn hTu ⟨(by omega), (by omega)⟩ ⟨(by omega), (by omega)⟩ hq0 hq4) (fun X_11 L_12 Tu_13 q2_14 eq16 hq15 => ?_)
      refine D_lte (y := X_11) rfl ?_
      refine D_lte (y := L_12) rfl ?_
      refine D_lte (y := Tu_13) rfl ?_
      refine D_lte (y := q2_14) rfl ?_
      obtain ⟨p17, p18⟩ : (iR BX X_11) ∧ (iR BT Tu_13) := hq15
      have l0 : (0 : Int32).toInt = 0 := by decide
      exact tl_X7_rest_L27 pa qa X_11 P L_12 Tn Tu_13 q0 q2_14 q4 x3 p17 hP hTn p18 hq0 hq4 ⟨(by clear n3 n4 p8 p9 kc10; omega), (by clear n3 n4 p8 p9 kc10; omega)⟩   2000 (0 : Int32) (0 : Int32) ⟨(by clear n2 kc1 n3 n4 p8 p9 kc10; omega), (by clear n2 kc1 n3 n4 p8 p9 kc10; omega)⟩ (by clear n2 kc1 n3 n4 p8 p9 kc10; omega)
set_option maxHeartbeats 1000000 in
set_option maxRecDepth 100000 in
theorem tl_X7_rests_L22 (pa : Nat → Nat) (qa : Nat → Nat) (X : Tr) (P : Tr) (L : Lo) (Tn : Tr) (Tu : Tr) (q0 : Nat) (q2 : Nat) (q4 : Nat) (hX : iR BX X) (hP : iR BP P) (hTn : iR BT Tn) (hTu : iR BT Tu) (hq0 : q0 = pa 0) (hq4 : q4 = pa 0)   (N : Nat) : ∀ (x3 : Int32) (x4 : Int32), 0 ≤ x4.toInt ∧ x4.toInt ≤ 1000 → 1000 - x4.toInt < (N : Int) → D (lpF (fun _ _ => none) (fB_X7_rests_L22 pa qa X P L Tn Tu q0 q2 q4) N x3 x4) (fun (q : Int32 × Tr × Lo × Tr × Nat) => (iR BX (q.2.1)) ∧ (iR BT (q.2.2.2.1))) := by
  induction N with
  | zero =>
    intro x3 x4 hx4 hN
    exfalso
    omega
  | succ N22 ih =>
    intro x3 x4 hx4 hN
    have hk22 : ∀ (x3 : Int32) (x4 : Int32), 0 ≤ x4.toInt ∧ x4.toInt ≤ 1000 → 1000 - x4.toInt < (N22 : Int) → D (lpF (fun _ _ => none) (fB_X7_rests_L22 pa qa X P L Tn Tu q0 q2 q4) N22 x3 x4) (fun (q : Int32 × Tr × Lo × Tr × Nat) => (iR BX (q.2.1)) ∧ (iR BT (q.2.2.2.1))) := ih
    show D (fB_X7_rests_L22 pa qa X P L Tn Tu q0 q2 q4 (lpF (fun _ _ => none) (fB_X7_rests_L22 pa qa X P L Tn Tu q0 q2 q4) N22) x3 x4) _
    generalize lpF (fun _ _ => none) (fB_X7_rests_L22 pa qa X P L Tn Tu q0 q2 q4) N22 = k22 at hk22 ⊢
    have hN22 : 1000 - x4.toInt < (N22 : Int) + 1 := by omega
    clear ih
    unfold fB_X7_rests_L22
    refine D_ite (fun c17 => ?_) (fun c17 => ?_)
    · have kc17 := tq_le (x := (25 : Int32)) (y := x4) (a := 25) (by decide) rfl c17
      have n18 := i_rng x3
      exact D_some (show (iR BX X) ∧ (iR BT Tu) from ⟨hX, hTu⟩)
    · have kc17 := tq_len (x := (25 : Int32)) (y := x4) (a := 25) (by decide) rfl c17
      refine D_bd (t_X7_isRest pa qa X P q4 x4 hX hP ⟨(by omega), (by omega)⟩ hq4) (fun r19 eq21 hq20 => ?_)
      have p22 : 0 ≤ r19.toInt ∧ r19.toInt ≤ 1 := hq20
      refine D_ite (fun c23 => ?_) (fun c23 => ?_)
      · have kc23 := tq_eq (x := r19) (y := (0 : Int32)) rfl (b := 0) (by decide) c23
        have n25 : (x4 + 1).toInt = x4.toInt + 1 := i_addK rfl (by decide) (by clear hN22 hN p22 kc23; omega) (by clear hN22 hN p22 kc23; omega)
        refine D_lt (fun y24 ey24 => ?_)
        have hy24 : y24.toInt = (x4 + 1 : Int32).toInt := by rw [ey24]
        have n26 := i_rng x3
        exact hk22 x3 y24 ⟨(by clear hN22 hN p22 kc23 n26; omega), (by clear hN22 hN p22 kc23 n26; omega)⟩ (by clear p22 kc23 n26; omega)
      · have kc230 := tq_eqn (x := r19) (y := (0 : Int32)) rfl (b := 0) (by decide) c23
        have kc23 : 1 ≤ r19.toInt := (by clear hx4 hN22 hN kc17; omega)
        clear kc230
        have n28 := i_rng (x3 + 1)
        refine D_lt (fun y27 ey27 => ?_)
        have hy27 : y27.toInt = (x3 + 1 : Int32).toInt := by rw [ey27]
        have n30 : (x4 + 1).toInt = x4.toInt + 1 := i_addK rfl (by decide) (by clear hN22 hN p22 kc23 n28 hy27; omega) (by clear hN22 hN p22 kc23 n28 hy27; omega)
        refine D_lt (fun y29 ey29 => ?_)
        have hy29 : y29.toInt = (x4 + 1 : Int32).toInt := by rw [ey29]
        exact hk22 y27 y29 ⟨(by clear hN22 hN p22 kc23 n28 hy27; omega), (by clear hN22 hN p22 kc23 n28 hy27; omega)⟩ (by clear p22 kc23 n28 hy27; omega)
set_option maxHeartbeats 1000000 in
set_option maxRecDepth 100000 in
theorem t_X7_rests (pa : Nat → Nat) (qa : Nat → Nat) (X : Tr) (P : Tr) (L : Lo) (Tn : Tr) (Tu : Tr) (q0 : Nat) (q2 : Nat) (q4 : Nat) (x1 : Int32) (x2 : Int32) (hX : iR BX X) (hP : iR BP P) (hTn : iR BT Tn) (hTu : iR BT Tu) (hq0 : q0 = pa 0) (hq4 : q4 = pa 0) : D (f_X7_rests pa qa X P L Tn Tu q0 q2 q4 x1 x2) (fun (q : Int32 × Tr × Lo × Tr × Nat) => (iR BX (q.2.1)) ∧ (iR BT (q.2.2.2.1))) := by
  unfold f_X7_rests
  have n1 := i_rng x1
  have n2 := i_rng x2
  refine D_bd (t_X7_canChoose pa qa P Tn q4 x1 x2 hP hTn hq4) (fun r3 eq5 hq4 => ?_)
  obtain ⟨p6, p7⟩ : (0 ≤ r3.toInt ∧ r3.toInt ≤ 1) ∧ (r3.toInt = 1 → 0 ≤ x1.toInt ∧ x1.toInt ≤ 9 ∧ 0 ≤ x2.toInt ∧ x2.toInt ≤ 9) := hq4
  refine D_ite (fun c8 => ?_) (fun c8 => ?_)
  · have kc8 := tq_eq (x := r3) (y := (0 : Int32)) rfl (b := 0) (by decide) c8
    have lm1 : ((-1) : Int32).toInt = (-1) := by decide
    exact D_some (show (iR BX X) ∧ (iR BT Tu) from ⟨hX, hTu⟩)
  · have kc80 := tq_eqn (x := r3) (y := (0 : Int32)) rfl (b := 0) (by decide) c8
    have kc8 : 1 ≤ r3.toInt := (by omega)
    clear kc80
    refine D_bd4 (t_X7_workOutCosts pa qa X P L Tn Tu q0 q2 q4 x1 x2 hX hP hTn hTu ⟨(by omega), (by omega)⟩ ⟨(by omega), (by omega)⟩ hq0 hq4) (fun X_9 L_10 Tu_11 q2_12 eq14 hq13 => ?_)
    refine D_lte (y := X_9) rfl ?_
    refine D_lte (y := L_10) rfl ?_
    refine D_lte (y := Tu_11) rfl ?_
    refine D_lte (y := q2_12) rfl ?_
    obtain ⟨p15, p16⟩ : (iR BX X_9) ∧ (iR BT Tu_11) := hq13
    have l0 : (0 : Int32).toInt = 0 := by decide
    exact tl_X7_rests_L22 pa qa X_9 P L_10 Tn Tu_11 q0 q2_12 q4 p15 hP hTn p16 hq0 hq4   2000 (0 : Int32) (0 : Int32) ⟨(by clear n1 n2 p6 p7 kc8; omega), (by clear n1 n2 p6 p7 kc8; omega)⟩ (by clear n1 n2 p6 p7 kc8; omega)
set_option maxHeartbeats 1000000 in
set_option maxRecDepth 100000 in
theorem t_X4_add_x (pa : Nat → Nat) (qa : Nat → Nat) (Z : Tr) (x1 : Int32) (x2 : Int32) (x3 : Int32) (x4 : Int32) (hZ : iR BZ Z) (ddZ : dZ Z) (hx2 : 0 ≤ x2.toInt ∧ x2.toInt ≤ 23) (hz9 : 0 ≤ x1.toInt → x2.toInt ≤ 9) : D (f_X4_add_x pa qa Z x1 x2 x3 x4) (fun (q : Int32 × Tr) => ((-1) ≤ (q.1).toInt ∧ (q.1).toInt ≤ 23) ∧ (iR BZ (q.2)) ∧ (dZ (q.2))) := by
  unfold f_X4_add_x
  have n2 : 0 ≤ (Z 0 0).toInt ∧ (Z 0 0).toInt ≤ 24 := hZ 0 0
  refine D_ite (fun c1 => ?_) (fun c1 => ?_)
  · have kc1 := tq_lt (x := (Z 0 0)) (y := (24 : Int32)) rfl (b := 24) (by decide) c1
    refine D_ck (okI_of (by omega) (by omega)) ?_
    refine D_lt (fun Z_3 eZ_3 => ?_)
    have hZ_3 : iR BZ Z_3 := by rw [eZ_3]; exact iR_setU hZ rfl
    have n5 : (Z_3 0 0).toInt = (Z 0 0).toInt := by rw [eZ_3]; rfl
    refine D_ck (okI_of (by omega) (by omega)) ?_
    refine D_lt (fun Z_6 eZ_6 => ?_)
    have hZ_6 : iR BZ Z_6 := by rw [eZ_6]; exact iR_set hZ_3 (show (0 : Int) ≤ _ from (by clear n2 kc1 n5; omega)) (show _ ≤ (23 : Int) from (by clear n2 kc1 n5; omega))
    have kdZ_t7 : dZ Z_6 := (by rw [eZ_6, eZ_3]; exact dZ_add ddZ hz9)
    have n8 : (Z_6 0 0).toInt = (Z_3 0 0).toInt := by rw [eZ_6]; rfl
    refine D_ck (okI_of (by omega) (by omega)) ?_
    refine D_lt (fun Z_9 eZ_9 => ?_)
    have hZ_9 : iR BZ Z_9 := by rw [eZ_9]; exact iR_setU hZ_6 rfl
    have kdZ_t10 : dZ Z_9 := by rw [eZ_9]; exact kdZ_t7
    have n11 : (Z_9 0 0).toInt = (Z_6 0 0).toInt := by rw [eZ_9]; rfl
    refine D_ck (okI_of (by omega) (by omega)) ?_
    refine D_lt (fun Z_12 eZ_12 => ?_)
    have hZ_12 : iR BZ Z_12 := by rw [eZ_12]; exact iR_setU hZ_9 rfl
    have kdZ_t13 : dZ Z_12 := by rw [eZ_12]; exact kdZ_t10
    have n14 : (Z_12 0 0).toInt = (Z_9 0 0).toInt := by rw [eZ_12]; rfl
    have n16 : ((Z_12 0 0) + 1).toInt = (Z_12 0 0).toInt + 1 := i_addK rfl (by decide) (by omega) (by omega)
    refine D_lt (fun Z_15 eZ_15 => ?_)
    have hZ_15 : iR BZ Z_15 := by rw [eZ_15]; exact iR_set hZ_12 (show (0 : Int) ≤ _ from (by omega)) (show _ ≤ (24 : Int) from (by omega))
    have kdZ_t17 : dZ Z_15 := by rw [eZ_15]; exact kdZ_t13
    have n18 : (Z_15 0 0).toInt = ((Z_12 0 0) + 1).toInt := by rw [eZ_15]; rfl
    have n19 : ((Z_15 0 0) - 1).toInt = (Z_15 0 0).toInt - 1 := i_subK rfl (by decide) (by omega) (by omega)
    exact D_some (show ((-1) ≤ ((Z_15 0 0) - 1).toInt ∧ ((Z_15 0 0) - 1).toInt ≤ 23) ∧ (iR BZ Z_15) ∧ (dZ Z_15) from ⟨⟨(by omega), (by omega)⟩, hZ_15, kdZ_t17⟩)
  · have kc1 := tq_ltn (x := (Z 0 0)) (y := (24 : Int32)) rfl (b := 24) (by decide) c1
    have lm1 : ((-1) : Int32).toInt = (-1) := by decide
    exact D_some (show ((-1) ≤ ((-1) : Int32).toInt ∧ ((-1) : Int32).toInt ≤ 23) ∧ (iR BZ Z) ∧ (dZ Z) from ⟨⟨(by clear hx2 hz9 n2 kc1; omega), (by clear hx2 hz9 n2 kc1; omega)⟩, hZ, ddZ⟩)
set_option maxHeartbeats 1000000 in
set_option maxRecDepth 100000 in
theorem t_X7_see (pa : Nat → Nat) (qa : Nat → Nat) (P : Tr) (Z : Tr) (q4 : Nat) (x1 : Int32) (x2 : Int32) (x3 : Int32) (x4 : Int32) (hP : iR BP P) (hZ : iR BZ Z) (ddZ : dZ Z) (hq4 : q4 = pa 0) : D (f_X7_see pa qa P Z q4 x1 x2 x3 x4) (fun (q : Int32 × Tr) => (iR BZ (q.2)) ∧ (dZ (q.2))) := by
  unfold f_X7_see
  have n2 := i_rng x1
  refine D_ite (fun c1 => ?_) (fun c1 => ?_)
  · have kc1 := tq_lt (x := x1) (y := (0 : Int32)) rfl (b := 0) (by decide) c1
    have lm1 : ((-1) : Int32).toInt = (-1) := by decide
    exact D_some (show (iR BZ Z) ∧ (dZ Z) from ⟨hZ, ddZ⟩)
  · have kc1 := tq_ltn (x := x1) (y := (0 : Int32)) rfl (b := 0) (by decide) c1
    refine D_ite (fun c3 => ?_) (fun c3 => ?_)
    · have kc3 := tq_le (x := (20 : Int32)) (y := x1) (a := 20) (by decide) rfl c3
      have lm1 : ((-1) : Int32).toInt = (-1) := by decide
      exact D_some (show (iR BZ Z) ∧ (dZ Z) from ⟨hZ, ddZ⟩)
    · have kc3 := tq_len (x := (20 : Int32)) (y := x1) (a := 20) (by decide) rfl c3
      have n4 := i_rng x2
      refine D_bd (t_X7_isPiece pa qa P q4 x2 hP hq4) (fun r5 eq7 hq6 => ?_)
      obtain ⟨p8, p9⟩ : (0 ≤ r5.toInt ∧ r5.toInt ≤ 1) ∧ (r5.toInt = 1 → 0 ≤ x2.toInt ∧ x2.toInt ≤ 9) := hq6
      refine D_ite (fun c10 => ?_) (fun c10 => ?_)
      · have kc10 := tq_eq (x := r5) (y := (0 : Int32)) rfl (b := 0) (by decide) c10
        have lm1 : ((-1) : Int32).toInt = (-1) := by decide
        exact D_some (show (iR BZ Z) ∧ (dZ Z) from ⟨hZ, ddZ⟩)
      · have kc100 := tq_eqn (x := r5) (y := (0 : Int32)) rfl (b := 0) (by decide) c10
        have kc10 : 1 ≤ r5.toInt := (by clear n2 kc1 kc3; omega)
        clear kc100
        have n11 := i_rng x3
        refine D_bd (t_X7_isPlace pa qa P q4 x3 hP hq4) (fun r12 eq14 hq13 => ?_)
        obtain ⟨p15, p16⟩ : (0 ≤ r12.toInt ∧ r12.toInt ≤ 1) ∧ (r12.toInt = 1 → 0 ≤ x3.toInt ∧ x3.toInt ≤ 4) := hq13
        refine D_ite (fun c17 => ?_) (fun c17 => ?_)
        · have kc17 := tq_eq (x := r12) (y := (0 : Int32)) rfl (b := 0) (by decide) c17
          have lm1 : ((-1) : Int32).toInt = (-1) := by decide
          exact D_some (show (iR BZ Z) ∧ (dZ Z) from ⟨hZ, ddZ⟩)
        · have kc170 := tq_eqn (x := r12) (y := (0 : Int32)) rfl (b := 0) (by decide) c17
          have kc17 : 1 ≤ r12.toInt := (by clear n2 kc1 kc3 n4 p8 p9 kc10; omega)
          clear kc170
          have n19 := i_rng x4
          refine D_ite (fun c18 => ?_) (fun c18 => ?_)
          · have kc18 := tq_eq (x := x4) (y := (0 : Int32)) rfl (b := 0) (by decide) c18
            unfold fJ_X7_see_J45
            have l0 : (0 : Int32).toInt = 0 := by decide
            refine D_bd2 (t_X4_add_x pa qa Z x1 x2 x3 (0 : Int32) hZ ddZ ⟨(by clear n2 kc1 kc3 n11 p15 p16 kc17 n19 kc18; omega), (by clear n2 kc1 kc3 n11 p15 p16 kc17 n19 kc18; omega)⟩ (by first | assumption | exact (by clear n11 p15 p16 kc17 n19 kc18; omega))) (fun r20 Z_21 eq23 hq22 => ?_)
            refine D_lte (y := r20) rfl ?_
            refine D_lte (y := Z_21) rfl ?_
            obtain ⟨p24, p25, p26⟩ : ((-1) ≤ r20.toInt ∧ r20.toInt ≤ 23) ∧ (iR BZ Z_21) ∧ (dZ Z_21) := hq22
            exact D_some (show (iR BZ Z_21) ∧ (dZ Z_21) from ⟨p25, p26⟩)
          · skip
            unfold fJ_X7_see_J45
            have l1 : (1 : Int32).toInt = 1 := by decide
            refine D_bd2 (t_X4_add_x pa qa Z x1 x2 x3 (1 : Int32) hZ ddZ ⟨(by clear n2 kc1 kc3 n11 p15 p16 kc17 n19; omega), (by clear n2 kc1 kc3 n11 p15 p16 kc17 n19; omega)⟩ (by first | assumption | exact (by clear n11 p15 p16 kc17 n19; omega))) (fun r27 Z_28 eq30 hq29 => ?_)
            refine D_lte (y := r27) rfl ?_
            refine D_lte (y := Z_28) rfl ?_
            obtain ⟨p31, p32, p33⟩ : ((-1) ≤ r27.toInt ∧ r27.toInt ≤ 23) ∧ (iR BZ Z_28) ∧ (dZ Z_28) := hq29
            exact D_some (show (iR BZ Z_28) ∧ (dZ Z_28) from ⟨p32, p33⟩)
set_option maxHeartbeats 1000000 in
set_option maxRecDepth 100000 in
theorem t_X7_strike (pa : Nat → Nat) (qa : Nat → Nat) (Z : Tr) (x1 : Int32) (hZ : iR BZ Z) (ddZ : dZ Z) : D (f_X7_strike pa qa Z x1) (fun (q : Int32 × Tr) => (iR BZ (q.2)) ∧ (dZ (q.2))) := by
  unfold f_X7_strike
  have n2 := i_rng x1
  refine D_ite (fun c1 => ?_) (fun c1 => ?_)
  · have kc1 := tq_lt (x := x1) (y := (0 : Int32)) rfl (b := 0) (by decide) c1
    have lm1 : ((-1) : Int32).toInt = (-1) := by decide
    exact D_some (show (iR BZ Z) ∧ (dZ Z) from ⟨hZ, ddZ⟩)
  · have kc1 := tq_ltn (x := x1) (y := (0 : Int32)) rfl (b := 0) (by decide) c1
    have n4 : 0 ≤ (Z 0 0).toInt ∧ (Z 0 0).toInt ≤ 24 := hZ 0 0
    refine D_ite (fun c3 => ?_) (fun c3 => ?_)
    · have kc3 := tq_lt (x := x1) (y := (Z 0 0)) rfl rfl c3
      have lm1 : ((-1) : Int32).toInt = (-1) := by decide
      have l0 : (0 : Int32).toInt = 0 := by decide
      refine D_bd2 (t_X4_add_x pa qa Z ((-1) : Int32) x1 (0 : Int32) (0 : Int32) hZ ddZ ⟨(by omega), (by omega)⟩ (by first | assumption | exact (by omega))) (fun r5 Z_6 eq8 hq7 => ?_)
      refine D_lte (y := r5) rfl ?_
      refine D_lte (y := Z_6) rfl ?_
      obtain ⟨p9, p10, p11⟩ : ((-1) ≤ r5.toInt ∧ r5.toInt ≤ 23) ∧ (iR BZ Z_6) ∧ (dZ Z_6) := hq7
      exact D_some (show (iR BZ Z_6) ∧ (dZ Z_6) from ⟨p10, p11⟩)
    · have kc3 := tq_ltn (x := x1) (y := (Z 0 0)) rfl rfl c3
      have lm1 : ((-1) : Int32).toInt = (-1) := by decide
      exact D_some (show (iR BZ Z) ∧ (dZ Z) from ⟨hZ, ddZ⟩)
set_option maxHeartbeats 1000000 in
set_option maxRecDepth 100000 in
theorem t_X4_forget_x (pa : Nat → Nat) (qa : Nat → Nat) (Z : Tr) (hZ : iR BZ Z) (ddZ : dZ Z) : D (f_X4_forget_x pa qa Z) (fun (q : Tr) => (iR BZ q) ∧ (dZ q)) := by
  unfold f_X4_forget_x
  have l0 : (0 : Int32).toInt = 0 := by decide
  refine D_lt (fun Z_1 eZ_1 => ?_)
  have hZ_1 : iR BZ Z_1 := by rw [eZ_1]; exact iR_set hZ (show (0 : Int) ≤ _ from (by omega)) (show _ ≤ (24 : Int) from (by omega))
  have kdZ_t2 : dZ Z_1 := by rw [eZ_1]; exact ddZ
  have n3 : (Z_1 0 0).toInt = (0 : Int32).toInt := by rw [eZ_1]; rfl
  have lm1 : ((-1) : Int32).toInt = (-1) := by decide
  refine D_lt (fun Z_4 eZ_4 => ?_)
  have hZ_4 : iR BZ Z_4 := by rw [eZ_4]; exact iR_set hZ_1 (show ((-1) : Int) ≤ _ from (by omega)) (show _ ≤ (24 : Int) from (by omega))
  have kdZ_t5 : dZ Z_4 := by rw [eZ_4]; exact kdZ_t2
  have n6 : (Z_4 0 0).toInt = (Z_1 0 0).toInt := by rw [eZ_4]; rfl
  have n7 : (Z_4 0 1).toInt = ((-1) : Int32).toInt := by rw [eZ_4]; rfl
  exact D_some (show (iR BZ Z_4) ∧ (dZ Z_4) from ⟨hZ_4, kdZ_t5⟩)
set_option maxHeartbeats 1000000 in
set_option maxRecDepth 100000 in
theorem t_X7_text (pa : Nat → Nat) (qa : Nat → Nat) (X : Tr) (K : Tr) (R : Tr) (P2 : Tr) (Tn : Tr) (C : Tr) (Z : Tr) (q0 : Nat) (q4 : Nat) (q5 : Nat) (x1 : Int32) (hX : iR BX X) (hK : iR BK K) (hR : iR BR R) (hP2 : iR BP P2) (hTn : iR BT Tn) (hC : iR BC C) (hZ : iR BZ Z) (ddZ : dZ Z) (hq0 : q0 = pa 0) (hq4 : q4 = pa 0) (hq5 : q5 = qa 0) : D (f_X7_text pa qa X K R P2 Tn C Z q0 q4 q5 x1) (fun (q : Int32 × Tr × Tr × Tr × Tr × Tr × Tr × Tr × Nat × Nat × Nat) => (iR BX (q.2.1)) ∧ (iR BK (q.2.2.1)) ∧ (iR BR (q.2.2.2.1)) ∧ (iR BP (q.2.2.2.2.1)) ∧ (iR BT (q.2.2.2.2.2.1)) ∧ (iR BC (q.2.2.2.2.2.2.1)) ∧ (iR BZ (q.2.2.2.2.2.2.2.1)) ∧ (dZ (q.2.2.2.2.2.2.2.1)) ∧ (((q.2.2.2.2.2.2.2.2.1) = q0 ∧ (q.2.2.2.2.2.2.2.2.2.1) = q4 ∧ (q.2.2.2.2.2.2.2.2.2.2) = qa 0 ∧ (q.2.1) = X) ∨ ((q.2.2.2.2.2.2.2.2.1) = qa 0 ∧ (q.2.2.2.2.2.2.2.2.2.1) = qa 0 ∧ (q.2.2.2.2.2.2.2.2.2.2) = q4 ∧ (q.2.1) 0 4 = 0)) ∧ ((x1.toInt < 0 ∨ (K 0 0).toInt < x1.toInt) ∧ (q.2.2.1) 0 0 = K 0 0 ∨ (0 ≤ x1.toInt ∧ x1.toInt ≤ (K 0 0).toInt) ∧ (q.2.2.1) 0 0 = 0)) := by
  unfold f_X7_text
  have n1 : 0 ≤ (K 0 0).toInt ∧ (K 0 0).toInt ≤ 700 := hK 0 0
  have n3 := i_rng x1
  refine D_ite (fun c2 => ?_) (fun c2 => ?_)
  · have kc2 := tq_lt (x := x1) (y := (0 : Int32)) rfl (b := 0) (by decide) c2
    have lm2 : ((-2) : Int32).toInt = (-2) := by decide
    exact D_some (show (iR BX X) ∧ (iR BK K) ∧ (iR BR R) ∧ (iR BP P2) ∧ (iR BT Tn) ∧ (iR BC C) ∧ (iR BZ Z) ∧ (dZ Z) ∧ ((q0 = q0 ∧ q4 = q4 ∧ q5 = qa 0 ∧ X = X) ∨ (q0 = qa 0 ∧ q4 = qa 0 ∧ q5 = q4 ∧ X 0 4 = 0)) ∧ ((x1.toInt < 0 ∨ (K 0 0).toInt < x1.toInt) ∧ K 0 0 = K 0 0 ∨ (0 ≤ x1.toInt ∧ x1.toInt ≤ (K 0 0).toInt) ∧ K 0 0 = 0) from ⟨hX, hK, hR, hP2, hTn, hC, hZ, ddZ, (Or.inl ⟨rfl, rfl, hq5, rfl⟩), (Or.inl ⟨by omega, rfl⟩)⟩)
  · have kc2 := tq_ltn (x := x1) (y := (0 : Int32)) rfl (b := 0) (by decide) c2
    refine D_ite (fun c4 => ?_) (fun c4 => ?_)
    · have kc4 := tq_le (x := x1) (y := (K 0 0)) rfl rfl c4
      refine D_ck (decide_eq_true hq5) ?_
      refine D_bd4 (t_X3_readText K R P2 x1 hK hR hP2 ⟨(by omega), (by omega)⟩) (fun r5 K_6 R_7 P2_8 eq10 hq9 => ?_)
      refine D_lte (y := r5) rfl ?_
      refine D_lte (y := K_6) rfl ?_
      refine D_lte (y := R_7) rfl ?_
      refine D_lte (y := P2_8) rfl ?_
      obtain ⟨p11, p12, p13, p14, p15⟩ : (0 ≤ r5.toInt ∧ r5.toInt ≤ 1) ∧ (iR BK K_6) ∧ (iR BR R_7) ∧ (iR BP P2_8) ∧ (nK K_6) := hq9
      have l0 : (0 : Int32).toInt = 0 := by decide
      refine D_lt (fun K_16 eK_16 => ?_)
      have hK_16 : iR BK K_16 := by rw [eK_16]; exact iR_set p12 (show (0 : Int) ≤ _ from (by clear n1 n3 kc2 kc4 p11; omega)) (show _ ≤ (700 : Int) from (by clear n1 n3 kc2 kc4 p11; omega))
      have n17 : (K_16 0 0).toInt = (0 : Int32).toInt := by rw [eK_16]; rfl
      refine D_ite (fun c18 => ?_) (fun c18 => ?_)
      · have kc18 := tq_eq (x := r5) (y := (0 : Int32)) rfl (b := 0) (by decide) c18
        have lm1 : ((-1) : Int32).toInt = (-1) := by decide
        exact D_some (show (iR BX X) ∧ (iR BK K_16) ∧ (iR BR R_7) ∧ (iR BP P2_8) ∧ (iR BT Tn) ∧ (iR BC C) ∧ (iR BZ Z) ∧ (dZ Z) ∧ ((q0 = q0 ∧ q4 = q4 ∧ (qa 0) = qa 0 ∧ X = X) ∨ (q0 = qa 0 ∧ q4 = qa 0 ∧ (qa 0) = q4 ∧ X 0 4 = 0)) ∧ ((x1.toInt < 0 ∨ (K 0 0).toInt < x1.toInt) ∧ K_16 0 0 = K 0 0 ∨ (0 ≤ x1.toInt ∧ x1.toInt ≤ (K 0 0).toInt) ∧ K_16 0 0 = 0) from ⟨hX, hK_16, p13, p14, hTn, hC, hZ, ddZ, (Or.inl ⟨rfl, rfl, rfl, rfl⟩), (Or.inr ⟨by omega, by rw [eK_16]; rfl⟩)⟩)
      · have kc180 := tq_eqn (x := r5) (y := (0 : Int32)) rfl (b := 0) (by decide) c18
        have kc18 : 1 ≤ r5.toInt := (by clear n1 n3 kc2 kc4 n17; omega)
        clear kc180
        refine D_bd2 (t_X6_begin qa Tn P2_8 q0 hTn p14) (fun Tn_19 q0_20 eq22 hq21 => ?_)
        refine D_lte (y := Tn_19) rfl ?_
        refine D_lte (y := q0_20) rfl ?_
        obtain ⟨p23, p24, p25⟩ : (iR BT Tn_19) ∧ (z0T Tn_19) ∧ (q0_20 = qa 0) := hq21
        refine D_lt (fun X_26 eX_26 => ?_)
        have hX_26 : iR BX X_26 := by rw [eX_26]; exact iR_setU hX rfl
        have n27 : (X_26 0 4).toInt = (0 : Int32).toInt := by rw [eX_26]; rfl
        refine D_lt (fun C_28 eC_28 => ?_)
        have hC_28 : iR BC C_28 := by rw [eC_28]; exact iR_set hC (show (0 : Int) ≤ _ from (by clear n1 n3 kc2 kc4 p11 n17 kc18 n27; omega)) (show _ ≤ (20 : Int) from (by clear n1 n3 kc2 kc4 p11 n17 kc18 n27; omega))
        have n29 : (C_28 0 0).toInt = (0 : Int32).toInt := by rw [eC_28]; rfl
        refine D_bd (t_X4_forget_x pa qa Z hZ ddZ) (fun Z_30 eq32 hq31 => ?_)
        obtain ⟨p33, p34⟩ : (iR BZ Z_30) ∧ (dZ Z_30) := hq31
        have n35 := i_rng (R_7 0 3)
        exact D_some (show (iR BX X_26) ∧ (iR BK K_16) ∧ (iR BR R_7) ∧ (iR BP P2_8) ∧ (iR BT Tn_19) ∧ (iR BC C_28) ∧ (iR BZ Z_30) ∧ (dZ Z_30) ∧ ((q0_20 = q0 ∧ (qa 0) = q4 ∧ q4 = qa 0 ∧ X_26 = X) ∨ (q0_20 = qa 0 ∧ (qa 0) = qa 0 ∧ q4 = q4 ∧ X_26 0 4 = 0)) ∧ ((x1.toInt < 0 ∨ (K 0 0).toInt < x1.toInt) ∧ K_16 0 0 = K 0 0 ∨ (0 ≤ x1.toInt ∧ x1.toInt ≤ (K 0 0).toInt) ∧ K_16 0 0 = 0) from ⟨hX_26, hK_16, p13, p14, p23, hC_28, p33, p34, (Or.inr ⟨p25, rfl, rfl, by rw [eX_26]; rfl⟩), (Or.inr ⟨by omega, by rw [eK_16]; rfl⟩)⟩)
    · have kc4 := tq_len (x := x1) (y := (K 0 0)) rfl rfl c4
      have lm2 : ((-2) : Int32).toInt = (-2) := by decide
      exact D_some (show (iR BX X) ∧ (iR BK K) ∧ (iR BR R) ∧ (iR BP P2) ∧ (iR BT Tn) ∧ (iR BC C) ∧ (iR BZ Z) ∧ (dZ Z) ∧ ((q0 = q0 ∧ q4 = q4 ∧ q5 = qa 0 ∧ X = X) ∨ (q0 = qa 0 ∧ q4 = qa 0 ∧ q5 = q4 ∧ X 0 4 = 0)) ∧ ((x1.toInt < 0 ∨ (K 0 0).toInt < x1.toInt) ∧ K 0 0 = K 0 0 ∨ (0 ≤ x1.toInt ∧ x1.toInt ≤ (K 0 0).toInt) ∧ K 0 0 = 0) from ⟨hX, hK, hR, hP2, hTn, hC, hZ, ddZ, (Or.inl ⟨rfl, rfl, hq5, rfl⟩), (Or.inl ⟨by omega, rfl⟩)⟩)
set_option maxHeartbeats 1000000 in
set_option maxRecDepth 100000 in
theorem t_X7_tried (pa : Nat → Nat) (qa : Nat → Nat) (P : Tr) (L : Lo) (Tn : Tr) (Tu : Tr) (q0 : Nat) (q2 : Nat) (q4 : Nat) (x1 : Int32) (x2 : Int32) (hP : iR BP P) (hTn : iR BT Tn) (hTu : iR BT Tu) (hq0 : q0 = pa 0) (hq4 : q4 = pa 0) : D (f_X7_tried pa qa P L Tn Tu q0 q2 q4 x1 x2) (fun (q : Int32 × Lo × Tr × Nat) => (iR BT (q.2.2.1))) := by
  unfold f_X7_tried
  have n2 := i_rng x1
  refine D_ite (fun c1 => ?_) (fun c1 => ?_)
  · have kc1 := tq_lt (x := x1) (y := (0 : Int32)) rfl (b := 0) (by decide) c1
    have lm1 : ((-1) : Int32).toInt = (-1) := by decide
    exact D_some (show (iR BT Tu) from hTu)
  · have kc1 := tq_ltn (x := x1) (y := (0 : Int32)) rfl (b := 0) (by decide) c1
    refine D_ite (fun c3 => ?_) (fun c3 => ?_)
    · have kc3 := tq_lt (x := (4 : Int32)) (y := x1) (a := 4) (by decide) rfl c3
      have lm1 : ((-1) : Int32).toInt = (-1) := by decide
      exact D_some (show (iR BT Tu) from hTu)
    · have kc3 := tq_ltn (x := (4 : Int32)) (y := x1) (a := 4) (by decide) rfl c3
      refine D_ite (fun c4 => ?_) (fun c4 => ?_)
      · have kc4 := tq_eq (x := x1) (y := (2 : Int32)) rfl (b := 2) (by decide) c4
        have n5 := i_rng x2
        refine D_bd (t_X7_isPerson pa qa P q4 x2 hP hq4) (fun r6 eq8 hq7 => ?_)
        obtain ⟨p9, p10⟩ : (0 ≤ r6.toInt ∧ r6.toInt ≤ 1) ∧ (r6.toInt = 1 → 0 ≤ x2.toInt ∧ x2.toInt ≤ 5) := hq7
        refine D_ite (fun c11 => ?_) (fun c11 => ?_)
        · have kc11 := tq_eq (x := r6) (y := (0 : Int32)) rfl (b := 0) (by decide) c11
          have lm1 : ((-1) : Int32).toInt = (-1) := by decide
          exact D_some (show (iR BT Tu) from hTu)
        · have kc110 := tq_eqn (x := r6) (y := (0 : Int32)) rfl (b := 0) (by decide) c11
          have kc11 : 1 ≤ r6.toInt := (by clear n2 kc1 kc3 kc4; omega)
          clear kc110
          unfold fJ_X7_tried_J31
          refine D_bd2 (t_X7_startTrial pa qa Tn Tu q0 q2 hTn hTu) (fun Tu_12 q2_13 eq15 hq14 => ?_)
          refine D_lte (y := Tu_12) rfl ?_
          refine D_lte (y := q2_13) rfl ?_
          obtain ⟨p16, p17, p18⟩ : (iR BT Tu_12) ∧ (q2_13 = q0) ∧ (Tu_12 0 0 = Tn 0 0) := hq14
          refine D_ite (fun c19 => ?_) (fun c19 => ?_)
          · have kc19 := tq_eq (x := x1) (y := (0 : Int32)) rfl (b := 0) (by decide) c19
            refine D_lt (fun Tu_20 eTu_20 => ?_)
            have hTu_20 : iR BT Tu_20 := by rw [eTu_20]; exact iR_setU p16 rfl
            have l0 : (0 : Int32).toInt = 0 := by decide
            have n21 : (Tu_20 0 6).toInt = (0 : Int32).toInt := by rw [eTu_20]; rfl
            unfold fJ_X7_tried_J119
            refine D_bd3 (t_X7_liftsOfTrial pa qa P L Tn Tu_20 q2_13 hP hTn hTu_20 (p17.trans hq0)) (fun r22 L_23 Tu_24 eq26 hq25 => ?_)
            refine D_lte (y := r22) rfl ?_
            refine D_lte (y := L_23) rfl ?_
            refine D_lte (y := Tu_24) rfl ?_
            have p27 : iR BT Tu_24 := hq25
            have n28 := i_rng r22
            exact D_some (show (iR BT Tu_24) from p27)
          · skip
            refine D_ite (fun c29 => ?_) (fun c29 => ?_)
            · have kc29 := tq_eq (x := x1) (y := (1 : Int32)) rfl (b := 1) (by decide) c29
              refine D_lt (fun Tu_30 eTu_30 => ?_)
              have hTu_30 : iR BT Tu_30 := by rw [eTu_30]; exact iR_setU p16 rfl
              have l0 : (0 : Int32).toInt = 0 := by decide
              have n31 : (Tu_30 0 7).toInt = (0 : Int32).toInt := by rw [eTu_30]; rfl
              unfold fJ_X7_tried_J119
              refine D_bd3 (t_X7_liftsOfTrial pa qa P L Tn Tu_30 q2_13 hP hTn hTu_30 (p17.trans hq0)) (fun r32 L_33 Tu_34 eq36 hq35 => ?_)
              refine D_lte (y := r32) rfl ?_
              refine D_lte (y := L_33) rfl ?_
              refine D_lte (y := Tu_34) rfl ?_
              have p37 : iR BT Tu_34 := hq35
              have n38 := i_rng r32
              exact D_some (show (iR BT Tu_34) from p37)
            · skip
              refine D_ite (fun c39 => ?_) (fun c39 => ?_)
              · have kc39 := tq_eq (x := x1) (y := (2 : Int32)) rfl (b := 2) (by decide) c39
                refine D_ck (decide_eq_true (p17.trans hq0)) ?_
                refine D_bd (t_X6_sendAway Tu_12 P x2 p16 hP ⟨(by clear n2 kc1 kc3 kc4 kc39; omega), (by clear n2 kc1 kc3 kc4 kc39; omega)⟩) (fun Tu_40 eq42 hq41 => ?_)
                obtain ⟨p43, p44⟩ : (iR BT Tu_40) ∧ (Tu_40 0 0 = (Tu_12 0 0)) := hq41
                unfold fJ_X7_tried_J119
                refine D_bd3 (t_X7_liftsOfTrial pa qa P L Tn Tu_40 (pa 0) hP hTn p43 rfl) (fun r45 L_46 Tu_47 eq49 hq48 => ?_)
                refine D_lte (y := r45) rfl ?_
                refine D_lte (y := L_46) rfl ?_
                refine D_lte (y := Tu_47) rfl ?_
                have p50 : iR BT Tu_47 := hq48
                have n51 := i_rng r45
                exact D_some (show (iR BT Tu_47) from p50)
              · skip
                refine D_ite (fun c52 => ?_) (fun c52 => ?_)
                · have kc52 := tq_eq (x := x1) (y := (3 : Int32)) rfl (b := 3) (by decide) c52
                  refine D_ck (decide_eq_true (p17.trans hq0)) ?_
                  refine D_bd (t_X6_strengthenAll Tu_12 p16) (fun Tu_53 eq55 hq54 => ?_)
                  obtain ⟨p56, p57⟩ : (iR BT Tu_53) ∧ (Tu_53 0 0 = (Tu_12 0 0)) := hq54
                  unfold fJ_X7_tried_J119
                  refine D_bd3 (t_X7_liftsOfTrial pa qa P L Tn Tu_53 (pa 0) hP hTn p56 rfl) (fun r58 L_59 Tu_60 eq62 hq61 => ?_)
                  refine D_lte (y := r58) rfl ?_
                  refine D_lte (y := L_59) rfl ?_
                  refine D_lte (y := Tu_60) rfl ?_
                  have p63 : iR BT Tu_60 := hq61
                  have n64 := i_rng r58
                  exact D_some (show (iR BT Tu_60) from p63)
                · skip
                  refine D_lt (fun Tu_65 eTu_65 => ?_)
                  have hTu_65 : iR BT Tu_65 := by rw [eTu_65]; exact iR_setU p16 rfl
                  have l0 : (0 : Int32).toInt = 0 := by decide
                  have n66 : (Tu_65 0 4).toInt = (0 : Int32).toInt := by rw [eTu_65]; rfl
                  unfold fJ_X7_tried_J119
                  refine D_bd3 (t_X7_liftsOfTrial pa qa P L Tn Tu_65 q2_13 hP hTn hTu_65 (p17.trans hq0)) (fun r67 L_68 Tu_69 eq71 hq70 => ?_)
                  refine D_lte (y := r67) rfl ?_
                  refine D_lte (y := L_68) rfl ?_
                  refine D_lte (y := Tu_69) rfl ?_
                  have p72 : iR BT Tu_69 := hq70
                  have n73 := i_rng r67
                  exact D_some (show (iR BT Tu_69) from p72)
      · skip
        have n75 := i_rng x2
        refine D_ite (fun c74 => ?_) (fun c74 => ?_)
        · have kc74 := tq_eq (x := x2) (y := (0 : Int32)) rfl (b := 0) (by decide) c74
          unfold fJ_X7_tried_J31
          refine D_bd2 (t_X7_startTrial pa qa Tn Tu q0 q2 hTn hTu) (fun Tu_76 q2_77 eq79 hq78 => ?_)
          refine D_lte (y := Tu_76) rfl ?_
          refine D_lte (y := q2_77) rfl ?_
          obtain ⟨p80, p81, p82⟩ : (iR BT Tu_76) ∧ (q2_77 = q0) ∧ (Tu_76 0 0 = Tn 0 0) := hq78
          refine D_ite (fun c83 => ?_) (fun c83 => ?_)
          · have kc83 := tq_eq (x := x1) (y := (0 : Int32)) rfl (b := 0) (by decide) c83
            refine D_lt (fun Tu_84 eTu_84 => ?_)
            have hTu_84 : iR BT Tu_84 := by rw [eTu_84]; exact iR_setU p80 rfl
            have l0 : (0 : Int32).toInt = 0 := by decide
            have n85 : (Tu_84 0 6).toInt = (0 : Int32).toInt := by rw [eTu_84]; rfl
            unfold fJ_X7_tried_J119
            refine D_bd3 (t_X7_liftsOfTrial pa qa P L Tn Tu_84 q2_77 hP hTn hTu_84 (p81.trans hq0)) (fun r86 L_87 Tu_88 eq90 hq89 => ?_)
            refine D_lte (y := r86) rfl ?_
            refine D_lte (y := L_87) rfl ?_
            refine D_lte (y := Tu_88) rfl ?_
            have p91 : iR BT Tu_88 := hq89
            have n92 := i_rng r86
            exact D_some (show (iR BT Tu_88) from p91)
          · skip
            refine D_ite (fun c93 => ?_) (fun c93 => ?_)
            · have kc93 := tq_eq (x := x1) (y := (1 : Int32)) rfl (b := 1) (by decide) c93
              refine D_lt (fun Tu_94 eTu_94 => ?_)
              have hTu_94 : iR BT Tu_94 := by rw [eTu_94]; exact iR_setU p80 rfl
              have l0 : (0 : Int32).toInt = 0 := by decide
              have n95 : (Tu_94 0 7).toInt = (0 : Int32).toInt := by rw [eTu_94]; rfl
              unfold fJ_X7_tried_J119
              refine D_bd3 (t_X7_liftsOfTrial pa qa P L Tn Tu_94 q2_77 hP hTn hTu_94 (p81.trans hq0)) (fun r96 L_97 Tu_98 eq100 hq99 => ?_)
              refine D_lte (y := r96) rfl ?_
              refine D_lte (y := L_97) rfl ?_
              refine D_lte (y := Tu_98) rfl ?_
              have p101 : iR BT Tu_98 := hq99
              have n102 := i_rng r96
              exact D_some (show (iR BT Tu_98) from p101)
            · skip
              refine D_ite (fun c103 => ?_) (fun c103 => ?_)
              · have kc103 := tq_eq (x := x1) (y := (2 : Int32)) rfl (b := 2) (by decide) c103
                refine D_ck (decide_eq_true (p81.trans hq0)) ?_
                refine D_bd (t_X6_sendAway Tu_76 P x2 p80 hP ⟨(by clear n2 kc1 kc3 kc103; omega), (by clear n2 kc1 kc3 kc103; omega)⟩) (fun Tu_104 eq106 hq105 => ?_)
                obtain ⟨p107, p108⟩ : (iR BT Tu_104) ∧ (Tu_104 0 0 = (Tu_76 0 0)) := hq105
                unfold fJ_X7_tried_J119
                refine D_bd3 (t_X7_liftsOfTrial pa qa P L Tn Tu_104 (pa 0) hP hTn p107 rfl) (fun r109 L_110 Tu_111 eq113 hq112 => ?_)
                refine D_lte (y := r109) rfl ?_
                refine D_lte (y := L_110) rfl ?_
                refine D_lte (y := Tu_111) rfl ?_
                have p114 : iR BT Tu_111 := hq112
                have n115 := i_rng r109
                exact D_some (show (iR BT Tu_111) from p114)
              · skip
                refine D_ite (fun c116 => ?_) (fun c116 => ?_)
                · have kc116 := tq_eq (x := x1) (y := (3 : Int32)) rfl (b := 3) (by decide) c116
                  refine D_ck (decide_eq_true (p81.trans hq0)) ?_
                  refine D_bd (t_X6_strengthenAll Tu_76 p80) (fun Tu_117 eq119 hq118 => ?_)
                  obtain ⟨p120, p121⟩ : (iR BT Tu_117) ∧ (Tu_117 0 0 = (Tu_76 0 0)) := hq118
                  unfold fJ_X7_tried_J119
                  refine D_bd3 (t_X7_liftsOfTrial pa qa P L Tn Tu_117 (pa 0) hP hTn p120 rfl) (fun r122 L_123 Tu_124 eq126 hq125 => ?_)
                  refine D_lte (y := r122) rfl ?_
                  refine D_lte (y := L_123) rfl ?_
                  refine D_lte (y := Tu_124) rfl ?_
                  have p127 : iR BT Tu_124 := hq125
                  have n128 := i_rng r122
                  exact D_some (show (iR BT Tu_124) from p127)
                · skip
                  refine D_lt (fun Tu_129 eTu_129 => ?_)
                  have hTu_129 : iR BT Tu_129 := by rw [eTu_129]; exact iR_setU p80 rfl
                  have l0 : (0 : Int32).toInt = 0 := by decide
                  have n130 : (Tu_129 0 4).toInt = (0 : Int32).toInt := by rw [eTu_129]; rfl
                  unfold fJ_X7_tried_J119
                  refine D_bd3 (t_X7_liftsOfTrial pa qa P L Tn Tu_129 q2_77 hP hTn hTu_129 (p81.trans hq0)) (fun r131 L_132 Tu_133 eq135 hq134 => ?_)
                  refine D_lte (y := r131) rfl ?_
                  refine D_lte (y := L_132) rfl ?_
                  refine D_lte (y := Tu_133) rfl ?_
                  have p136 : iR BT Tu_133 := hq134
                  have n137 := i_rng r131
                  exact D_some (show (iR BT Tu_133) from p136)
        · skip
          have lm1 : ((-1) : Int32).toInt = (-1) := by decide
          exact D_some (show (iR BT Tu) from hTu)
set_option maxHeartbeats 1000000 in
set_option maxRecDepth 100000 in
theorem t_X0_saveRow_x_va16 (pa : Nat → Nat) (qa : Nat → Nat) (Tv : Tr) (C : Tr) (x2 : Int32) (hTv : iR BT Tv) (hC : iR BC C) (hx2 : 0 ≤ x2.toInt ∧ x2.toInt ≤ 1444) (hm : x2.toInt % 76 = 0) : D (f_X0_saveRow_x_va16 pa qa Tv C x2) (fun (q : Int32 × Tr) => (iR BC (q.2)) ∧ ((q.1).toInt = x2.toInt + 50)) := by
  unfold f_X0_saveRow_x_va16
  have l0 : (0 : Int32).toInt = 0 := by decide
  have l50 : (50 : Int32).toInt = 50 := by decide
  refine D_ck (okC_of (by omega) (by omega) (by omega) (by omega) (by omega)) ?_
  refine D_lt (fun C_1 eC_1 => ?_)
  have hC_1 : iR BC C_1 := by rw [eC_1]; exact BC_to hC (fun k hk => by rw [rB_A (by have hq := i_m76 (o := 0) hx2.1 hm; omega)]; exact hTv 16 k)
  have n2 : (x2 + 50).toInt = x2.toInt + 50 := i_addK rfl (by decide) (by omega) (by omega)
  exact D_some (show (iR BC C_1) ∧ ((x2 + 50).toInt = x2.toInt + 50) from ⟨hC_1, (by omega)⟩)
set_option maxHeartbeats 1000000 in
set_option maxRecDepth 100000 in
theorem t_X0_saveRow_x_va17 (pa : Nat → Nat) (qa : Nat → Nat) (Tv : Tr) (C : Tr) (x2 : Int32) (hTv : iR BT Tv) (hC : iR BC C) (hx2 : 0 ≤ x2.toInt ∧ x2.toInt ≤ 1494) (hm : x2.toInt % 76 = 50) : D (f_X0_saveRow_x_va17 pa qa Tv C x2) (fun (q : Int32 × Tr) => (iR BC (q.2)) ∧ ((q.1).toInt = x2.toInt + 5)) := by
  unfold f_X0_saveRow_x_va17
  have l0 : (0 : Int32).toInt = 0 := by decide
  have l5 : (5 : Int32).toInt = 5 := by decide
  refine D_ck (okC_of (by omega) (by omega) (by omega) (by omega) (by omega)) ?_
  refine D_lt (fun C_1 eC_1 => ?_)
  have hC_1 : iR BC C_1 := by rw [eC_1]; exact BC_to hC (fun k hk => by rw [rB_B (by have hq := i_m76 (o := 50) hx2.1 hm; omega) (by have hq := i_m76 (o := 50) hx2.1 hm; omega)]; exact hTv 17 k)
  have n2 : (x2 + 5).toInt = x2.toInt + 5 := i_addK rfl (by decide) (by omega) (by omega)
  exact D_some (show (iR BC C_1) ∧ ((x2 + 5).toInt = x2.toInt + 5) from ⟨hC_1, (by omega)⟩)
set_option maxHeartbeats 1000000 in
set_option maxRecDepth 100000 in
theorem t_X0_saveRow_x_va18 (pa : Nat → Nat) (qa : Nat → Nat) (Tv : Tr) (C : Tr) (x2 : Int32) (hTv : iR BT Tv) (hC : iR BC C) (hx2 : 0 ≤ x2.toInt ∧ x2.toInt ≤ 1499) (hm : x2.toInt % 76 = 55) : D (f_X0_saveRow_x_va18 pa qa Tv C x2) (fun (q : Int32 × Tr) => (iR BC (q.2)) ∧ ((q.1).toInt = x2.toInt + 5)) := by
  unfold f_X0_saveRow_x_va18
  have l0 : (0 : Int32).toInt = 0 := by decide
  have l5 : (5 : Int32).toInt = 5 := by decide
  refine D_ck (okC_of (by omega) (by omega) (by omega) (by omega) (by omega)) ?_
  refine D_lt (fun C_1 eC_1 => ?_)
  have hC_1 : iR BC C_1 := by rw [eC_1]; exact BC_to hC (fun k hk => by rw [rB_C (by have hq := i_m76 (o := 55) hx2.1 hm; omega) (by have hq := i_m76 (o := 55) hx2.1 hm; omega)]; exact full_at _)
  have n2 : (x2 + 5).toInt = x2.toInt + 5 := i_addK rfl (by decide) (by omega) (by omega)
  exact D_some (show (iR BC C_1) ∧ ((x2 + 5).toInt = x2.toInt + 5) from ⟨hC_1, (by omega)⟩)
set_option maxHeartbeats 1000000 in
set_option maxRecDepth 100000 in
theorem t_X0_saveRow_x_va15 (pa : Nat → Nat) (qa : Nat → Nat) (Tv : Tr) (C : Tr) (x2 : Int32) (hTv : iR BT Tv) (hC : iR BC C) (hx2 : 0 ≤ x2.toInt ∧ x2.toInt ≤ 1504) (hm : x2.toInt % 76 = 60) : D (f_X0_saveRow_x_va15 pa qa Tv C x2) (fun (q : Int32 × Tr) => (iR BC (q.2)) ∧ ((q.1).toInt = x2.toInt + 10)) := by
  unfold f_X0_saveRow_x_va15
  have l0 : (0 : Int32).toInt = 0 := by decide
  have l10 : (10 : Int32).toInt = 10 := by decide
  refine D_ck (okC_of (by omega) (by omega) (by omega) (by omega) (by omega)) ?_
  refine D_lt (fun C_1 eC_1 => ?_)
  have hC_1 : iR BC C_1 := by rw [eC_1]; exact BC_to hC (fun k hk => by rw [rB_D (by have hq := i_m76 (o := 60) hx2.1 hm; omega) (by have hq := i_m76 (o := 60) hx2.1 hm; omega)]; exact hTv 15 k)
  have n2 : (x2 + 10).toInt = x2.toInt + 10 := i_addK rfl (by decide) (by omega) (by omega)
  exact D_some (show (iR BC C_1) ∧ ((x2 + 10).toInt = x2.toInt + 10) from ⟨hC_1, (by omega)⟩)
set_option maxHeartbeats 1000000 in
set_option maxRecDepth 100000 in
theorem t_X0_saveRow_x_va10 (pa : Nat → Nat) (qa : Nat → Nat) (Tv : Tr) (C : Tr) (x2 : Int32) (hTv : iR BT Tv) (hC : iR BC C) (hx2 : 0 ≤ x2.toInt ∧ x2.toInt ≤ 1514) (hm : x2.toInt % 76 = 70) : D (f_X0_saveRow_x_va10 pa qa Tv C x2) (fun (q : Int32 × Tr) => (iR BC (q.2)) ∧ ((q.1).toInt = x2.toInt + 6)) := by
  unfold f_X0_saveRow_x_va10
  have l0 : (0 : Int32).toInt = 0 := by decide
  have l6 : (6 : Int32).toInt = 6 := by decide
  refine D_ck (okC_of (by omega) (by omega) (by omega) (by omega) (by omega)) ?_
  refine D_lt (fun C_1 eC_1 => ?_)
  have hC_1 : iR BC C_1 := by rw [eC_1]; exact BC_to hC (fun k hk => by rw [rB_E (by have hq := i_m76 (o := 70) hx2.1 hm; omega) (by have hq := i_m76 (o := 70) hx2.1 hm; omega)]; exact full_at _)
  have n2 : (x2 + 6).toInt = x2.toInt + 6 := i_addK rfl (by decide) (by omega) (by omega)
  exact D_some (show (iR BC C_1) ∧ ((x2 + 6).toInt = x2.toInt + 6) from ⟨hC_1, (by omega)⟩)
set_option maxHeartbeats 1000000 in
set_option maxRecDepth 100000 in
theorem t_X0_save_x_va0 (pa : Nat → Nat) (qa : Nat → Nat) (Tv : Tr) (C : Tr) (hTv : iR BT Tv) (hC : iR BC C) : D (f_X0_save_x_va0 pa qa Tv C) (fun (q : Tr) => (iR BC q)) := by
  unfold f_X0_save_x_va0
  refine D_lt (fun y1 ey1 => ?_)
  have n2 : 0 ≤ (C 0 1).toInt ∧ (C 0 1).toInt ≤ 19 := hC 0 1
  have n3 := i_mulR (a := (C 0 1)) (b := (76 : Int32)) 76 (by decide) (by omega) (by omega)
  have hy1 : y1.toInt = ((C 0 1) * 76).toInt := by rw [ey1]
  refine D_bd2 (t_X0_saveRow_x_va16 pa qa Tv C y1 hTv hC ⟨(by omega), (by omega)⟩ (by first | assumption | exact (by omega))) (fun r4 C_5 eq7 hq6 => ?_)
  refine D_lte (y := r4) rfl ?_
  refine D_lte (y := C_5) rfl ?_
  obtain ⟨p8, p9⟩ : (iR BC C_5) ∧ (r4.toInt = y1.toInt + 50) := hq6
  have n10 := i_rng r4
  refine D_bd2 (t_X0_saveRow_x_va17 pa qa Tv C_5 r4 hTv p8 ⟨(by omega), (by omega)⟩ (by first | assumption | exact (by omega))) (fun r11 C_12 eq14 hq13 => ?_)
  refine D_lte (y := r11) rfl ?_
  refine D_lte (y := C_12) rfl ?_
  obtain ⟨p15, p16⟩ : (iR BC C_12) ∧ (r11.toInt = r4.toInt + 5) := hq13
  have n17 := i_rng r11
  refine D_bd2 (t_X0_saveRow_x_va18 pa qa Tv C_12 r11 hTv p15 ⟨(by omega), (by omega)⟩ (by first | assumption | exact (by omega))) (fun r18 C_19 eq21 hq20 => ?_)
  refine D_lte (y := r18) rfl ?_
  refine D_lte (y := C_19) rfl ?_
  obtain ⟨p22, p23⟩ : (iR BC C_19) ∧ (r18.toInt = r11.toInt + 5) := hq20
  have n24 := i_rng r18
  refine D_bd2 (t_X0_saveRow_x_va15 pa qa Tv C_19 r18 hTv p22 ⟨(by omega), (by omega)⟩ (by first | assumption | exact (by omega))) (fun r25 C_26 eq28 hq27 => ?_)
  refine D_lte (y := r25) rfl ?_
  refine D_lte (y := C_26) rfl ?_
  obtain ⟨p29, p30⟩ : (iR BC C_26) ∧ (r25.toInt = r18.toInt + 10) := hq27
  have n31 := i_rng r25
  refine D_bd2 (t_X0_saveRow_x_va10 pa qa Tv C_26 r25 hTv p29 ⟨(by omega), (by omega)⟩ (by first | assumption | exact (by omega))) (fun r32 C_33 eq35 hq34 => ?_)
  refine D_lte (y := r32) rfl ?_
  refine D_lte (y := C_33) rfl ?_
  obtain ⟨p36, p37⟩ : (iR BC C_33) ∧ (r32.toInt = r25.toInt + 6) := hq34
  have n38 := i_rng r32
  have n40 : 0 ≤ (C_33 0 1).toInt ∧ (C_33 0 1).toInt ≤ 19 := p36 0 1
  have n41 : ((C_33 0 1) + 1).toInt = (C_33 0 1).toInt + 1 := i_addK rfl (by decide) (by clear n2 n3 hy1 p9 n10 p16 n17 p23 n24 p30 n31 p37 n38; omega) (by clear n2 n3 hy1 p9 n10 p16 n17 p23 n24 p30 n31 p37 n38; omega)
  have n42 := i_rem (a := ((C_33 0 1) + 1)) (b := (20 : Int32)) 20 (by decide) (by decide) (by clear n2 n3 hy1 p9 n10 p16 n17 p23 n24 p30 n31 p37 n38; omega)
  refine D_lt (fun C_39 eC_39 => ?_)
  have hC_39 : iR BC C_39 := by rw [eC_39]; exact iR_set p36 (show (0 : Int) ≤ _ from (by clear n2 n3 hy1 p9 n10 p16 n17 p23 n24 p30 n31 p37 n38; omega)) (show _ ≤ (19 : Int) from (by clear n2 n3 hy1 p9 n10 p16 n17 p23 n24 p30 n31 p37 n38; omega))
  have n43 : (C_39 0 1).toInt = (((C_33 0 1) + 1) - ((C_33 0 1) + 1) / 20 * 20).toInt := by rw [eC_39]; rfl
  have n45 : 0 ≤ (C_39 0 0).toInt ∧ (C_39 0 0).toInt ≤ 20 := hC_39 0 0
  refine D_ite (fun c44 => ?_) (fun c44 => ?_)
  · have kc44 := tq_eq (x := (C_39 0 0)) (y := (20 : Int32)) rfl (b := 20) (by decide) c44
    unfold fJ_X0_save_x_va0_J92
    have l20 : (20 : Int32).toInt = 20 := by decide
    refine D_lt (fun C_46 eC_46 => ?_)
    have hC_46 : iR BC C_46 := by rw [eC_46]; exact iR_set hC_39 (show (0 : Int) ≤ _ from (by clear n2 n3 hy1 p9 n10 p16 n17 p23 n24 p30 n31 p37 n38 n40 n41 n42 n43 n45 kc44; omega)) (show _ ≤ (20 : Int) from (by clear n2 n3 hy1 p9 n10 p16 n17 p23 n24 p30 n31 p37 n38 n40 n41 n42 n43 n45 kc44; omega))
    have n47 : (C_46 0 1).toInt = (C_39 0 1).toInt := by rw [eC_46]; rfl
    exact D_some (show (iR BC C_46) from hC_46)
  · have kc440 := tq_eqn (x := (C_39 0 0)) (y := (20 : Int32)) rfl (b := 20) (by decide) c44
    have kc44 : (C_39 0 0).toInt ≤ 19 := (by clear n2 n3 hy1 p9 n10 p16 n17 p23 n24 p30 n31 p37 n38 n40 n41 n42 n43; omega)
    clear kc440
    unfold fJ_X0_save_x_va0_J92
    have n49 : ((C_39 0 0) + 1).toInt = (C_39 0 0).toInt + 1 := i_addK rfl (by decide) (by clear n2 n3 hy1 p9 n10 p16 n17 p23 n24 p30 n31 p37 n38 n40 n41 n42 n43; omega) (by clear n2 n3 hy1 p9 n10 p16 n17 p23 n24 p30 n31 p37 n38 n40 n41 n42 n43; omega)
    refine D_lt (fun C_48 eC_48 => ?_)
    have hC_48 : iR BC C_48 := by rw [eC_48]; exact iR_set hC_39 (show (0 : Int) ≤ _ from (by clear n2 n3 hy1 p9 n10 p16 n17 p23 n24 p30 n31 p37 n38 n40 n41 n42 n43; omega)) (show _ ≤ (20 : Int) from (by clear n2 n3 hy1 p9 n10 p16 n17 p23 n24 p30 n31 p37 n38 n40 n41 n42 n43; omega))
    have n50 : (C_48 0 1).toInt = (C_39 0 1).toInt := by rw [eC_48]; rfl
    have n51 : (C_48 0 0).toInt = ((C_39 0 0) + 1).toInt := by rw [eC_48]; rfl
    exact D_some (show (iR BC C_48) from hC_48)
set_option maxHeartbeats 1000000 in
set_option maxRecDepth 100000 in
theorem t_X7_turn (pa : Nat → Nat) (qa : Nat → Nat) (P : Tr) (Tn : Tr) (Tv : Tr) (C : Tr) (q0 : Nat) (q3 : Nat) (q4 : Nat) (x1 : Int32) (hP : iR BP P) (hTn : iR BT Tn) (hTv : iR BT Tv) (hC : iR BC C) (hq0 : q0 = pa 0) (hq4 : q4 = pa 0) : D (f_X7_turn pa qa P Tn Tv C q0 q3 q4 x1) (fun (q : Int32 × Tr × Tr × Tr × Nat) => (iR BT (q.2.1)) ∧ (iR BT (q.2.2.1)) ∧ (iR BC (q.2.2.2.1))) := by
  unfold f_X7_turn
  have n1 := i_rng x1
  refine D_bd (t_X7_isPlace pa qa P q4 x1 hP hq4) (fun r2 eq4 hq3 => ?_)
  obtain ⟨p5, p6⟩ : (0 ≤ r2.toInt ∧ r2.toInt ≤ 1) ∧ (r2.toInt = 1 → 0 ≤ x1.toInt ∧ x1.toInt ≤ 4) := hq3
  refine D_ite (fun c7 => ?_) (fun c7 => ?_)
  · have kc7 := tq_eq (x := r2) (y := (0 : Int32)) rfl (b := 0) (by decide) c7
    have lm1 : ((-1) : Int32).toInt = (-1) := by decide
    exact D_some (show (iR BT Tn) ∧ (iR BT Tv) ∧ (iR BC C) from ⟨hTn, hTv, hC⟩)
  · have kc70 := tq_eqn (x := r2) (y := (0 : Int32)) rfl (b := 0) (by decide) c7
    have kc7 : 1 ≤ r2.toInt := (by omega)
    clear kc70
    refine D_bd2 (t_X6_copy Tv Tn q3 q0 hTv hTn) (fun Tv_8 q3_9 eq11 hq10 => ?_)
    refine D_lte (y := Tv_8) rfl ?_
    refine D_lte (y := q3_9) rfl ?_
    obtain ⟨p12, p13, p14⟩ : (iR BT Tv_8) ∧ (q3_9 = q0) ∧ (Tv_8 0 0 = Tn 0 0) := hq10
    refine D_ck (decide_eq_true hq0) ?_
    refine D_bd2 (t_X6_turnOver Tn P x1 hTn hP ⟨(by omega), (by omega)⟩) (fun r15 Tn_16 eq18 hq17 => ?_)
    refine D_lte (y := r15) rfl ?_
    refine D_lte (y := Tn_16) rfl ?_
    obtain ⟨p19, p20⟩ : (iR BT Tn_16) ∧ (Tn_16 0 0 = (Tn 0 0)) := hq17
    have n21 := i_rng r15
    refine D_ite (fun c22 => ?_) (fun c22 => ?_)
    · have kc22 := tq_le (x := r15) (y := (0 : Int32)) rfl (b := 0) (by decide) c22
      exact D_some (show (iR BT Tn_16) ∧ (iR BT Tv_8) ∧ (iR BC C) from ⟨p19, p12, hC⟩)
    · have kc22 := tq_len (x := r15) (y := (0 : Int32)) rfl (b := 0) (by decide) c22
      refine D_bd (t_X0_save_x_va0 pa qa Tv_8 C p12 hC) (fun C_23 eq25 hq24 => ?_)
      have p26 : iR BC C_23 := hq24
      exact D_some (show (iR BT Tn_16) ∧ (iR BT Tv_8) ∧ (iR BC C_23) from ⟨p19, p12, p26⟩)
set_option maxHeartbeats 1000000 in
set_option maxRecDepth 100000 in
theorem t_X0_bringRow_x_na16 (pa : Nat → Nat) (qa : Nat → Nat) (Tn : Tr) (C : Tr) (x2 : Int32) (hTn : iR BT Tn) (hC : iR BC C) (hx2 : 0 ≤ x2.toInt ∧ x2.toInt ≤ 1444) (hm : x2.toInt % 76 = 0) : D (f_X0_bringRow_x_na16 pa qa Tn C x2) (fun (q : Int32 × Tr) => (iR BT (q.2)) ∧ ((q.1).toInt = x2.toInt + 50)) := by
  unfold f_X0_bringRow_x_na16
  have l0 : (0 : Int32).toInt = 0 := by decide
  have l50 : (50 : Int32).toInt = 50 := by decide
  refine D_ck (okC_of (by omega) (by omega) (by omega) (by omega) (by omega)) ?_
  refine D_lt (fun Tn_1 eTn_1 => ?_)
  have hTn_1 : iR BT Tn_1 := by rw [eTn_1]; exact BC_fr hC hTn (fun k hk => by rw [rB_A (by have hq := i_m76 (o := 0) hx2.1 hm; omega)]; rfl)
  have n2 : (x2 + 50).toInt = x2.toInt + 50 := i_addK rfl (by decide) (by omega) (by omega)
  exact D_some (show (iR BT Tn_1) ∧ ((x2 + 50).toInt = x2.toInt + 50) from ⟨hTn_1, (by omega)⟩)
set_option maxHeartbeats 1000000 in
set_option maxRecDepth 100000 in
theorem t_X0_bringRow_x_na17 (pa : Nat → Nat) (qa : Nat → Nat) (Tn : Tr) (C : Tr) (x2 : Int32) (hTn : iR BT Tn) (hC : iR BC C) (hx2 : 0 ≤ x2.toInt ∧ x2.toInt ≤ 1494) (hm : x2.toInt % 76 = 50) : D (f_X0_bringRow_x_na17 pa qa Tn C x2) (fun (q : Int32 × Tr) => (iR BT (q.2)) ∧ ((q.1).toInt = x2.toInt + 5)) := by
  unfold f_X0_bringRow_x_na17
  have l0 : (0 : Int32).toInt = 0 := by decide
  have l5 : (5 : Int32).toInt = 5 := by decide
  refine D_ck (okC_of (by omega) (by omega) (by omega) (by omega) (by omega)) ?_
  refine D_lt (fun Tn_1 eTn_1 => ?_)
  have hTn_1 : iR BT Tn_1 := by rw [eTn_1]; exact BC_fr hC hTn (fun k hk => by rw [rB_B (by have hq := i_m76 (o := 50) hx2.1 hm; omega) (by have hq := i_m76 (o := 50) hx2.1 hm; omega)]; rfl)
  have n2 : (x2 + 5).toInt = x2.toInt + 5 := i_addK rfl (by decide) (by omega) (by omega)
  exact D_some (show (iR BT Tn_1) ∧ ((x2 + 5).toInt = x2.toInt + 5) from ⟨hTn_1, (by omega)⟩)
set_option maxHeartbeats 1000000 in
set_option maxRecDepth 100000 in
theorem t_X0_bringRow_x_na18 (pa : Nat → Nat) (qa : Nat → Nat) (Tn : Tr) (C : Tr) (x2 : Int32) (hTn : iR BT Tn) (hC : iR BC C) (hx2 : 0 ≤ x2.toInt ∧ x2.toInt ≤ 1499) (hm : x2.toInt % 76 = 55) : D (f_X0_bringRow_x_na18 pa qa Tn C x2) (fun (q : Int32 × Tr) => (iR BT (q.2)) ∧ ((q.1).toInt = x2.toInt + 5)) := by
  unfold f_X0_bringRow_x_na18
  have l0 : (0 : Int32).toInt = 0 := by decide
  have l5 : (5 : Int32).toInt = 5 := by decide
  refine D_ck (okC_of (by omega) (by omega) (by omega) (by omega) (by omega)) ?_
  refine D_lt (fun Tn_1 eTn_1 => ?_)
  have hTn_1 : iR BT Tn_1 := by rw [eTn_1]; exact BC_fr hC hTn (fun k hk => by rw [rB_C (by have hq := i_m76 (o := 55) hx2.1 hm; omega) (by have hq := i_m76 (o := 55) hx2.1 hm; omega)]; rfl)
  have n2 : (x2 + 5).toInt = x2.toInt + 5 := i_addK rfl (by decide) (by omega) (by omega)
  exact D_some (show (iR BT Tn_1) ∧ ((x2 + 5).toInt = x2.toInt + 5) from ⟨hTn_1, (by omega)⟩)
set_option maxHeartbeats 1000000 in
set_option maxRecDepth 100000 in
theorem t_X0_bringRow_x_na15 (pa : Nat → Nat) (qa : Nat → Nat) (Tn : Tr) (C : Tr) (x2 : Int32) (hTn : iR BT Tn) (hC : iR BC C) (hx2 : 0 ≤ x2.toInt ∧ x2.toInt ≤ 1504) (hm : x2.toInt % 76 = 60) : D (f_X0_bringRow_x_na15 pa qa Tn C x2) (fun (q : Int32 × Tr) => (iR BT (q.2)) ∧ ((q.1).toInt = x2.toInt + 10)) := by
  unfold f_X0_bringRow_x_na15
  have l0 : (0 : Int32).toInt = 0 := by decide
  have l10 : (10 : Int32).toInt = 10 := by decide
  refine D_ck (okC_of (by omega) (by omega) (by omega) (by omega) (by omega)) ?_
  refine D_lt (fun Tn_1 eTn_1 => ?_)
  have hTn_1 : iR BT Tn_1 := by rw [eTn_1]; exact BC_fr hC hTn (fun k hk => by rw [rB_D (by have hq := i_m76 (o := 60) hx2.1 hm; omega) (by have hq := i_m76 (o := 60) hx2.1 hm; omega)]; rfl)
  have n2 : (x2 + 10).toInt = x2.toInt + 10 := i_addK rfl (by decide) (by omega) (by omega)
  exact D_some (show (iR BT Tn_1) ∧ ((x2 + 10).toInt = x2.toInt + 10) from ⟨hTn_1, (by omega)⟩)
set_option maxHeartbeats 1000000 in
set_option maxRecDepth 100000 in
theorem t_X0_bringRow_x_na10 (pa : Nat → Nat) (qa : Nat → Nat) (Tn : Tr) (C : Tr) (x2 : Int32) (hTn : iR BT Tn) (hC : iR BC C) (hx2 : 0 ≤ x2.toInt ∧ x2.toInt ≤ 1514) (hm : x2.toInt % 76 = 70) : D (f_X0_bringRow_x_na10 pa qa Tn C x2) (fun (q : Int32 × Tr) => (iR BT (q.2)) ∧ ((q.1).toInt = x2.toInt + 6)) := by
  unfold f_X0_bringRow_x_na10
  have l0 : (0 : Int32).toInt = 0 := by decide
  have l6 : (6 : Int32).toInt = 6 := by decide
  refine D_ck (okC_of (by omega) (by omega) (by omega) (by omega) (by omega)) ?_
  refine D_lt (fun Tn_1 eTn_1 => ?_)
  have hTn_1 : iR BT Tn_1 := by rw [eTn_1]; exact BC_fr hC hTn (fun k hk => by rw [rB_E (by have hq := i_m76 (o := 70) hx2.1 hm; omega) (by have hq := i_m76 (o := 70) hx2.1 hm; omega)]; rfl)
  have n2 : (x2 + 6).toInt = x2.toInt + 6 := i_addK rfl (by decide) (by omega) (by omega)
  exact D_some (show (iR BT Tn_1) ∧ ((x2 + 6).toInt = x2.toInt + 6) from ⟨hTn_1, (by omega)⟩)
set_option maxHeartbeats 1000000 in
set_option maxRecDepth 100000 in
theorem t_X0_bringBack_x_na0 (pa : Nat → Nat) (qa : Nat → Nat) (Tn : Tr) (C : Tr) (hTn : iR BT Tn) (hC : iR BC C) : D (f_X0_bringBack_x_na0 pa qa Tn C) (fun (q : Tr × Tr) => (iR BT (q.1)) ∧ (iR BC (q.2))) := by
  unfold f_X0_bringBack_x_na0
  have n2 : 0 ≤ (C 0 0).toInt ∧ (C 0 0).toInt ≤ 20 := hC 0 0
  refine D_ite (fun c1 => ?_) (fun c1 => ?_)
  · have kc1 := tq_eq (x := (C 0 0)) (y := (0 : Int32)) rfl (b := 0) (by decide) c1
    exact D_some (show (iR BT Tn) ∧ (iR BC C) from ⟨hTn, hC⟩)
  · have kc10 := tq_eqn (x := (C 0 0)) (y := (0 : Int32)) rfl (b := 0) (by decide) c1
    have kc1 : 1 ≤ (C 0 0).toInt := (by omega)
    clear kc10
    have n4 : 0 ≤ (C 0 1).toInt ∧ (C 0 1).toInt ≤ 19 := hC 0 1
    have n5 : ((C 0 1) + 20).toInt = (C 0 1).toInt + 20 := i_addK rfl (by decide) (by omega) (by omega)
    have n6 : (((C 0 1) + 20) - 1).toInt = ((C 0 1) + 20).toInt - 1 := i_subK rfl (by decide) (by omega) (by omega)
    have n7 := i_rem (a := (((C 0 1) + 20) - 1)) (b := (20 : Int32)) 20 (by decide) (by decide) (by omega)
    refine D_lt (fun C_3 eC_3 => ?_)
    have hC_3 : iR BC C_3 := by rw [eC_3]; exact iR_set hC (show (0 : Int) ≤ _ from (by omega)) (show _ ≤ (19 : Int) from (by omega))
    have n8 : (C_3 0 0).toInt = (C 0 0).toInt := by rw [eC_3]; rfl
    have n9 : (C_3 0 1).toInt = ((((C 0 1) + 20) - 1) - (((C 0 1) + 20) - 1) / 20 * 20).toInt := by rw [eC_3]; rfl
    have n11 : ((C_3 0 0) - 1).toInt = (C_3 0 0).toInt - 1 := i_subK rfl (by decide) (by clear n4 n5 n6 n7 n9; omega) (by clear n4 n5 n6 n7 n9; omega)
    refine D_lt (fun C_10 eC_10 => ?_)
    have hC_10 : iR BC C_10 := by rw [eC_10]; exact iR_set hC_3 (show (0 : Int) ≤ _ from (by clear n4 n5 n6 n7 n9; omega)) (show _ ≤ (20 : Int) from (by clear n4 n5 n6 n7 n9; omega))
    have n12 : (C_10 0 1).toInt = (C_3 0 1).toInt := by rw [eC_10]; rfl
    have n13 : (C_10 0 0).toInt = ((C_3 0 0) - 1).toInt := by rw [eC_10]; rfl
    refine D_lt (fun y14 ey14 => ?_)
    have n15 := i_mulR (a := (C_10 0 1)) (b := (76 : Int32)) 76 (by decide) (by clear n2 kc1 n8 n11 n13; omega) (by clear n2 kc1 n8 n11 n13; omega)
    have hy14 : y14.toInt = ((C_10 0 1) * 76).toInt := by rw [ey14]
    refine D_bd2 (t_X0_bringRow_x_na16 pa qa Tn C_10 y14 hTn hC_10 ⟨(by clear n2 kc1 n8 n11 n13; omega), (by clear n2 kc1 n8 n11 n13; omega)⟩ (by first | assumption | exact (by clear n2 kc1 n8 n11 n13; omega))) (fun r16 Tn_17 eq19 hq18 => ?_)
    refine D_lte (y := r16) rfl ?_
    refine D_lte (y := Tn_17) rfl ?_
    obtain ⟨p20, p21⟩ : (iR BT Tn_17) ∧ (r16.toInt = y14.toInt + 50) := hq18
    have n22 := i_rng r16
    refine D_bd2 (t_X0_bringRow_x_na17 pa qa Tn_17 C_10 r16 p20 hC_10 ⟨(by clear n2 kc1 n8 n11 n13; omega), (by clear n2 kc1 n8 n11 n13; omega)⟩ (by first | assumption | exact (by clear n2 kc1 n8 n11 n13; omega))) (fun r23 Tn_24 eq26 hq25 => ?_)
    refine D_lte (y := r23) rfl ?_
    refine D_lte (y := Tn_24) rfl ?_
    obtain ⟨p27, p28⟩ : (iR BT Tn_24) ∧ (r23.toInt = r16.toInt + 5) := hq25
    have n29 := i_rng r23
    refine D_bd2 (t_X0_bringRow_x_na18 pa qa Tn_24 C_10 r23 p27 hC_10 ⟨(by clear n2 kc1 n8 n11 n13; omega), (by clear n2 kc1 n8 n11 n13; omega)⟩ (by first | assumption | exact (by clear n2 kc1 n8 n11 n13; omega))) (fun r30 Tn_31 eq33 hq32 => ?_)
    refine D_lte (y := r30) rfl ?_
    refine D_lte (y := Tn_31) rfl ?_
    obtain ⟨p34, p35⟩ : (iR BT Tn_31) ∧ (r30.toInt = r23.toInt + 5) := hq32
    have n36 := i_rng r30
    refine D_bd2 (t_X0_bringRow_x_na15 pa qa Tn_31 C_10 r30 p34 hC_10 ⟨(by clear n2 kc1 n8 n11 n13; omega), (by clear n2 kc1 n8 n11 n13; omega)⟩ (by first | assumption | exact (by clear n2 kc1 n8 n11 n13; omega))) (fun r37 Tn_38 eq40 hq39 => ?_)
    refine D_lte (y := r37) rfl ?_
    refine D_lte (y := Tn_38) rfl ?_
    obtain ⟨p41, p42⟩ : (iR BT Tn_38) ∧ (r37.toInt = r30.toInt + 10) := hq39
    have n43 := i_rng r37
    refine D_bd2 (t_X0_bringRow_x_na10 pa qa Tn_38 C_10 r37 p41 hC_10 ⟨(by clear n2 kc1 n8 n11 n13; omega), (by clear n2 kc1 n8 n11 n13; omega)⟩ (by first | assumption | exact (by clear n2 kc1 n8 n11 n13; omega))) (fun r44 Tn_45 eq47 hq46 => ?_)
    refine D_lte (y := r44) rfl ?_
    refine D_lte (y := Tn_45) rfl ?_
    obtain ⟨p48, p49⟩ : (iR BT Tn_45) ∧ (r44.toInt = r37.toInt + 6) := hq46
    have n50 := i_rng r44
    exact D_some (show (iR BT Tn_45) ∧ (iR BC C_10) from ⟨p48, hC_10⟩)
set_option maxHeartbeats 1000000 in
set_option maxRecDepth 100000 in
theorem t_X7_undo (pa : Nat → Nat) (qa : Nat → Nat) (Tn : Tr) (C : Tr) (hTn : iR BT Tn) (hC : iR BC C) : D (f_X7_undo pa qa Tn C) (fun (q : Int32 × Tr × Tr) => (iR BT (q.2.1)) ∧ (iR BC (q.2.2))) := by
  unfold f_X7_undo
  have n2 : 0 ≤ (C 0 0).toInt ∧ (C 0 0).toInt ≤ 20 := hC 0 0
  refine D_ite (fun c1 => ?_) (fun c1 => ?_)
  · have kc1 := tq_eq (x := (C 0 0)) (y := (0 : Int32)) rfl (b := 0) (by decide) c1
    have lm1 : ((-1) : Int32).toInt = (-1) := by decide
    exact D_some (show (iR BT Tn) ∧ (iR BC C) from ⟨hTn, hC⟩)
  · have kc10 := tq_eqn (x := (C 0 0)) (y := (0 : Int32)) rfl (b := 0) (by decide) c1
    have kc1 : 1 ≤ (C 0 0).toInt := (by omega)
    clear kc10
    refine D_bd2 (t_X0_bringBack_x_na0 pa qa Tn C hTn hC) (fun Tn_3 C_4 eq6 hq5 => ?_)
    refine D_lte (y := Tn_3) rfl ?_
    refine D_lte (y := C_4) rfl ?_
    obtain ⟨p7, p8⟩ : (iR BT Tn_3) ∧ (iR BC C_4) := hq5
    have n9 : 0 ≤ (C_4 0 0).toInt ∧ (C_4 0 0).toInt ≤ 20 := p8 0 0
    exact D_some (show (iR BT Tn_3) ∧ (iR BC C_4) from ⟨p7, p8⟩)
set_option maxHeartbeats 1000000 in
set_option maxRecDepth 100000 in
theorem t_X7_waits (pa : Nat → Nat) (qa : Nat → Nat) (P : Tr) (q4 : Nat) (x1 : Int32) (hP : iR BP P) (hq4 : q4 = pa 0) : D (f_X7_waits pa qa P q4 x1) (fun (q : Int32) => True) := by
  unfold f_X7_waits
  have n2 := i_rng x1
  refine D_ite (fun c1 => ?_) (fun c1 => ?_)
  · have kc1 := tq_lt (x := x1) (y := (0 : Int32)) rfl (b := 0) (by decide) c1
    have lm1 : ((-1) : Int32).toInt = (-1) := by decide
    exact D_some trivial
  · have kc1 := tq_ltn (x := x1) (y := (0 : Int32)) rfl (b := 0) (by decide) c1
    refine D_ite (fun c3 => ?_) (fun c3 => ?_)
    · have kc3 := tq_le (x := x1) (y := (20 : Int32)) rfl (b := 20) (by decide) c3
      refine D_ck (decide_eq_true hq4) ?_
      refine D_ck (okI_of (by omega) (by omega)) ?_
      have n4 := i_rng (P 18 x1.toNatClampNeg)
      exact D_some trivial
    · have kc3 := tq_len (x := x1) (y := (20 : Int32)) rfl (b := 20) (by decide) c3
      have lm1 : ((-1) : Int32).toInt = (-1) := by decide
      exact D_some trivial
set_option maxHeartbeats 1000000 in
set_option maxRecDepth 100000 in
theorem tl_X7_when_L55 (pa : Nat → Nat) (qa : Nat → Nat) (P : Tr) (Tn : Tr) (q0 : Nat) (q3 : Nat) (q4 : Nat) (x1 : Int32) (x2 : Int32) (hP : iR BP P) (hTn : iR BT Tn) (hq0 : q0 = pa 0) (hq3 : q3 = pa 0) (hq4 : q4 = pa 0) (hx1 : 0 ≤ x1.toInt ∧ x1.toInt ≤ 4) (hx2 : 0 ≤ x2.toInt ∧ x2.toInt ≤ 1)   (N : Nat) : ∀ (x4 : Int32) (x5 : Int32) (x6 : Int32) (L : Lo) (Tu : Tr) (Tv : Tr) (q2 : Nat), q2 = pa 0 → iR BT Tu → iR BT Tv → 0 ≤ x6.toInt ∧ x6.toInt ≤ 1000 → 1000 - x6.toInt < (N : Int) → D (lpF (fun _ _ _ _ _ _ _ => none) (fB_X7_when_L55 pa qa P Tn q0 q3 q4 x1 x2) N x4 x5 x6 L Tu Tv q2) (fun (q : Int32 × Lo × Tr × Tr × Nat × Nat) => (iR BT (q.2.2.1)) ∧ (iR BT (q.2.2.2.1))) := by
  induction N with
  | zero =>
    intro x4 x5 x6 L Tu Tv q2 hq2 hTu hTv hx6 hN
    exfalso
    omega
  | succ N55 ih =>
    intro x4 x5 x6 L Tu Tv q2 hq2 hTu hTv hx6 hN
    have hk55 : ∀ (x4 : Int32) (x5 : Int32) (x6 : Int32) (L : Lo) (Tu : Tr) (Tv : Tr) (q2 : Nat), q2 = pa 0 → iR BT Tu → iR BT Tv → 0 ≤ x6.toInt ∧ x6.toInt ≤ 1000 → 1000 - x6.toInt < (N55 : Int) → D (lpF (fun _ _ _ _ _ _ _ => none) (fB_X7_when_L55 pa qa P Tn q0 q3 q4 x1 x2) N55 x4 x5 x6 L Tu Tv q2) (fun (q : Int32 × Lo × Tr × Tr × Nat × Nat) => (iR BT (q.2.2.1)) ∧ (iR BT (q.2.2.2.1))) := ih
    show D (fB_X7_when_L55 pa qa P Tn q0 q3 q4 x1 x2 (lpF (fun _ _ _ _ _ _ _ => none) (fB_X7_when_L55 pa qa P Tn q0 q3 q4 x1 x2) N55) x4 x5 x6 L Tu Tv q2) _
    generalize lpF (fun _ _ _ _ _ _ _ => none) (fB_X7_when_L55 pa qa P Tn q0 q3 q4 x1 x2) N55 = k55 at hk55 ⊢
    have hN55 : 1000 - x6.toInt < (N55 : Int) + 1 := by omega
    clear ih
    unfold fB_X7_when_L55
    refine D_ite (fun c34 => ?_) (fun c34 => ?_)
    · have kc34 := tq_le (x := (20 : Int32)) (y := x6) (a := 20) (by decide) rfl c34
      have n35 := i_rng x5
      exact D_some (show (iR BT Tu) ∧ (iR BT Tv) from ⟨hTu, hTv⟩)
    · have kc34 := tq_len (x := (20 : Int32)) (y := x6) (a := 20) (by decide) rfl c34
      refine D_bd2 (t_X6_copy Tu Tv q2 q3 hTu hTv) (fun Tu_36 q2_37 eq39 hq38 => ?_)
      refine D_lte (y := Tu_36) rfl ?_
      refine D_lte (y := q2_37) rfl ?_
      obtain ⟨p40, p41, p42⟩ : (iR BT Tu_36) ∧ (q2_37 = q3) ∧ (Tu_36 0 0 = Tv 0 0) := hq38
      refine D_ck (decide_eq_true (p41.trans hq3)) ?_
      refine D_bd2 (t_X6_turnOver Tu_36 P x1 p40 hP ⟨(by clear hx2 hx6 hN55 hN kc34; omega), (by clear hx2 hx6 hN55 hN kc34; omega)⟩) (fun r43 Tu_44 eq46 hq45 => ?_)
      refine D_lte (y := r43) rfl ?_
      refine D_lte (y := Tu_44) rfl ?_
      obtain ⟨p47, p48⟩ : (iR BT Tu_44) ∧ (Tu_44 0 0 = (Tu_36 0 0)) := hq45
      have n49 := i_rng r43
      refine D_bd3 (t_X7_liftsOfTrial pa qa P L Tn Tu_44 (pa 0) hP hTn p47 rfl) (fun r50 L_51 Tu_52 eq54 hq53 => ?_)
      refine D_lte (y := r50) rfl ?_
      refine D_lte (y := L_51) rfl ?_
      refine D_lte (y := Tu_52) rfl ?_
      have p55 : iR BT Tu_52 := hq53
      have n56 := i_rng r50
      refine D_ck (okI_of (by clear hx2 hx6 hN55 hN kc34 n49 n56; omega) (by clear hx2 hx6 hN55 hN kc34 n49 n56; omega)) ?_
      have n58 := i_rng (r50 + (Tv 17 x1.toNatClampNeg))
      have n59 := i_rng x4
      refine D_ite (fun c57 => ?_) (fun c57 => ?_)
      · have kc57 := tq_le (x := x4) (y := (r50 + (Tv 17 x1.toNatClampNeg))) rfl rfl c57
        unfold fJ_X7_when_J132
        refine D_ck (decide_eq_true hq3) ?_
        refine D_bd2 (t_X6_passStop Tv P L_51 hTv hP) (fun Tv_60 L_61 eq63 hq62 => ?_)
        refine D_lte (y := Tv_60) rfl ?_
        refine D_lte (y := L_61) rfl ?_
        have p64 : iR BT Tv_60 := hq62
        have n66 : (x6 + 1).toInt = x6.toInt + 1 := i_addK rfl (by decide) (by clear hx1 hx2 hN55 hN n49 n56 n58 n59 kc57; omega) (by clear hx1 hx2 hN55 hN n49 n56 n58 n59 kc57; omega)
        refine D_lt (fun y65 ey65 => ?_)
        have hy65 : y65.toInt = (x6 + 1 : Int32).toInt := by rw [ey65]
        have n67 := i_rng x5
        exact hk55 x4 x5 y65 L_61 Tu_52 Tv_60 (pa 0) rfl p55 p64 ⟨(by clear hx1 hx2 hN55 hN n49 n56 n58 n59 kc57 n67; omega), (by clear hx1 hx2 hN55 hN n49 n56 n58 n59 kc57 n67; omega)⟩ (by clear hx1 hx2 n49 n56 n58 n59 kc57 n67; omega)
      · have kc57 := tq_len (x := x4) (y := (r50 + (Tv 17 x1.toNatClampNeg))) rfl rfl c57
        refine D_lt (fun y68 ey68 => ?_)
        have hy68 : y68.toInt = (r50 + (Tv 17 x1.toNatClampNeg)).toInt := by rw [ey68]
        refine D_ite (fun c69 => ?_) (fun c69 => ?_)
        · have kc69 := tq_eq (x := x2) (y := (0 : Int32)) rfl (b := 0) (by decide) c69
          unfold fJ_X7_when_J130
          unfold fJ_X7_when_J132
          refine D_ck (decide_eq_true hq3) ?_
          refine D_bd2 (t_X6_passStop Tv P L_51 hTv hP) (fun Tv_70 L_71 eq73 hq72 => ?_)
          refine D_lte (y := Tv_70) rfl ?_
          refine D_lte (y := L_71) rfl ?_
          have p74 : iR BT Tv_70 := hq72
          have n76 : (x6 + 1).toInt = x6.toInt + 1 := i_addK rfl (by decide) (by clear hx1 hx2 hN55 hN n49 n56 n58 n59 kc57 hy68 kc69; omega) (by clear hx1 hx2 hN55 hN n49 n56 n58 n59 kc57 hy68 kc69; omega)
          refine D_lt (fun y75 ey75 => ?_)
          have hy75 : y75.toInt = (x6 + 1 : Int32).toInt := by rw [ey75]
          exact hk55 y68 x6 y75 L_71 Tu_52 Tv_70 (pa 0) rfl p55 p74 ⟨(by clear hx1 hx2 hN55 hN n49 n56 n58 n59 kc57 hy68 kc69; omega), (by clear hx1 hx2 hN55 hN n49 n56 n58 n59 kc57 hy68 kc69; omega)⟩ (by clear hx1 hx2 n49 n56 n58 n59 kc57 hy68 kc69; omega)
        · have kc690 := tq_eqn (x := x2) (y := (0 : Int32)) rfl (b := 0) (by decide) c69
          have kc69 : 1 ≤ x2.toInt := (by clear hx1 hx6 hN55 hN kc34 n49 n56 n58 n59 kc57 hy68; omega)
          clear kc690
          unfold fJ_X7_when_J130
          unfold fJ_X7_when_J132
          refine D_ck (decide_eq_true hq3) ?_
          refine D_bd2 (t_X6_passStop Tv P L_51 hTv hP) (fun Tv_77 L_78 eq80 hq79 => ?_)
          refine D_lte (y := Tv_77) rfl ?_
          refine D_lte (y := L_78) rfl ?_
          have p81 : iR BT Tv_77 := hq79
          have n83 : (x6 + 1).toInt = x6.toInt + 1 := i_addK rfl (by decide) (by clear hx1 hx2 hN55 hN n49 n56 n58 n59 kc57 hy68 kc69; omega) (by clear hx1 hx2 hN55 hN n49 n56 n58 n59 kc57 hy68 kc69; omega)
          refine D_lt (fun y82 ey82 => ?_)
          have hy82 : y82.toInt = (x6 + 1 : Int32).toInt := by rw [ey82]
          exact hk55 y68 r50 y82 L_78 Tu_52 Tv_77 (pa 0) rfl p55 p81 ⟨(by clear hx1 hx2 hN55 hN n49 n56 n58 n59 kc57 hy68 kc69; omega), (by clear hx1 hx2 hN55 hN n49 n56 n58 n59 kc57 hy68 kc69; omega)⟩ (by clear hx1 hx2 n49 n56 n58 n59 kc57 hy68 kc69; omega)
set_option maxHeartbeats 1000000 in
set_option maxRecDepth 100000 in
theorem t_X7_when (pa : Nat → Nat) (qa : Nat → Nat) (P : Tr) (L : Lo) (Tn : Tr) (Tu : Tr) (Tv : Tr) (q0 : Nat) (q2 : Nat) (q3 : Nat) (q4 : Nat) (x1 : Int32) (x2 : Int32) (hP : iR BP P) (hTn : iR BT Tn) (hTu : iR BT Tu) (hTv : iR BT Tv) (hq0 : q0 = pa 0) (hq4 : q4 = pa 0) : D (f_X7_when pa qa P L Tn Tu Tv q0 q2 q3 q4 x1 x2) (fun (q : Int32 × Lo × Tr × Tr × Nat × Nat) => (iR BT (q.2.2.1)) ∧ (iR BT (q.2.2.2.1))) := by
  unfold f_X7_when
  have n1 := i_rng x1
  refine D_bd (t_X7_isPlace pa qa P q4 x1 hP hq4) (fun r2 eq4 hq3 => ?_)
  obtain ⟨p5, p6⟩ : (0 ≤ r2.toInt ∧ r2.toInt ≤ 1) ∧ (r2.toInt = 1 → 0 ≤ x1.toInt ∧ x1.toInt ≤ 4) := hq3
  refine D_ite (fun c7 => ?_) (fun c7 => ?_)
  · have kc7 := tq_eq (x := r2) (y := (0 : Int32)) rfl (b := 0) (by decide) c7
    have lm1 : ((-1) : Int32).toInt = (-1) := by decide
    exact D_some (show (iR BT Tu) ∧ (iR BT Tv) from ⟨hTu, hTv⟩)
  · have kc70 := tq_eqn (x := r2) (y := (0 : Int32)) rfl (b := 0) (by decide) c7
    have kc7 : 1 ≤ r2.toInt := (by omega)
    clear kc70
    have n9 := i_rng x2
    refine D_ite (fun c8 => ?_) (fun c8 => ?_)
    · have kc8 := tq_lt (x := x2) (y := (0 : Int32)) rfl (b := 0) (by decide) c8
      have lm1 : ((-1) : Int32).toInt = (-1) := by decide
      exact D_some (show (iR BT Tu) ∧ (iR BT Tv) from ⟨hTu, hTv⟩)
    · have kc8 := tq_ltn (x := x2) (y := (0 : Int32)) rfl (b := 0) (by decide) c8
      refine D_ite (fun c10 => ?_) (fun c10 => ?_)
      · have kc10 := tq_le (x := x2) (y := (1 : Int32)) rfl (b := 1) (by decide) c10
        refine D_bd2 (t_X7_startTrial pa qa Tn Tu q0 q2 hTn hTu) (fun Tu_11 q2_12 eq14 hq13 => ?_)
        refine D_lte (y := Tu_11) rfl ?_
        refine D_lte (y := q2_12) rfl ?_
        obtain ⟨p15, p16, p17⟩ : (iR BT Tu_11) ∧ (q2_12 = q0) ∧ (Tu_11 0 0 = Tn 0 0) := hq13
        refine D_bd2 (t_X6_copy Tv Tu_11 q3 q2_12 hTv p15) (fun Tv_18 q3_19 eq21 hq20 => ?_)
        refine D_lte (y := Tv_18) rfl ?_
        refine D_lte (y := q3_19) rfl ?_
        obtain ⟨p22, p23, p24⟩ : (iR BT Tv_18) ∧ (q3_19 = q2_12) ∧ (Tv_18 0 0 = Tu_11 0 0) := hq20
        refine D_bd3 (t_X7_liftsOfTrial pa qa P L Tn Tu_11 q2_12 hP hTn p15 (p16.trans hq0)) (fun r25 L_26 Tu_27 eq29 hq28 => ?_)
        refine D_lte (y := r25) rfl ?_
        refine D_lte (y := L_26) rfl ?_
        refine D_lte (y := Tu_27) rfl ?_
        have p30 : iR BT Tu_27 := hq28
        have n31 := i_rng r25
        refine D_lt (fun y32 ey32 => ?_)
        have n33 : 0 ≤ (Tn 0 0).toInt ∧ (Tn 0 0).toInt ≤ 21 := hTn 0 0
        have hy32 : y32.toInt = (Tn 0 0).toInt := by rw [ey32]
        have lm2 : ((-2) : Int32).toInt = (-2) := by decide
        exact tl_X7_when_L55 pa qa P Tn q0 q3_19 q4 x1 x2 hP hTn hq0 (p23.trans (p16.trans hq0)) hq4 ⟨(by clear n9 kc8 kc10 n31 n33 hy32; omega), (by clear n9 kc8 kc10 n31 n33 hy32; omega)⟩ ⟨(by clear n1 p5 p6 kc7 n31 n33 hy32; omega), (by clear n1 p5 p6 kc7 n31 n33 hy32; omega)⟩   2000 r25 ((-2) : Int32) y32 L_26 Tu_27 Tv_18 q2_12 (p16.trans hq0) p30 p22 ⟨(by clear n1 p5 p6 kc7 n9 kc8 kc10 n31; omega), (by clear n1 p5 p6 kc7 n9 kc8 kc10 n31; omega)⟩ (by clear n1 p5 p6 kc7 n9 kc8 kc10 n31; omega)
      · have kc10 := tq_len (x := x2) (y := (1 : Int32)) rfl (b := 1) (by decide) c10
        have lm1 : ((-1) : Int32).toInt = (-1) := by decide
        exact D_some (show (iR BT Tu) ∧ (iR BT Tv) from ⟨hTu, hTv⟩)
