set_option maxHeartbeats 1000000 in
set_option maxRecDepth 100000 in
theorem tl_X6_turnOver_L78 (zT_0_0 : Int32) (P : Tr) (x1 : Int32) (x2 : Int32) (x3 : Int32) (x4 : Int32) (x5 : Int32) (N52 : Nat) (hP : iR BP P) (hx1 : 0 ≤ x1.toInt ∧ x1.toInt ≤ 4) (hx2 : 0 ≤ x2.toInt ∧ x2.toInt ≤ 40) (hx4 : 0 ≤ x4.toInt ∧ x4.toInt ≤ 9) (hx5 : 0 ≤ x5.toInt ∧ x5.toInt ≤ 9) (hN52 : 1000 - x4.toInt < (N52 : Int) + 1) (k52 : Int32 → Tr → Option (Int32 × Tr)) (hk52 : ∀ (x4 : Int32) (T : Tr), T 0 0 = zT_0_0 → iR BT T → 0 ≤ x4.toInt ∧ x4.toInt ≤ 1000 → 1000 - x4.toInt < (N52 : Int) → D (k52 x4 T) (fun (q : Int32 × Tr) => (iR BT (q.2)) ∧ ((q.2) 0 0 = zT_0_0))) (N : Nat) : ∀ (x6 : Int32) (T : Tr), T 0 0 = zT_0_0 → iR BT T → 0 ≤ x6.toInt ∧ x6.toInt ≤ 9 → x6.toInt ≤ x4.toInt → x6.toInt + 1 < (N : Int) → D (lpF (fun _ _ => none) (fB_X6_turnOver_L78 k52 P x1 x2 x3 x4 x5) N x6 T) (fun (q : Int32 × Tr) => (iR BT (q.2)) ∧ ((q.2) 0 0 = zT_0_0)) := by
  induction N with
  | zero =>
    intro x6 T dT_0_0 hT hx6 hle hN
    exfalso
    omega
  | succ N78 ih =>
    intro x6 T dT_0_0 hT hx6 hle hN
    have hk78 : ∀ (x6 : Int32) (T : Tr), T 0 0 = zT_0_0 → iR BT T → 0 ≤ x6.toInt ∧ x6.toInt ≤ 9 → x6.toInt ≤ x4.toInt → x6.toInt + 1 < (N78 : Int) → D (lpF (fun _ _ => none) (fB_X6_turnOver_L78 k52 P x1 x2 x3 x4 x5) N78 x6 T) (fun (q : Int32 × Tr) => (iR BT (q.2)) ∧ ((q.2) 0 0 = zT_0_0)) := ih
    show D (fB_X6_turnOver_L78 k52 P x1 x2 x3 x4 x5 (lpF (fun _ _ => none) (fB_X6_turnOver_L78 k52 P x1 x2 x3 x4 x5) N78) x6 T) _
    generalize lpF (fun _ _ => none) (fB_X6_turnOver_L78 k52 P x1 x2 x3 x4 x5) N78 = k78 at hk78 ⊢
    have hN78 : x6.toInt + 1 < (N78 : Int) + 1 := by omega
    clear ih
    unfold fB_X6_turnOver_L78
    refine D_ite (fun c11 => ?_) (fun c11 => ?_)
    · have kc11 := tq_le (x := x6) (y := (0 : Int32)) rfl (b := 0) (by decide) c11
      unfold fJ_X6_turnOver_J129
      have n12 : (x2 + x6).toInt = x2.toInt + x6.toInt := i_addK rfl rfl (by clear hx1 hx5 hN52 hN78 hN; omega) (by clear hx1 hx5 hN52 hN78 hN; omega)
      refine D_ck (okI_of (by clear hx1 hx5 hN52 hN78 hN; omega) (by clear hx1 hx5 hN52 hN78 hN; omega)) ?_
      refine D_lt (fun T_13 eT_13 => ?_)
      have hT_13 : iR BT T_13 := by rw [eT_13]; exact iR_set hT (show (0 : Int) ≤ _ from (by clear hx1 hx2 hx4 hx6 hle hN52 hN78 hN kc11 n12; omega)) (show _ ≤ (9 : Int) from (by clear hx1 hx2 hx4 hx6 hle hN52 hN78 hN kc11 n12; omega))
      have kT_0_0_t14 : T_13 0 0 = zT_0_0 := by rw [eT_13]; exact dT_0_0
      have n16 : (x4 + 1).toInt = x4.toInt + 1 := i_addK rfl (by decide) (by clear hx1 hx5 hN52 hN78 hN; omega) (by clear hx1 hx5 hN52 hN78 hN; omega)
      refine D_lt (fun y15 ey15 => ?_)
      have hy15 : y15.toInt = (x4 + 1 : Int32).toInt := by rw [ey15]
      exact hk52 y15 T_13 kT_0_0_t14 hT_13 ⟨(by clear hx1 hx5 hN52 hN78 hN; omega), (by clear hx1 hx5 hN52 hN78 hN; omega)⟩ (by clear hx1 hx5 hN78 hN; omega)
    · have kc11 := tq_len (x := x6) (y := (0 : Int32)) rfl (b := 0) (by decide) c11
      have n17 : (x2 + x6).toInt = x2.toInt + x6.toInt := i_addK rfl rfl (by clear hx1 hx5 hN52 hN78 hN; omega) (by clear hx1 hx5 hN52 hN78 hN; omega)
      have n18 : ((x2 + x6) - 1).toInt = (x2 + x6).toInt - 1 := i_subK rfl (by decide) (by clear hx1 hx5 hN52 hN78 hN; omega) (by clear hx1 hx5 hN52 hN78 hN; omega)
      refine D_ck (okI_of (by clear hx1 hx5 hN52 hN78 hN; omega) (by clear hx1 hx5 hN52 hN78 hN; omega)) ?_
      have n19 : 0 ≤ (T 16 ((x2 + x6) - 1).toNatClampNeg).toInt ∧ (T 16 ((x2 + x6) - 1).toNatClampNeg).toInt ≤ 9 := hT 16 (((x2 + x6) - 1).toNatClampNeg)
      refine D_bd (t_X6_goesAbove P (T 16 ((x2 + x6) - 1).toNatClampNeg) x5 hP ⟨(by clear hx1 hx2 hx4 hx5 hx6 hle hN52 hN78 hN kc11 n17 n18; omega), (by clear hx1 hx2 hx4 hx5 hx6 hle hN52 hN78 hN kc11 n17 n18; omega)⟩ ⟨(by clear hx1 hx2 hx4 hx6 hle hN52 hN78 hN kc11 n17 n18 n19; omega), (by clear hx1 hx2 hx4 hx6 hle hN52 hN78 hN kc11 n17 n18 n19; omega)⟩) (fun r20 eq22 hq21 => ?_)
      have p23 : 0 ≤ r20.toInt ∧ r20.toInt ≤ 1 := hq21
      refine D_ite (fun c24 => ?_) (fun c24 => ?_)
      · have kc24 := tq_eq (x := r20) (y := (0 : Int32)) rfl (b := 0) (by decide) c24
        unfold fJ_X6_turnOver_J129
        refine D_ck (okI_of (by clear hx1 hx5 hN52 hN78 hN n19 p23 kc24; omega) (by clear hx1 hx5 hN52 hN78 hN n19 p23 kc24; omega)) ?_
        refine D_lt (fun T_25 eT_25 => ?_)
        have hT_25 : iR BT T_25 := by rw [eT_25]; exact iR_set hT (show (0 : Int) ≤ _ from (by clear hx1 hx2 hx4 hx6 hle hN52 hN78 hN kc11 n17 n18 n19 p23 kc24; omega)) (show _ ≤ (9 : Int) from (by clear hx1 hx2 hx4 hx6 hle hN52 hN78 hN kc11 n17 n18 n19 p23 kc24; omega))
        have kT_0_0_t26 : T_25 0 0 = zT_0_0 := by rw [eT_25]; exact dT_0_0
        have n28 : (x4 + 1).toInt = x4.toInt + 1 := i_addK rfl (by decide) (by clear hx1 hx5 hN52 hN78 hN n19 p23 kc24; omega) (by clear hx1 hx5 hN52 hN78 hN n19 p23 kc24; omega)
        refine D_lt (fun y27 ey27 => ?_)
        have hy27 : y27.toInt = (x4 + 1 : Int32).toInt := by rw [ey27]
        exact hk52 y27 T_25 kT_0_0_t26 hT_25 ⟨(by clear hx1 hx5 hN52 hN78 hN n19 p23 kc24; omega), (by clear hx1 hx5 hN52 hN78 hN n19 p23 kc24; omega)⟩ (by clear hx1 hx5 hN78 hN n19 p23 kc24; omega)
      · have kc240 := tq_eqn (x := r20) (y := (0 : Int32)) rfl (b := 0) (by decide) c24
        have kc24 : 1 ≤ r20.toInt := (by clear hx1 hx2 hx4 hx5 hx6 hle hN52 hN78 hN kc11 n17 n18 n19; omega)
        clear kc240
        refine D_ck (okI_of (by clear hx1 hx5 hN52 hN78 hN n19 p23 kc24; omega) (by clear hx1 hx5 hN52 hN78 hN n19 p23 kc24; omega)) ?_
        refine D_lt (fun T_29 eT_29 => ?_)
        have hT_29 : iR BT T_29 := by rw [eT_29]; exact iR_set hT (show (0 : Int) ≤ _ from (by clear hx1 hx2 hx4 hx5 hx6 hle hN52 hN78 hN kc11 n17 n18 p23 kc24; omega)) (show _ ≤ (9 : Int) from (by clear hx1 hx2 hx4 hx5 hx6 hle hN52 hN78 hN kc11 n17 n18 p23 kc24; omega))
        have kT_0_0_t30 : T_29 0 0 = zT_0_0 := by rw [eT_29]; exact dT_0_0
        have n32 : (x6 + (-1)).toInt = x6.toInt + (-1) := i_addK rfl (by decide) (by clear hx1 hx5 hN52 hN78 hN n19 p23 kc24; omega) (by clear hx1 hx5 hN52 hN78 hN n19 p23 kc24; omega)
        refine D_lt (fun y31 ey31 => ?_)
        have hy31 : y31.toInt = (x6 + (-1) : Int32).toInt := by rw [ey31]
        exact hk78 y31 T_29 kT_0_0_t30 hT_29 ⟨(by clear hx1 hx5 hN52 hN78 hN n19 p23 kc24; omega), (by clear hx1 hx5 hN52 hN78 hN n19 p23 kc24; omega)⟩ (by clear hx1 hx5 hN52 hN78 hN n19 p23 kc24; omega) (by clear hx1 hx5 hN52 n19 p23 kc24; omega)
set_option maxHeartbeats 1000000 in
set_option maxRecDepth 100000 in
theorem tl_X6_turnOver_L52 (zT_0_0 : Int32) (P : Tr) (x1 : Int32) (x2 : Int32) (x3 : Int32) (hP : iR BP P) (hx1 : 0 ≤ x1.toInt ∧ x1.toInt ≤ 4) (hx2 : 0 ≤ x2.toInt ∧ x2.toInt ≤ 40)   (N : Nat) : ∀ (x4 : Int32) (T : Tr), T 0 0 = zT_0_0 → iR BT T → 0 ≤ x4.toInt ∧ x4.toInt ≤ 1000 → 1000 - x4.toInt < (N : Int) → D (lpF (fun _ _ => none) (fB_X6_turnOver_L52 P x1 x2 x3) N x4 T) (fun (q : Int32 × Tr) => (iR BT (q.2)) ∧ ((q.2) 0 0 = zT_0_0)) := by
  induction N with
  | zero =>
    intro x4 T dT_0_0 hT hx4 hN
    exfalso
    omega
  | succ N52 ih =>
    intro x4 T dT_0_0 hT hx4 hN
    have hk52 : ∀ (x4 : Int32) (T : Tr), T 0 0 = zT_0_0 → iR BT T → 0 ≤ x4.toInt ∧ x4.toInt ≤ 1000 → 1000 - x4.toInt < (N52 : Int) → D (lpF (fun _ _ => none) (fB_X6_turnOver_L52 P x1 x2 x3) N52 x4 T) (fun (q : Int32 × Tr) => (iR BT (q.2)) ∧ ((q.2) 0 0 = zT_0_0)) := ih
    show D (fB_X6_turnOver_L52 P x1 x2 x3 (lpF (fun _ _ => none) (fB_X6_turnOver_L52 P x1 x2 x3) N52) x4 T) _
    generalize lpF (fun _ _ => none) (fB_X6_turnOver_L52 P x1 x2 x3) N52 = k52 at hk52 ⊢
    have hN52 : 1000 - x4.toInt < (N52 : Int) + 1 := by omega
    clear ih
    unfold fB_X6_turnOver_L52
    refine D_ck (okI_of (by clear hx2 hx4 hN52 hN; omega) (by clear hx2 hx4 hN52 hN; omega)) ?_
    have n6 : 0 ≤ (T 17 x1.toNatClampNeg).toInt ∧ (T 17 x1.toNatClampNeg).toInt ≤ 10 := hT 17 x1.toNatClampNeg
    refine D_ite (fun c5 => ?_) (fun c5 => ?_)
    · have kc5 := tq_le (x := (T 17 x1.toNatClampNeg)) (y := x4) rfl rfl c5
      have n7 := i_rng x3
      exact D_some (show (iR BT T) ∧ (T 0 0 = zT_0_0) from ⟨hT, dT_0_0⟩)
    · have kc5 := tq_len (x := (T 17 x1.toNatClampNeg)) (y := x4) rfl rfl c5
      have n8 : (x2 + x4).toInt = x2.toInt + x4.toInt := i_addK rfl rfl (by clear hx1 hN52 hN; omega) (by clear hx1 hN52 hN; omega)
      refine D_ck (okI_of (by clear hx1 hN52 hN; omega) (by clear hx1 hN52 hN; omega)) ?_
      refine D_lt (fun y9 ey9 => ?_)
      have n10 : 0 ≤ (T 16 (x2 + x4).toNatClampNeg).toInt ∧ (T 16 (x2 + x4).toNatClampNeg).toInt ≤ 9 := hT 16 ((x2 + x4).toNatClampNeg)
      have hy9 : y9.toInt = (T 16 (x2 + x4).toNatClampNeg).toInt := by rw [ey9]
      have n33 := i_rng x3
      exact tl_X6_turnOver_L78 zT_0_0 P x1 x2 x3 x4 y9 N52 hP ⟨(by clear hx2 hx4 hN52 hN n6 kc5 n8 n10 hy9 n33; omega), (by clear hx2 hx4 hN52 hN n6 kc5 n8 n10 hy9 n33; omega)⟩ ⟨(by clear hx1 hN52 hN n10 hy9 n33; omega), (by clear hx1 hN52 hN n10 hy9 n33; omega)⟩ ⟨(by clear hx1 hN52 hN n10 hy9 n33; omega), (by clear hx1 hN52 hN n10 hy9 n33; omega)⟩ ⟨(by clear hx1 hx2 hx4 hN52 hN n6 kc5 n8 n33; omega), (by clear hx1 hx2 hx4 hN52 hN n6 kc5 n8 n33; omega)⟩ hN52 k52 hk52 2000 x4 T dT_0_0 hT ⟨(by clear hx1 hN52 hN n10 hy9 n33; omega), (by clear hx1 hN52 hN n10 hy9 n33; omega)⟩ (by clear hx1 hN52 hN n10 hy9 n33; omega) (by clear hx1 hN52 hN n10 hy9 n33; omega)
set_option maxHeartbeats 1000000 in
set_option maxRecDepth 100000 in
theorem tl_X6_turnOver_L10 (zT_0_0 : Int32) (T : Tr) (P : Tr) (x1 : Int32) (x2 : Int32) (hT : iR BT T) (hP : iR BP P) (dT_0_0 : T 0 0 = zT_0_0) (hx1 : 0 ≤ x1.toInt ∧ x1.toInt ≤ 4) (hx2 : 0 ≤ x2.toInt ∧ x2.toInt ≤ 40)   (N : Nat) : ∀ (x3 : Int32) (x4 : Int32), 0 ≤ x4.toInt ∧ x4.toInt ≤ 1000 → 1000 - x4.toInt < (N : Int) → D (lpF (fun _ _ => none) (fB_X6_turnOver_L10 T P x1 x2) N x3 x4) (fun (q : Int32 × Tr) => (iR BT (q.2)) ∧ ((q.2) 0 0 = zT_0_0)) := by
  induction N with
  | zero =>
    intro x3 x4 hx4 hN
    exfalso
    omega
  | succ N10 ih =>
    intro x3 x4 hx4 hN
    have hk10 : ∀ (x3 : Int32) (x4 : Int32), 0 ≤ x4.toInt ∧ x4.toInt ≤ 1000 → 1000 - x4.toInt < (N10 : Int) → D (lpF (fun _ _ => none) (fB_X6_turnOver_L10 T P x1 x2) N10 x3 x4) (fun (q : Int32 × Tr) => (iR BT (q.2)) ∧ ((q.2) 0 0 = zT_0_0)) := ih
    show D (fB_X6_turnOver_L10 T P x1 x2 (lpF (fun _ _ => none) (fB_X6_turnOver_L10 T P x1 x2) N10) x3 x4) _
    generalize lpF (fun _ _ => none) (fB_X6_turnOver_L10 T P x1 x2) N10 = k10 at hk10 ⊢
    have hN10 : 1000 - x4.toInt < (N10 : Int) + 1 := by omega
    clear ih
    unfold fB_X6_turnOver_L10
    refine D_ck (okI_of (by clear hx2 hx4 hN10 hN; omega) (by clear hx2 hx4 hN10 hN; omega)) ?_
    have n4 : 0 ≤ (T 17 x1.toNatClampNeg).toInt ∧ (T 17 x1.toNatClampNeg).toInt ≤ 10 := hT 17 x1.toNatClampNeg
    refine D_ite (fun c3 => ?_) (fun c3 => ?_)
    · have kc3 := tq_le (x := (T 17 x1.toNatClampNeg)) (y := x4) rfl rfl c3
      have l1 : (1 : Int32).toInt = 1 := by decide
      have n34 := i_rng x3
      exact tl_X6_turnOver_L52 zT_0_0 P x1 x2 x3 hP ⟨(by clear hx2 hx4 hN10 hN n4 kc3 n34; omega), (by clear hx2 hx4 hN10 hN n4 kc3 n34; omega)⟩ ⟨(by clear hx1 hx4 hN10 hN n4 kc3 n34; omega), (by clear hx1 hx4 hN10 hN n4 kc3 n34; omega)⟩   2000 (1 : Int32) T dT_0_0 hT ⟨(by clear hx1 hx2 hx4 hN10 hN n4 kc3 n34; omega), (by clear hx1 hx2 hx4 hN10 hN n4 kc3 n34; omega)⟩ (by clear hx1 hx2 hx4 hN10 hN n4 kc3 n34; omega)
    · have kc3 := tq_len (x := (T 17 x1.toNatClampNeg)) (y := x4) rfl rfl c3
      have n35 : (x2 + x4).toInt = x2.toInt + x4.toInt := i_addK rfl rfl (by clear hx1 hN10 hN; omega) (by clear hx1 hN10 hN; omega)
      refine D_ck (okI_of (by clear hx1 hN10 hN; omega) (by clear hx1 hN10 hN; omega)) ?_
      have n36 : 0 ≤ (T 16 (x2 + x4).toNatClampNeg).toInt ∧ (T 16 (x2 + x4).toNatClampNeg).toInt ≤ 9 := hT 16 ((x2 + x4).toNatClampNeg)
      refine D_bd (t_X6_turnedLevel T P x1 (T 16 (x2 + x4).toNatClampNeg) hT hP ⟨(by clear hx2 hx4 hN10 hN n4 kc3 n35 n36; omega), (by clear hx2 hx4 hN10 hN n4 kc3 n35 n36; omega)⟩ ⟨(by clear hx1 hx2 hx4 hN10 hN n4 kc3 n35; omega), (by clear hx1 hx2 hx4 hN10 hN n4 kc3 n35; omega)⟩) (fun r37 eq39 hq38 => ?_)
      have n40 := i_rng r37
      refine D_ite (fun c41 => ?_) (fun c41 => ?_)
      · have kc41 := tq_eq (x := r37) (y := x4) rfl rfl c41
        have n43 : (x4 + 1).toInt = x4.toInt + 1 := i_addK rfl (by decide) (by clear hx1 hN10 hN n36; omega) (by clear hx1 hN10 hN n36; omega)
        refine D_lt (fun y42 ey42 => ?_)
        have hy42 : y42.toInt = (x4 + 1 : Int32).toInt := by rw [ey42]
        have n44 := i_rng x3
        exact hk10 x3 y42 ⟨(by clear hx1 hN10 hN n36 n44; omega), (by clear hx1 hN10 hN n36 n44; omega)⟩ (by clear hx1 n36 n44; omega)
      · skip
        have n46 := i_rng (x3 + 1)
        refine D_lt (fun y45 ey45 => ?_)
        have hy45 : y45.toInt = (x3 + 1 : Int32).toInt := by rw [ey45]
        have n48 : (x4 + 1).toInt = x4.toInt + 1 := i_addK rfl (by decide) (by clear hx1 hN10 hN n36 n40 n46 hy45; omega) (by clear hx1 hN10 hN n36 n40 n46 hy45; omega)
        refine D_lt (fun y47 ey47 => ?_)
        have hy47 : y47.toInt = (x4 + 1 : Int32).toInt := by rw [ey47]
        exact hk10 y45 y47 ⟨(by clear hx1 hN10 hN n36 n40 n46 hy45; omega), (by clear hx1 hN10 hN n36 n40 n46 hy45; omega)⟩ (by clear hx1 n36 n40 n46 hy45; omega)
set_option maxHeartbeats 1000000 in
set_option maxRecDepth 100000 in
theorem t_X6_turnOver (T : Tr) (P : Tr) (x1 : Int32) (hT : iR BT T) (hP : iR BP P) (hx1 : 0 ≤ x1.toInt ∧ x1.toInt ≤ 4) : D (f_X6_turnOver T P x1) (fun (q : Int32 × Tr) => (iR BT (q.2)) ∧ ((q.2) 0 0 = (T 0 0))) := by
  unfold f_X6_turnOver
  refine D_lt (fun y1 ey1 => ?_)
  have n2 := i_mulR (a := x1) (b := (10 : Int32)) 10 (by decide) (by omega) (by omega)
  have hy1 : y1.toInt = (x1 * 10).toInt := by rw [ey1]
  have l0 : (0 : Int32).toInt = 0 := by decide
  exact tl_X6_turnOver_L10 (T 0 0) T P x1 y1 hT hP rfl ⟨(by omega), (by omega)⟩ ⟨(by omega), (by omega)⟩   2000 (0 : Int32) (0 : Int32) ⟨(by clear hx1 n2 hy1; omega), (by clear hx1 n2 hy1; omega)⟩ (by clear hx1 n2 hy1; omega)
