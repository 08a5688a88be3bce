set_option maxHeartbeats 1000000 in
set_option maxRecDepth 100000 in
theorem tl_X6_placeByRule_L4 (T : Tr) (P : Tr) (x1 : Int32) (hT : iR BT T) (hP : iR BP P) (hx1 : 0 ≤ x1.toInt ∧ x1.toInt ≤ 9)   (N : Nat) : ∀ (x2 : Int32) (x3 : Int32), (-1) ≤ x2.toInt ∧ x2.toInt ≤ 4 → 0 ≤ x3.toInt ∧ x3.toInt ≤ 1000 → 1000 - x3.toInt < (N : Int) → D (lpF (fun _ _ => none) (fB_X6_placeByRule_L4 T P x1) N x2 x3) (fun (q : Int32) => ((-1) ≤ q.toInt ∧ q.toInt ≤ 4)) := by
  induction N with
  | zero =>
    intro x2 x3 hx2 hx3 hN
    exfalso
    omega
  | succ N4 ih =>
    intro x2 x3 hx2 hx3 hN
    have hk4 : ∀ (x2 : Int32) (x3 : Int32), (-1) ≤ x2.toInt ∧ x2.toInt ≤ 4 → 0 ≤ x3.toInt ∧ x3.toInt ≤ 1000 → 1000 - x3.toInt < (N4 : Int) → D (lpF (fun _ _ => none) (fB_X6_placeByRule_L4 T P x1) N4 x2 x3) (fun (q : Int32) => ((-1) ≤ q.toInt ∧ q.toInt ≤ 4)) := ih
    show D (fB_X6_placeByRule_L4 T P x1 (lpF (fun _ _ => none) (fB_X6_placeByRule_L4 T P x1) N4) x2 x3) _
    generalize lpF (fun _ _ => none) (fB_X6_placeByRule_L4 T P x1) N4 = k4 at hk4 ⊢
    have hN4 : 1000 - x3.toInt < (N4 : Int) + 1 := by omega
    clear ih
    unfold fB_X6_placeByRule_L4
    have n2 : 0 ≤ (P 0 0).toInt ∧ (P 0 0).toInt ≤ 5 := hP 0 0
    refine D_ite (fun c1 => ?_) (fun c1 => ?_)
    · have kc1 := tq_le (x := (P 0 0)) (y := x3) rfl rfl c1
      exact D_some (show ((-1) ≤ x2.toInt ∧ x2.toInt ≤ 4) from ⟨(by clear hx1 hx3 hN4 hN n2 kc1; omega), (by clear hx1 hx3 hN4 hN n2 kc1; omega)⟩)
    · have kc1 := tq_len (x := (P 0 0)) (y := x3) rfl rfl c1
      refine D_bd (t_X6_hasRoom T P x3 x1 hT hP ⟨(by clear hx1 hx2 hN4 hN; omega), (by clear hx1 hx2 hN4 hN; omega)⟩ ⟨(by clear hx2 hx3 hN4 hN n2 kc1; omega), (by clear hx2 hx3 hN4 hN n2 kc1; omega)⟩) (fun r3 eq5 hq4 => ?_)
      have p6 : 0 ≤ r3.toInt ∧ r3.toInt ≤ 1 := hq4
      refine D_ite (fun c7 => ?_) (fun c7 => ?_)
      · have kc7 := tq_eq (x := r3) (y := (0 : Int32)) rfl (b := 0) (by decide) c7
        have n9 : (x3 + 1).toInt = x3.toInt + 1 := i_addK rfl (by decide) (by clear hx1 hx2 hN4 hN p6 kc7; omega) (by clear hx1 hx2 hN4 hN p6 kc7; omega)
        refine D_lt (fun y8 ey8 => ?_)
        have hy8 : y8.toInt = (x3 + 1 : Int32).toInt := by rw [ey8]
        exact hk4 x2 y8 ⟨(by clear hx1 hx3 hN4 hN n2 kc1 p6 kc7 n9 hy8; omega), (by clear hx1 hx3 hN4 hN n2 kc1 p6 kc7 n9 hy8; omega)⟩ ⟨(by clear hx1 hx2 hN4 hN p6 kc7; omega), (by clear hx1 hx2 hN4 hN p6 kc7; omega)⟩ (by clear hx1 hx2 p6 kc7; omega)
      · have kc70 := tq_eqn (x := r3) (y := (0 : Int32)) rfl (b := 0) (by decide) c7
        have kc7 : 1 ≤ r3.toInt := (by clear hx1 hx2 hx3 hN4 hN n2 kc1; omega)
        clear kc70
        have n11 := i_rng (T 0 3)
        refine D_ite (fun c10 => ?_) (fun c10 => ?_)
        · have kc10 := tq_eq (x := (T 0 3)) (y := (0 : Int32)) rfl (b := 0) (by decide) c10
          refine D_ite (fun c12 => ?_) (fun c12 => ?_)
          · have kc12 := tq_le (x := (0 : Int32)) (y := x2) (a := 0) (by decide) rfl c12
            unfold fJ_X6_placeByRule_J75
            have l0 : (0 : Int32).toInt = 0 := by decide
            refine D_ite (fun c13 => ?_) (fun c13 => ?_)
            · have kc13 := tq_eq (x := (0 : Int32)) (y := (0 : Int32)) rfl rfl c13
              have n15 : (x3 + 1).toInt = x3.toInt + 1 := i_addK rfl (by decide) (by clear hx1 hx2 hN4 hN p6 kc7 n11 kc10 kc12; omega) (by clear hx1 hx2 hN4 hN p6 kc7 n11 kc10 kc12; omega)
              refine D_lt (fun y14 ey14 => ?_)
              have hy14 : y14.toInt = (x3 + 1 : Int32).toInt := by rw [ey14]
              exact hk4 x2 y14 ⟨(by clear hx1 hx3 hN4 hN n2 kc1 p6 kc7 n11 kc10 n15 hy14; omega), (by clear hx1 hx3 hN4 hN n2 kc1 p6 kc7 n11 kc10 n15 hy14; omega)⟩ ⟨(by clear hx1 hx2 hN4 hN p6 kc7 n11 kc10 kc12; omega), (by clear hx1 hx2 hN4 hN p6 kc7 n11 kc10 kc12; omega)⟩ (by clear hx1 hx2 p6 kc7 n11 kc10 kc12; omega)
            · have kc130 := tq_eqn (x := (0 : Int32)) (y := (0 : Int32)) rfl rfl c13
              have kc13 : 1 ≤ (0 : Int32).toInt := (by clear hx1 hx2 hx3 hN4 hN n2 kc1 p6 kc7 n11 kc10 kc12; omega)
              clear kc130
              exfalso
              exact (by clear hx1 hx2 hx3 hN4 hN n2 kc1 p6 kc7 n11 kc10 kc12; omega)
          · have kc12 := tq_len (x := (0 : Int32)) (y := x2) (a := 0) (by decide) rfl c12
            unfold fJ_X6_placeByRule_J75
            have l1 : (1 : Int32).toInt = 1 := by decide
            have l0 : (0 : Int32).toInt = 0 := by decide
            refine D_ite (fun c16 => ?_) (fun c16 => ?_)
            · have kc16 := tq_eq (x := (1 : Int32)) (y := (0 : Int32)) (a := 1) (by decide) (b := 0) (by decide) c16
              exfalso
              exact (by clear hx1 hx2 hx3 hN4 hN n2 kc1 p6 kc7 n11 kc10 kc12; omega)
            · skip
              have n18 : (x3 + 1).toInt = x3.toInt + 1 := i_addK rfl (by decide) (by clear hx1 hx2 hN4 hN p6 kc7 n11 kc10 kc12; omega) (by clear hx1 hx2 hN4 hN p6 kc7 n11 kc10 kc12; omega)
              refine D_lt (fun y17 ey17 => ?_)
              have hy17 : y17.toInt = (x3 + 1 : Int32).toInt := by rw [ey17]
              exact hk4 x3 y17 ⟨(by clear hx1 hx2 hN4 hN p6 kc7 n11 kc10 kc12; omega), (by clear hx1 hx2 hN4 hN p6 kc7 n11 kc10 kc12; omega)⟩ ⟨(by clear hx1 hx2 hN4 hN p6 kc7 n11 kc10 kc12; omega), (by clear hx1 hx2 hN4 hN p6 kc7 n11 kc10 kc12; omega)⟩ (by clear hx1 hx2 p6 kc7 n11 kc10 kc12; omega)
        · skip
          refine D_ite (fun c19 => ?_) (fun c19 => ?_)
          · have kc19 := tq_eq (x := (T 0 3)) (y := (1 : Int32)) rfl (b := 1) (by decide) c19
            refine D_ite (fun c20 => ?_) (fun c20 => ?_)
            · have kc20 := tq_lt (x := x2) (y := (0 : Int32)) rfl (b := 0) (by decide) c20
              unfold fJ_X6_placeByRule_J70
              unfold fJ_X6_placeByRule_J75
              have l1 : (1 : Int32).toInt = 1 := by decide
              have l0 : (0 : Int32).toInt = 0 := by decide
              refine D_ite (fun c21 => ?_) (fun c21 => ?_)
              · have kc21 := tq_eq (x := (1 : Int32)) (y := (0 : Int32)) (a := 1) (by decide) (b := 0) (by decide) c21
                exfalso
                exact (by clear hx1 hx2 hx3 hN4 hN n2 kc1 p6 kc7 n11 kc19 kc20; omega)
              · skip
                have n23 : (x3 + 1).toInt = x3.toInt + 1 := i_addK rfl (by decide) (by clear hx1 hx2 hN4 hN p6 kc7 n11 kc19 kc20; omega) (by clear hx1 hx2 hN4 hN p6 kc7 n11 kc19 kc20; omega)
                refine D_lt (fun y22 ey22 => ?_)
                have hy22 : y22.toInt = (x3 + 1 : Int32).toInt := by rw [ey22]
                exact hk4 x3 y22 ⟨(by clear hx1 hx2 hN4 hN p6 kc7 n11 kc19 kc20; omega), (by clear hx1 hx2 hN4 hN p6 kc7 n11 kc19 kc20; omega)⟩ ⟨(by clear hx1 hx2 hN4 hN p6 kc7 n11 kc19 kc20; omega), (by clear hx1 hx2 hN4 hN p6 kc7 n11 kc19 kc20; omega)⟩ (by clear hx1 hx2 p6 kc7 n11 kc19 kc20; omega)
            · have kc20 := tq_ltn (x := x2) (y := (0 : Int32)) rfl (b := 0) (by decide) c20
              refine D_ck (okI_of (by clear hx1 hx2 hN4 hN p6 kc7 n11 kc19 kc20; omega) (by clear hx1 hx2 hN4 hN p6 kc7 n11 kc19 kc20; omega)) ?_
              refine D_ck (okI_of (by clear hx1 hx3 hN4 hN n2 kc1 p6 kc7 n11 kc19; omega) (by clear hx1 hx3 hN4 hN n2 kc1 p6 kc7 n11 kc19; omega)) ?_
              have n25 := i_rng (T 18 x3.toNatClampNeg)
              have n26 := i_rng (T 18 x2.toNatClampNeg)
              refine D_ite (fun c24 => ?_) (fun c24 => ?_)
              · have kc24 := tq_le (x := (T 18 x2.toNatClampNeg)) (y := (T 18 x3.toNatClampNeg)) rfl rfl c24
                unfold fJ_X6_placeByRule_J75
                have l0 : (0 : Int32).toInt = 0 := by decide
                refine D_ite (fun c27 => ?_) (fun c27 => ?_)
                · have kc27 := tq_eq (x := (0 : Int32)) (y := (0 : Int32)) rfl rfl c27
                  have n29 : (x3 + 1).toInt = x3.toInt + 1 := i_addK rfl (by decide) (by clear hx1 hx2 hN4 hN p6 kc7 n11 kc19 kc20 n25 n26 kc24; omega) (by clear hx1 hx2 hN4 hN p6 kc7 n11 kc19 kc20 n25 n26 kc24; omega)
                  refine D_lt (fun y28 ey28 => ?_)
                  have hy28 : y28.toInt = (x3 + 1 : Int32).toInt := by rw [ey28]
                  exact hk4 x2 y28 ⟨(by clear hx1 hx3 hN4 hN n2 kc1 p6 kc7 n11 kc19 n25 n26 kc24 n29 hy28; omega), (by clear hx1 hx3 hN4 hN n2 kc1 p6 kc7 n11 kc19 n25 n26 kc24 n29 hy28; omega)⟩ ⟨(by clear hx1 hx2 hN4 hN p6 kc7 n11 kc19 kc20 n25 n26 kc24; omega), (by clear hx1 hx2 hN4 hN p6 kc7 n11 kc19 kc20 n25 n26 kc24; omega)⟩ (by clear hx1 hx2 p6 kc7 n11 kc19 kc20 n25 n26 kc24; omega)
                · have kc270 := tq_eqn (x := (0 : Int32)) (y := (0 : Int32)) rfl rfl c27
                  have kc27 : 1 ≤ (0 : Int32).toInt := (by clear hx1 hx2 hx3 hN4 hN n2 kc1 p6 kc7 n11 kc19 kc20 n25 n26 kc24; omega)
                  clear kc270
                  exfalso
                  exact (by clear hx1 hx2 hx3 hN4 hN n2 kc1 p6 kc7 n11 kc19 kc20 n25 n26 kc24; omega)
              · have kc24 := tq_len (x := (T 18 x2.toNatClampNeg)) (y := (T 18 x3.toNatClampNeg)) rfl rfl c24
                unfold fJ_X6_placeByRule_J70
                unfold fJ_X6_placeByRule_J75
                have l1 : (1 : Int32).toInt = 1 := by decide
                have l0 : (0 : Int32).toInt = 0 := by decide
                refine D_ite (fun c30 => ?_) (fun c30 => ?_)
                · have kc30 := tq_eq (x := (1 : Int32)) (y := (0 : Int32)) (a := 1) (by decide) (b := 0) (by decide) c30
                  exfalso
                  exact (by clear hx1 hx2 hx3 hN4 hN n2 kc1 p6 kc7 n11 kc19 kc20 n25 n26 kc24; omega)
                · skip
                  have n32 : (x3 + 1).toInt = x3.toInt + 1 := i_addK rfl (by decide) (by clear hx1 hx2 hN4 hN p6 kc7 n11 kc19 kc20 n25 n26 kc24; omega) (by clear hx1 hx2 hN4 hN p6 kc7 n11 kc19 kc20 n25 n26 kc24; omega)
                  refine D_lt (fun y31 ey31 => ?_)
                  have hy31 : y31.toInt = (x3 + 1 : Int32).toInt := by rw [ey31]
                  exact hk4 x3 y31 ⟨(by clear hx1 hx2 hN4 hN p6 kc7 n11 kc19 kc20 n25 n26 kc24; omega), (by clear hx1 hx2 hN4 hN p6 kc7 n11 kc19 kc20 n25 n26 kc24; omega)⟩ ⟨(by clear hx1 hx2 hN4 hN p6 kc7 n11 kc19 kc20 n25 n26 kc24; omega), (by clear hx1 hx2 hN4 hN p6 kc7 n11 kc19 kc20 n25 n26 kc24; omega)⟩ (by clear hx1 hx2 p6 kc7 n11 kc19 kc20 n25 n26 kc24; omega)
          · skip
            unfold fJ_X6_placeByRule_J70
            unfold fJ_X6_placeByRule_J75
            have l1 : (1 : Int32).toInt = 1 := by decide
            have l0 : (0 : Int32).toInt = 0 := by decide
            refine D_ite (fun c33 => ?_) (fun c33 => ?_)
            · have kc33 := tq_eq (x := (1 : Int32)) (y := (0 : Int32)) (a := 1) (by decide) (b := 0) (by decide) c33
              exfalso
              exact (by clear hx1 hx2 hx3 hN4 hN n2 kc1 p6 kc7 n11; omega)
            · skip
              have n35 : (x3 + 1).toInt = x3.toInt + 1 := i_addK rfl (by decide) (by clear hx1 hx2 hN4 hN p6 kc7 n11; omega) (by clear hx1 hx2 hN4 hN p6 kc7 n11; omega)
              refine D_lt (fun y34 ey34 => ?_)
              have hy34 : y34.toInt = (x3 + 1 : Int32).toInt := by rw [ey34]
              exact hk4 x3 y34 ⟨(by clear hx1 hx2 hN4 hN p6 kc7 n11; omega), (by clear hx1 hx2 hN4 hN p6 kc7 n11; omega)⟩ ⟨(by clear hx1 hx2 hN4 hN p6 kc7 n11; omega), (by clear hx1 hx2 hN4 hN p6 kc7 n11; omega)⟩ (by clear hx1 hx2 p6 kc7 n11; omega)
set_option maxHeartbeats 1000000 in
set_option maxRecDepth 100000 in
theorem t_X6_placeByRule (T : Tr) (P : Tr) (x1 : Int32) (hT : iR BT T) (hP : iR BP P) (hx1 : 0 ≤ x1.toInt ∧ x1.toInt ≤ 9) : D (f_X6_placeByRule T P x1) (fun (q : Int32) => ((-1) ≤ q.toInt ∧ q.toInt ≤ 4)) := by
  unfold f_X6_placeByRule
  have lm1 : ((-1) : Int32).toInt = (-1) := by decide
  have l0 : (0 : Int32).toInt = 0 := by decide
  exact tl_X6_placeByRule_L4 T P x1 hT hP ⟨(by omega), (by omega)⟩   2000 ((-1) : Int32) (0 : Int32) ⟨(by omega), (by omega)⟩ ⟨(by omega), (by omega)⟩ (by omega)
set_option maxHeartbeats 1000000 in
set_option maxRecDepth 100000 in
theorem t_X6_putOn (T : Tr) (P : Tr) (x1 : Int32) (x2 : Int32) (hT : iR BT T) (hP : iR BP P) (hx1 : 0 ≤ x1.toInt ∧ x1.toInt ≤ 4) (hx2 : 0 ≤ x2.toInt ∧ x2.toInt ≤ 9) : D (f_X6_putOn T P x1 x2) (fun (q : Tr) => (iR BT q) ∧ (q 0 0 = (T 0 0))) := by
  unfold f_X6_putOn
  refine D_ck (okI_of (by omega) (by omega)) ?_
  refine D_lt (fun y1 ey1 => ?_)
  have n2 : 0 ≤ (T 17 x1.toNatClampNeg).toInt ∧ (T 17 x1.toNatClampNeg).toInt ≤ 10 := hT 17 x1.toNatClampNeg
  have hy1 : y1.toInt = (T 17 x1.toNatClampNeg).toInt := by rw [ey1]
  refine D_ite (fun c3 => ?_) (fun c3 => ?_)
  · have kc3 := tq_le (x := (10 : Int32)) (y := y1) (a := 10) (by decide) rfl c3
    exact D_some (show (iR BT T) ∧ (T 0 0 = (T 0 0)) from ⟨hT, rfl⟩)
  · have kc3 := tq_len (x := (10 : Int32)) (y := y1) (a := 10) (by decide) rfl c3
    have n4 := i_mulR (a := x1) (b := (10 : Int32)) 10 (by decide) (by clear hx2 n2 hy1 kc3; omega) (by clear hx2 n2 hy1 kc3; omega)
    have n5 : ((x1 * 10) + y1).toInt = (x1 * 10).toInt + y1.toInt := i_addK rfl rfl (by omega) (by omega)
    refine D_ck (okI_of (by omega) (by omega)) ?_
    refine D_lt (fun T_6 eT_6 => ?_)
    have hT_6 : iR BT T_6 := by rw [eT_6]; exact iR_set hT (show (0 : Int) ≤ _ from (by clear hx1 n2 hy1 kc3 n4 n5; omega)) (show _ ≤ (9 : Int) from (by clear hx1 n2 hy1 kc3 n4 n5; omega))
    have kT_0_0_t7 : T_6 0 0 = (T 0 0) := by rw [eT_6]; exact rfl
    have n9 : (y1 + 1).toInt = y1.toInt + 1 := i_addK rfl (by decide) (by omega) (by omega)
    refine D_lt (fun T_8 eT_8 => ?_)
    have hT_8 : iR BT T_8 := by rw [eT_8]; exact iR_set hT_6 (show (0 : Int) ≤ _ from (by omega)) (show _ ≤ (10 : Int) from (by omega))
    have kT_0_0_t10 : T_8 0 0 = (T 0 0) := by rw [eT_8]; exact kT_0_0_t7
    refine D_ck (okI_of (by clear hx1 n2 hy1 kc3 n4 n5 n9; omega) (by clear hx1 n2 hy1 kc3 n4 n5 n9; omega)) ?_
    refine D_lt (fun T_11 eT_11 => ?_)
    have hT_11 : iR BT T_11 := by rw [eT_11]; exact iR_setU hT_8 rfl
    have kT_0_0_t12 : T_11 0 0 = (T 0 0) := by rw [eT_11]; exact kT_0_0_t10
    refine D_lt (fun T_13 eT_13 => ?_)
    have hT_13 : iR BT T_13 := by rw [eT_13]; exact iR_set hT_11 (show ((-1) : Int) ≤ _ from (by omega)) (show _ ≤ (4 : Int) from (by omega))
    have kT_0_0_t14 : T_13 0 0 = (T 0 0) := by rw [eT_13]; exact kT_0_0_t12
    refine D_lt (fun T_15 eT_15 => ?_)
    have hT_15 : iR BT T_15 := by rw [eT_15]; exact iR_setU hT_13 rfl
    have kT_0_0_t16 : T_15 0 0 = (T 0 0) := by rw [eT_15]; exact kT_0_0_t14
    exact D_some (show (iR BT T_15) ∧ (T_15 0 0 = (T 0 0)) from ⟨hT_15, kT_0_0_t16⟩)
set_option maxHeartbeats 1000000 in
set_option maxRecDepth 100000 in
theorem t_X6_stow (T : Tr) (P : Tr) (x1 : Int32) (hT : iR BT T) (hP : iR BP P) (hx1 : 0 ≤ x1.toInt ∧ x1.toInt ≤ 9) : D (f_X6_stow T P x1) (fun (q : Tr) => (iR BT q) ∧ (q 0 0 = (T 0 0))) := by
  unfold f_X6_stow
  refine D_ck (okI_of (by omega) (by omega)) ?_
  refine D_lt (fun y1 ey1 => ?_)
  have n2 : (-1) ≤ (T 13 x1.toNatClampNeg).toInt ∧ (T 13 x1.toNatClampNeg).toInt ≤ 4 := hT 13 x1.toNatClampNeg
  have hy1 : y1.toInt = (T 13 x1.toNatClampNeg).toInt := by rw [ey1]
  refine D_ite (fun c3 => ?_) (fun c3 => ?_)
  · have kc3 := tq_le (x := (0 : Int32)) (y := y1) (a := 0) (by decide) rfl c3
    refine D_bd (t_X6_hasRoom T P y1 x1 hT hP ⟨(by omega), (by omega)⟩ ⟨(by clear n2 hy1 kc3; omega), (by clear n2 hy1 kc3; omega)⟩) (fun r4 eq6 hq5 => ?_)
    have p7 : 0 ≤ r4.toInt ∧ r4.toInt ≤ 1 := hq5
    refine D_ite (fun c8 => ?_) (fun c8 => ?_)
    · have kc8 := tq_eq (x := r4) (y := (0 : Int32)) rfl (b := 0) (by decide) c8
      unfold fJ_X6_stow_J31
      have lm1 : ((-1) : Int32).toInt = (-1) := by decide
      have l0 : (0 : Int32).toInt = 0 := by decide
      refine D_ite (fun c9 => ?_) (fun c9 => ?_)
      · have kc9 := tq_le (x := (0 : Int32)) (y := ((-1) : Int32)) (a := 0) (by decide) (b := (-1)) (by decide) c9
        exfalso
        exact (by clear hx1 n2 hy1 kc3 p7 kc8; omega)
      · have kc9 := tq_len (x := (0 : Int32)) (y := ((-1) : Int32)) (a := 0) (by decide) (b := (-1)) (by decide) c9
        refine D_ck (okI_of (by clear n2 hy1 kc3 p7 kc8; omega) (by clear n2 hy1 kc3 p7 kc8; omega)) ?_
        refine D_lt (fun T_10 eT_10 => ?_)
        have hT_10 : iR BT T_10 := by rw [eT_10]; exact iR_setU hT rfl
        have kT_0_0_t11 : T_10 0 0 = (T 0 0) := by rw [eT_10]; exact rfl
        exact D_some (show (iR BT T_10) ∧ (T_10 0 0 = (T 0 0)) from ⟨hT_10, kT_0_0_t11⟩)
    · have kc80 := tq_eqn (x := r4) (y := (0 : Int32)) rfl (b := 0) (by decide) c8
      have kc8 : 1 ≤ r4.toInt := (by clear hx1 n2 hy1 kc3; omega)
      clear kc80
      unfold fJ_X6_stow_J31
      refine D_ite (fun c12 => ?_) (fun c12 => ?_)
      · have kc12 := tq_le (x := (0 : Int32)) (y := y1) (a := 0) (by decide) rfl c12
        refine D_bd (t_X6_putOn T P y1 x1 hT hP ⟨(by clear hx1 p7 kc8; omega), (by clear hx1 p7 kc8; omega)⟩ ⟨(by clear n2 hy1 kc3 p7 kc8 kc12; omega), (by clear n2 hy1 kc3 p7 kc8 kc12; omega)⟩) (fun T_13 eq15 hq14 => ?_)
        obtain ⟨p16, p17⟩ : (iR BT T_13) ∧ (T_13 0 0 = (T 0 0)) := hq14
        have k18 : T_13 0 0 = (T 0 0) := p17
        exact D_some (show (iR BT T_13) ∧ (T_13 0 0 = (T 0 0)) from ⟨p16, k18⟩)
      · have kc12 := tq_len (x := (0 : Int32)) (y := y1) (a := 0) (by decide) rfl c12
        exfalso
        exact (by clear hx1 p7 kc8; omega)
  · have kc3 := tq_len (x := (0 : Int32)) (y := y1) (a := 0) (by decide) rfl c3
    refine D_bd (t_X6_placeByRule T P x1 hT hP ⟨(by clear n2 hy1 kc3; omega), (by clear n2 hy1 kc3; omega)⟩) (fun r19 eq21 hq20 => ?_)
    have p22 : (-1) ≤ r19.toInt ∧ r19.toInt ≤ 4 := hq20
    unfold fJ_X6_stow_J31
    refine D_ite (fun c23 => ?_) (fun c23 => ?_)
    · have kc23 := tq_le (x := (0 : Int32)) (y := r19) (a := 0) (by decide) rfl c23
      refine D_bd (t_X6_putOn T P r19 x1 hT hP ⟨(by clear hx1 n2 hy1 kc3; omega), (by clear hx1 n2 hy1 kc3; omega)⟩ ⟨(by clear n2 hy1 kc3 p22 kc23; omega), (by clear n2 hy1 kc3 p22 kc23; omega)⟩) (fun T_24 eq26 hq25 => ?_)
      obtain ⟨p27, p28⟩ : (iR BT T_24) ∧ (T_24 0 0 = (T 0 0)) := hq25
      have k29 : T_24 0 0 = (T 0 0) := p28
      exact D_some (show (iR BT T_24) ∧ (T_24 0 0 = (T 0 0)) from ⟨p27, k29⟩)
    · have kc23 := tq_len (x := (0 : Int32)) (y := r19) (a := 0) (by decide) rfl c23
      refine D_ck (okI_of (by clear n2 hy1 kc3 p22 kc23; omega) (by clear n2 hy1 kc3 p22 kc23; omega)) ?_
      refine D_lt (fun T_30 eT_30 => ?_)
      have hT_30 : iR BT T_30 := by rw [eT_30]; exact iR_setU hT rfl
      have kT_0_0_t31 : T_30 0 0 = (T 0 0) := by rw [eT_30]; exact rfl
      exact D_some (show (iR BT T_30) ∧ (T_30 0 0 = (T 0 0)) from ⟨hT_30, kT_0_0_t31⟩)
set_option maxHeartbeats 1000000 in
set_option maxRecDepth 100000 in
theorem tl_X6_getIn_L47 (zT_0_0 : Int32) (P : Tr) (x1 : Int32) (N2 : Nat) (hP : iR BP P) (hx1 : 0 ≤ x1.toInt ∧ x1.toInt ≤ 5) (hN2 : 1000 - x1.toInt < (N2 : Int) + 1) (k2 : Int32 → Tr → Option (Tr)) (hk2 : ∀ (x1 : Int32) (T : Tr), T 0 0 = zT_0_0 → iR BT T → 0 ≤ x1.toInt ∧ x1.toInt ≤ 1000 → 1000 - x1.toInt < (N2 : Int) → D (k2 x1 T) (fun (q : Tr) => (iR BT q) ∧ (q 0 0 = zT_0_0))) (N : Nat) : ∀ (x2 : Int32) (T : Tr), T 0 0 = zT_0_0 → iR BT T → 0 ≤ x2.toInt ∧ x2.toInt ≤ 1000 → 1000 - x2.toInt < (N : Int) → D (lpF (fun _ _ => none) (fB_X6_getIn_L47 k2 P x1) N x2 T) (fun (q : Tr) => (iR BT q) ∧ (q 0 0 = zT_0_0)) := by
  induction N with
  | zero =>
    intro x2 T dT_0_0 hT hx2 hN
    exfalso
    omega
  | succ N47 ih =>
    intro x2 T dT_0_0 hT hx2 hN
    have hk47 : ∀ (x2 : Int32) (T : Tr), T 0 0 = zT_0_0 → iR BT T → 0 ≤ x2.toInt ∧ x2.toInt ≤ 1000 → 1000 - x2.toInt < (N47 : Int) → D (lpF (fun _ _ => none) (fB_X6_getIn_L47 k2 P x1) N47 x2 T) (fun (q : Tr) => (iR BT q) ∧ (q 0 0 = zT_0_0)) := ih
    show D (fB_X6_getIn_L47 k2 P x1 (lpF (fun _ _ => none) (fB_X6_getIn_L47 k2 P x1) N47) x2 T) _
    generalize lpF (fun _ _ => none) (fB_X6_getIn_L47 k2 P x1) N47 = k47 at hk47 ⊢
    have hN47 : 1000 - x2.toInt < (N47 : Int) + 1 := by omega
    clear ih
    unfold fB_X6_getIn_L47
    have n12 : 0 ≤ (P 0 2).toInt ∧ (P 0 2).toInt ≤ 10 := hP 0 2
    refine D_ite (fun c11 => ?_) (fun c11 => ?_)
    · have kc11 := tq_le (x := (P 0 2)) (y := x2) rfl rfl c11
      have n14 : (x1 + 1).toInt = x1.toInt + 1 := i_addK rfl (by decide) (by clear hx2 hN2 hN47 hN n12 kc11; omega) (by clear hx2 hN2 hN47 hN n12 kc11; omega)
      refine D_lt (fun y13 ey13 => ?_)
      have hy13 : y13.toInt = (x1 + 1 : Int32).toInt := by rw [ey13]
      exact hk2 y13 T dT_0_0 hT ⟨(by clear hx2 hN2 hN47 hN n12 kc11; omega), (by clear hx2 hN2 hN47 hN n12 kc11; omega)⟩ (by clear hx2 hN47 hN n12 kc11; omega)
    · have kc11 := tq_len (x := (P 0 2)) (y := x2) rfl rfl c11
      refine D_ck (okI_of (by clear hx1 hN2 hN47 hN; omega) (by clear hx1 hN2 hN47 hN; omega)) ?_
      have n16 : 0 ≤ (P 14 x2.toNatClampNeg).toInt ∧ (P 14 x2.toNatClampNeg).toInt ≤ 5 := hP 14 x2.toNatClampNeg
      refine D_ite (fun c15 => ?_) (fun c15 => ?_)
      · have kc15 := tq_eq (x := (P 14 x2.toNatClampNeg)) (y := x1) rfl rfl c15
        refine D_bd (t_X6_stow T P x2 hT hP ⟨(by clear hx1 hN2 hN47 hN n16 kc15; omega), (by clear hx1 hN2 hN47 hN n16 kc15; omega)⟩) (fun T_17 eq19 hq18 => ?_)
        obtain ⟨p20, p21⟩ : (iR BT T_17) ∧ (T_17 0 0 = (T 0 0)) := hq18
        have k22 : T_17 0 0 = zT_0_0 := p21.trans dT_0_0
        have n24 : (x2 + 1).toInt = x2.toInt + 1 := i_addK rfl (by decide) (by clear hx1 hN2 hN47 hN n16 kc15; omega) (by clear hx1 hN2 hN47 hN n16 kc15; omega)
        refine D_lt (fun y23 ey23 => ?_)
        have hy23 : y23.toInt = (x2 + 1 : Int32).toInt := by rw [ey23]
        exact hk47 y23 T_17 k22 p20 ⟨(by clear hx1 hN2 hN47 hN n16 kc15; omega), (by clear hx1 hN2 hN47 hN n16 kc15; omega)⟩ (by clear hx1 hN2 n16 kc15; omega)
      · skip
        have n26 : (x2 + 1).toInt = x2.toInt + 1 := i_addK rfl (by decide) (by clear hx1 hN2 hN47 hN n16; omega) (by clear hx1 hN2 hN47 hN n16; omega)
        refine D_lt (fun y25 ey25 => ?_)
        have hy25 : y25.toInt = (x2 + 1 : Int32).toInt := by rw [ey25]
        exact hk47 y25 T dT_0_0 hT ⟨(by clear hx1 hN2 hN47 hN n16; omega), (by clear hx1 hN2 hN47 hN n16; omega)⟩ (by clear hx1 hN2 n16; omega)
set_option maxHeartbeats 1000000 in
set_option maxRecDepth 100000 in
theorem tl_X6_getIn_L2 (zT_0_0 : Int32) (P : Tr) (hP : iR BP P)   (N : Nat) : ∀ (x1 : Int32) (T : Tr), T 0 0 = zT_0_0 → iR BT T → 0 ≤ x1.toInt ∧ x1.toInt ≤ 1000 → 1000 - x1.toInt < (N : Int) → D (lpF (fun _ _ => none) (fB_X6_getIn_L2 P) N x1 T) (fun (q : Tr) => (iR BT q) ∧ (q 0 0 = zT_0_0)) := by
  induction N with
  | zero =>
    intro x1 T dT_0_0 hT hx1 hN
    exfalso
    omega
  | succ N2 ih =>
    intro x1 T dT_0_0 hT hx1 hN
    have hk2 : ∀ (x1 : Int32) (T : Tr), T 0 0 = zT_0_0 → iR BT T → 0 ≤ x1.toInt ∧ x1.toInt ≤ 1000 → 1000 - x1.toInt < (N2 : Int) → D (lpF (fun _ _ => none) (fB_X6_getIn_L2 P) N2 x1 T) (fun (q : Tr) => (iR BT q) ∧ (q 0 0 = zT_0_0)) := ih
    show D (fB_X6_getIn_L2 P (lpF (fun _ _ => none) (fB_X6_getIn_L2 P) N2) x1 T) _
    generalize lpF (fun _ _ => none) (fB_X6_getIn_L2 P) N2 = k2 at hk2 ⊢
    have hN2 : 1000 - x1.toInt < (N2 : Int) + 1 := by omega
    clear ih
    unfold fB_X6_getIn_L2
    have n2 : 0 ≤ (P 0 1).toInt ∧ (P 0 1).toInt ≤ 6 := hP 0 1
    refine D_ite (fun c1 => ?_) (fun c1 => ?_)
    · have kc1 := tq_le (x := (P 0 1)) (y := x1) rfl rfl c1
      exact D_some (show (iR BT T) ∧ (T 0 0 = zT_0_0) from ⟨hT, dT_0_0⟩)
    · have kc1 := tq_len (x := (P 0 1)) (y := x1) rfl rfl c1
      refine D_ck (okI_of (by omega) (by omega)) ?_
      have n4 := i_rng (T 11 x1.toNatClampNeg)
      refine D_ite (fun c3 => ?_) (fun c3 => ?_)
      · have kc3 := tq_eq (x := (T 11 x1.toNatClampNeg)) (y := (0 : Int32)) rfl (b := 0) (by decide) c3
        have n6 := i_rng (T 9 x1.toNatClampNeg)
        have n7 : 0 ≤ (T 0 0).toInt ∧ (T 0 0).toInt ≤ 21 := hT 0 0
        refine D_ite (fun c5 => ?_) (fun c5 => ?_)
        · have kc5 := tq_eq (x := (T 9 x1.toNatClampNeg)) (y := (T 0 0)) rfl rfl c5
          refine D_lt (fun T_8 eT_8 => ?_)
          have hT_8 : iR BT T_8 := by rw [eT_8]; exact iR_setU hT rfl
          have kT_0_0_t9 : T_8 0 0 = zT_0_0 := by rw [eT_8]; exact dT_0_0
          have n10 : (T_8 0 0).toInt = (T 0 0).toInt := by rw [eT_8]; rfl
          have l0 : (0 : Int32).toInt = 0 := by decide
          exact tl_X6_getIn_L47 zT_0_0 P x1 N2 hP ⟨(by clear hN2 hN n4 kc3 n6 n7 kc5 n10; omega), (by clear hN2 hN n4 kc3 n6 n7 kc5 n10; omega)⟩ hN2 k2 hk2 2000 (0 : Int32) T_8 kT_0_0_t9 hT_8 ⟨(by clear hx1 hN2 hN n2 kc1 n4 kc3 n6 n7 kc5 n10; omega), (by clear hx1 hN2 hN n2 kc1 n4 kc3 n6 n7 kc5 n10; omega)⟩ (by clear hx1 hN2 hN n2 kc1 n4 kc3 n6 n7 kc5 n10; omega)
        · skip
          have n28 : (x1 + 1).toInt = x1.toInt + 1 := i_addK rfl (by decide) (by clear hN2 hN n4 kc3 n6 n7; omega) (by clear hN2 hN n4 kc3 n6 n7; omega)
          refine D_lt (fun y27 ey27 => ?_)
          have hy27 : y27.toInt = (x1 + 1 : Int32).toInt := by rw [ey27]
          exact hk2 y27 T dT_0_0 hT ⟨(by clear hN2 hN n4 kc3 n6 n7; omega), (by clear hN2 hN n4 kc3 n6 n7; omega)⟩ (by clear n4 kc3 n6 n7; omega)
      · skip
        have n30 : (x1 + 1).toInt = x1.toInt + 1 := i_addK rfl (by decide) (by clear hN2 hN n4; omega) (by clear hN2 hN n4; omega)
        refine D_lt (fun y29 ey29 => ?_)
        have hy29 : y29.toInt = (x1 + 1 : Int32).toInt := by rw [ey29]
        exact hk2 y29 T dT_0_0 hT ⟨(by clear hN2 hN n4; omega), (by clear hN2 hN n4; omega)⟩ (by omega)
set_option maxHeartbeats 1000000 in
set_option maxRecDepth 100000 in
theorem t_X6_getIn (T : Tr) (P : Tr) (hT : iR BT T) (hP : iR BP P) : D (f_X6_getIn T P) (fun (q : Tr) => (iR BT q) ∧ (q 0 0 = (T 0 0))) := by
  unfold f_X6_getIn
  have l0 : (0 : Int32).toInt = 0 := by decide
  exact tl_X6_getIn_L2 (T 0 0) P hP   2000 (0 : Int32) T rfl hT ⟨(by omega), (by omega)⟩ (by omega)
set_option maxHeartbeats 1000000 in
set_option maxRecDepth 100000 in
theorem t_X6_goesAbove (P : Tr) (x1 : Int32) (x2 : Int32) (hP : iR BP P) (hx1 : 0 ≤ x1.toInt ∧ x1.toInt ≤ 9) (hx2 : 0 ≤ x2.toInt ∧ x2.toInt ≤ 9) : D (f_X6_goesAbove P x1 x2) (fun (q : Int32) => (0 ≤ q.toInt ∧ q.toInt ≤ 1)) := by
  unfold f_X6_goesAbove
  refine D_ck (okI_of (by omega) (by omega)) ?_
  have n1 : 0 ≤ (P 14 x1.toNatClampNeg).toInt ∧ (P 14 x1.toNatClampNeg).toInt ≤ 5 := hP 14 x1.toNatClampNeg
  refine D_ck (okI_of (by omega) (by omega)) ?_
  refine D_lt (fun y2 ey2 => ?_)
  have n3 : 0 ≤ (P 12 (P 14 x1.toNatClampNeg).toNatClampNeg).toInt ∧ (P 12 (P 14 x1.toNatClampNeg).toNatClampNeg).toInt ≤ 20 := hP 12 ((P 14 x1.toNatClampNeg).toNatClampNeg)
  have hy2 : y2.toInt = (P 12 (P 14 x1.toNatClampNeg).toNatClampNeg).toInt := by rw [ey2]
  refine D_ck (okI_of (by clear hx1 n1 n3 hy2; omega) (by clear hx1 n1 n3 hy2; omega)) ?_
  have n4 : 0 ≤ (P 14 x2.toNatClampNeg).toInt ∧ (P 14 x2.toNatClampNeg).toInt ≤ 5 := hP 14 x2.toNatClampNeg
  refine D_ck (okI_of (by clear hx1 hx2 n1 n3 hy2; omega) (by clear hx1 hx2 n1 n3 hy2; omega)) ?_
  refine D_lt (fun y5 ey5 => ?_)
  have n6 : 0 ≤ (P 12 (P 14 x2.toNatClampNeg).toNatClampNeg).toInt ∧ (P 12 (P 14 x2.toNatClampNeg).toNatClampNeg).toInt ≤ 20 := hP 12 ((P 14 x2.toNatClampNeg).toNatClampNeg)
  have hy5 : y5.toInt = (P 12 (P 14 x2.toNatClampNeg).toNatClampNeg).toInt := by rw [ey5]
  refine D_ite (fun c7 => ?_) (fun c7 => ?_)
  · have kc7 := tq_eq (x := y2) (y := y5) rfl rfl c7
    refine D_ite (fun c8 => ?_) (fun c8 => ?_)
    · have kc8 := tq_le (x := x2) (y := x1) rfl rfl c8
      have l0 : (0 : Int32).toInt = 0 := by decide
      exact D_some (show (0 ≤ (0 : Int32).toInt ∧ (0 : Int32).toInt ≤ 1) from ⟨(by clear hx1 hx2 n1 n3 hy2 n4 n6 hy5 kc7 kc8; omega), (by clear hx1 hx2 n1 n3 hy2 n4 n6 hy5 kc7 kc8; omega)⟩)
    · have kc8 := tq_len (x := x2) (y := x1) rfl rfl c8
      have l1 : (1 : Int32).toInt = 1 := by decide
      exact D_some (show (0 ≤ (1 : Int32).toInt ∧ (1 : Int32).toInt ≤ 1) from ⟨(by clear hx1 hx2 n1 n3 hy2 n4 n6 hy5 kc7 kc8; omega), (by clear hx1 hx2 n1 n3 hy2 n4 n6 hy5 kc7 kc8; omega)⟩)
  · skip
    refine D_ite (fun c9 => ?_) (fun c9 => ?_)
    · have kc9 := tq_le (x := y5) (y := y2) rfl rfl c9
      have l0 : (0 : Int32).toInt = 0 := by decide
      exact D_some (show (0 ≤ (0 : Int32).toInt ∧ (0 : Int32).toInt ≤ 1) from ⟨(by clear hx1 hx2 n1 n3 hy2 n4 n6 hy5 kc9; omega), (by clear hx1 hx2 n1 n3 hy2 n4 n6 hy5 kc9; omega)⟩)
    · have kc9 := tq_len (x := y5) (y := y2) rfl rfl c9
      have l1 : (1 : Int32).toInt = 1 := by decide
      exact D_some (show (0 ≤ (1 : Int32).toInt ∧ (1 : Int32).toInt ≤ 1) from ⟨(by clear hx1 hx2 n1 n3 hy2 n4 n6 hy5 kc9; omega), (by clear hx1 hx2 n1 n3 hy2 n4 n6 hy5 kc9; omega)⟩)
set_option maxHeartbeats 1000000 in
set_option maxRecDepth 100000 in
theorem tl_X6_hasPlaced_L2 (T : Tr) (P : Tr) (x1 : Int32) (hT : iR BT T) (hP : iR BP P)   (N : Nat) : ∀ (x2 : Int32), 0 ≤ x2.toInt ∧ x2.toInt ≤ 1000 → 1000 - x2.toInt < (N : Int) → D (lpF (fun _ => none) (fB_X6_hasPlaced_L2 T P x1) N x2) (fun (q : Int32) => (0 ≤ q.toInt ∧ q.toInt ≤ 1)) := by
  induction N with
  | zero =>
    intro x2 hx2 hN
    exfalso
    omega
  | succ N2 ih =>
    intro x2 hx2 hN
    have hk2 : ∀ (x2 : Int32), 0 ≤ x2.toInt ∧ x2.toInt ≤ 1000 → 1000 - x2.toInt < (N2 : Int) → D (lpF (fun _ => none) (fB_X6_hasPlaced_L2 T P x1) N2 x2) (fun (q : Int32) => (0 ≤ q.toInt ∧ q.toInt ≤ 1)) := ih
    show D (fB_X6_hasPlaced_L2 T P x1 (lpF (fun _ => none) (fB_X6_hasPlaced_L2 T P x1) N2) x2) _
    generalize lpF (fun _ => none) (fB_X6_hasPlaced_L2 T P x1) N2 = k2 at hk2 ⊢
    have hN2 : 1000 - x2.toInt < (N2 : Int) + 1 := by omega
    clear ih
    unfold fB_X6_hasPlaced_L2
    have n2 : 0 ≤ (P 0 2).toInt ∧ (P 0 2).toInt ≤ 10 := hP 0 2
    refine D_ite (fun c1 => ?_) (fun c1 => ?_)
    · have kc1 := tq_le (x := (P 0 2)) (y := x2) rfl rfl c1
      have l0 : (0 : Int32).toInt = 0 := by decide
      exact D_some (show (0 ≤ (0 : Int32).toInt ∧ (0 : Int32).toInt ≤ 1) from ⟨(by clear hx2 hN2 hN n2 kc1; omega), (by clear hx2 hN2 hN n2 kc1; omega)⟩)
    · have kc1 := tq_len (x := (P 0 2)) (y := x2) rfl rfl c1
      refine D_ck (okI_of (by omega) (by omega)) ?_
      have n4 : 0 ≤ (P 14 x2.toNatClampNeg).toInt ∧ (P 14 x2.toNatClampNeg).toInt ≤ 5 := hP 14 x2.toNatClampNeg
      have n5 := i_rng x1
      refine D_ite (fun c3 => ?_) (fun c3 => ?_)
      · have kc3 := tq_eq (x := (P 14 x2.toNatClampNeg)) (y := x1) rfl rfl c3
        have n7 := i_rng (T 14 x2.toNatClampNeg)
        refine D_ite (fun c6 => ?_) (fun c6 => ?_)
        · have kc6 := tq_eq (x := (T 14 x2.toNatClampNeg)) (y := (1 : Int32)) rfl (b := 1) (by decide) c6
          have l1 : (1 : Int32).toInt = 1 := by decide
          exact D_some (show (0 ≤ (1 : Int32).toInt ∧ (1 : Int32).toInt ≤ 1) from ⟨(by clear hx2 hN2 hN n2 kc1 n4 n5 kc3 n7 kc6; omega), (by clear hx2 hN2 hN n2 kc1 n4 n5 kc3 n7 kc6; omega)⟩)
        · skip
          have n9 : (x2 + 1).toInt = x2.toInt + 1 := i_addK rfl (by decide) (by clear hN2 hN n4 n5 kc3 n7; omega) (by clear hN2 hN n4 n5 kc3 n7; omega)
          refine D_lt (fun y8 ey8 => ?_)
          have hy8 : y8.toInt = (x2 + 1 : Int32).toInt := by rw [ey8]
          exact hk2 y8 ⟨(by clear hN2 hN n4 n5 kc3 n7; omega), (by clear hN2 hN n4 n5 kc3 n7; omega)⟩ (by clear n4 n5 kc3 n7; omega)
      · skip
        have n11 : (x2 + 1).toInt = x2.toInt + 1 := i_addK rfl (by decide) (by clear hN2 hN n4 n5; omega) (by clear hN2 hN n4 n5; omega)
        refine D_lt (fun y10 ey10 => ?_)
        have hy10 : y10.toInt = (x2 + 1 : Int32).toInt := by rw [ey10]
        exact hk2 y10 ⟨(by clear hN2 hN n4 n5; omega), (by clear hN2 hN n4 n5; omega)⟩ (by omega)
set_option maxHeartbeats 1000000 in
set_option maxRecDepth 100000 in
theorem t_X6_hasPlaced (T : Tr) (P : Tr) (x1 : Int32) (hT : iR BT T) (hP : iR BP P) : D (f_X6_hasPlaced T P x1) (fun (q : Int32) => (0 ≤ q.toInt ∧ q.toInt ≤ 1)) := by
  unfold f_X6_hasPlaced
  have l0 : (0 : Int32).toInt = 0 := by decide
  have n12 := i_rng x1
  exact tl_X6_hasPlaced_L2 T P x1 hT hP   2000 (0 : Int32) ⟨(by omega), (by omega)⟩ (by omega)
set_option maxHeartbeats 1000000 in
set_option maxRecDepth 100000 in
theorem tl_X6_isBusy_L2 (T : Tr) (P : Tr) (hT : iR BT T) (hP : iR BP P)   (N : Nat) : ∀ (x1 : Int32), 0 ≤ x1.toInt ∧ x1.toInt ≤ 1000 → 1000 - x1.toInt < (N : Int) → D (lpF (fun _ => none) (fB_X6_isBusy_L2 T P) N x1) (fun (q : Int32) => (0 ≤ q.toInt ∧ q.toInt ≤ 1)) := by
  induction N with
  | zero =>
    intro x1 hx1 hN
    exfalso
    omega
  | succ N2 ih =>
    intro x1 hx1 hN
    have hk2 : ∀ (x1 : Int32), 0 ≤ x1.toInt ∧ x1.toInt ≤ 1000 → 1000 - x1.toInt < (N2 : Int) → D (lpF (fun _ => none) (fB_X6_isBusy_L2 T P) N2 x1) (fun (q : Int32) => (0 ≤ q.toInt ∧ q.toInt ≤ 1)) := ih
    show D (fB_X6_isBusy_L2 T P (lpF (fun _ => none) (fB_X6_isBusy_L2 T P) N2) x1) _
    generalize lpF (fun _ => none) (fB_X6_isBusy_L2 T P) N2 = k2 at hk2 ⊢
    have hN2 : 1000 - x1.toInt < (N2 : Int) + 1 := by omega
    clear ih
    unfold fB_X6_isBusy_L2
    have n2 : 0 ≤ (P 0 1).toInt ∧ (P 0 1).toInt ≤ 6 := hP 0 1
    refine D_ite (fun c1 => ?_) (fun c1 => ?_)
    · have kc1 := tq_le (x := (P 0 1)) (y := x1) rfl rfl c1
      have l0 : (0 : Int32).toInt = 0 := by decide
      exact D_some (show (0 ≤ (0 : Int32).toInt ∧ (0 : Int32).toInt ≤ 1) from ⟨(by clear hx1 hN2 hN n2 kc1; omega), (by clear hx1 hN2 hN n2 kc1; omega)⟩)
    · have kc1 := tq_len (x := (P 0 1)) (y := x1) rfl rfl c1
      refine D_ck (okI_of (by omega) (by omega)) ?_
      have n4 := i_rng (T 11 x1.toNatClampNeg)
      refine D_ite (fun c3 => ?_) (fun c3 => ?_)
      · have kc3 := tq_eq (x := (T 11 x1.toNatClampNeg)) (y := (2 : Int32)) rfl (b := 2) (by decide) c3
        have n6 : (x1 + 1).toInt = x1.toInt + 1 := i_addK rfl (by decide) (by clear hN2 hN n4 kc3; omega) (by clear hN2 hN n4 kc3; omega)
        refine D_lt (fun y5 ey5 => ?_)
        have hy5 : y5.toInt = (x1 + 1 : Int32).toInt := by rw [ey5]
        exact hk2 y5 ⟨(by clear hN2 hN n4 kc3; omega), (by clear hN2 hN n4 kc3; omega)⟩ (by omega)
      · skip
        have l1 : (1 : Int32).toInt = 1 := by decide
        exact D_some (show (0 ≤ (1 : Int32).toInt ∧ (1 : Int32).toInt ≤ 1) from ⟨(by clear hx1 hN2 hN n2 kc1 n4; omega), (by clear hx1 hN2 hN n2 kc1 n4; omega)⟩)
set_option maxHeartbeats 1000000 in
set_option maxRecDepth 100000 in
theorem t_X6_isBusy (T : Tr) (P : Tr) (hT : iR BT T) (hP : iR BP P) : D (f_X6_isBusy T P) (fun (q : Int32) => (0 ≤ q.toInt ∧ q.toInt ≤ 1)) := by
  unfold f_X6_isBusy
  have l0 : (0 : Int32).toInt = 0 := by decide
  exact tl_X6_isBusy_L2 T P hT hP   2000 (0 : Int32) ⟨(by omega), (by omega)⟩ (by omega)
set_option maxHeartbeats 1000000 in
set_option maxRecDepth 100000 in
theorem tl_X6_secondsFor_L26 (zT_0_0 : Int32) (P : Tr) (x2 : Int32) (x4 : Int32) (hP : iR BP P) (hx4 : 0 ≤ x4.toInt ∧ x4.toInt ≤ 4)   (N : Nat) : ∀ (x5 : Int32) (x6 : Int32) (T : Tr) (L : Lo), T 0 0 = zT_0_0 → iR BT T → 0 ≤ x6.toInt ∧ x6.toInt ≤ 1000 → 1000 - x6.toInt < (N : Int) → D (lpF (fun _ _ _ _ => none) (fB_X6_secondsFor_L26 P x2 x4) N x5 x6 T L) (fun (q : Int32 × Tr × Lo) => (iR BT (q.2.1)) ∧ ((q.2.1) 0 0 = zT_0_0)) := by
  induction N with
  | zero =>
    intro x5 x6 T L dT_0_0 hT hx6 hN
    exfalso
    omega
  | succ N26 ih =>
    intro x5 x6 T L dT_0_0 hT hx6 hN
    have hk26 : ∀ (x5 : Int32) (x6 : Int32) (T : Tr) (L : Lo), T 0 0 = zT_0_0 → iR BT T → 0 ≤ x6.toInt ∧ x6.toInt ≤ 1000 → 1000 - x6.toInt < (N26 : Int) → D (lpF (fun _ _ _ _ => none) (fB_X6_secondsFor_L26 P x2 x4) N26 x5 x6 T L) (fun (q : Int32 × Tr × Lo) => (iR BT (q.2.1)) ∧ ((q.2.1) 0 0 = zT_0_0)) := ih
    show D (fB_X6_secondsFor_L26 P x2 x4 (lpF (fun _ _ _ _ => none) (fB_X6_secondsFor_L26 P x2 x4) N26) x5 x6 T L) _
    generalize lpF (fun _ _ _ _ => none) (fB_X6_secondsFor_L26 P x2 x4) N26 = k26 at hk26 ⊢
    have hN26 : 1000 - x6.toInt < (N26 : Int) + 1 := by omega
    clear ih
    unfold fB_X6_secondsFor_L26
    refine D_ck (okI_of (by clear hx6 hN26 hN; omega) (by clear hx6 hN26 hN; omega)) ?_
    have n11 : 0 ≤ (T 17 x4.toNatClampNeg).toInt ∧ (T 17 x4.toNatClampNeg).toInt ≤ 10 := hT 17 x4.toNatClampNeg
    refine D_ite (fun c10 => ?_) (fun c10 => ?_)
    · have kc10 := tq_le (x := (T 17 x4.toNatClampNeg)) (y := x6) rfl rfl c10
      have n12 := i_rng x5
      exact D_some (show (iR BT T) ∧ (T 0 0 = zT_0_0) from ⟨hT, dT_0_0⟩)
    · have kc10 := tq_len (x := (T 17 x4.toNatClampNeg)) (y := x6) rfl rfl c10
      have n13 := i_mulR (a := x4) (b := (10 : Int32)) 10 (by decide) (by clear hx6 hN26 hN n11 kc10; omega) (by clear hx6 hN26 hN n11 kc10; omega)
      have n14 : ((x4 * 10) + x6).toInt = (x4 * 10).toInt + x6.toInt := i_addK rfl rfl (by omega) (by omega)
      refine D_ck (okI_of (by omega) (by omega)) ?_
      refine D_lt (fun y15 ey15 => ?_)
      have n16 : 0 ≤ (T 16 ((x4 * 10) + x6).toNatClampNeg).toInt ∧ (T 16 ((x4 * 10) + x6).toNatClampNeg).toInt ≤ 9 := hT 16 (((x4 * 10) + x6).toNatClampNeg)
      have hy15 : y15.toInt = (T 16 ((x4 * 10) + x6).toNatClampNeg).toInt := by rw [ey15]
      have l0 : (0 : Int32).toInt = 0 := by decide
      have n17 := i_rng x2
      refine D_bd3 (t_X6_worked T P L (0 : Int32) y15 x2 hT hP ⟨(by clear hx4 hx6 hN26 hN n11 kc10 n13 n14 n16 hy15 n17; omega), (by clear hx4 hx6 hN26 hN n11 kc10 n13 n14 n16 hy15 n17; omega)⟩ ⟨(by clear hx4 hx6 hN26 hN n11 kc10 n13 n14 n17; omega), (by clear hx4 hx6 hN26 hN n11 kc10 n13 n14 n17; omega)⟩) (fun r18 T_19 L_20 eq22 hq21 => ?_)
      refine D_lte (y := r18) rfl ?_
      refine D_lte (y := T_19) rfl ?_
      refine D_lte (y := L_20) rfl ?_
      obtain ⟨p23, p24⟩ : (iR BT T_19) ∧ (T_19 0 0 = (T 0 0)) := hq21
      have k25 : T_19 0 0 = zT_0_0 := p24.trans dT_0_0
      refine D_ite (fun c26 => ?_) (fun c26 => ?_)
      · skip
        refine D_ite (fun c27 => ?_) (fun c27 => ?_)
        · have kc27 := tq_le (x := x2) (y := (0 : Int32)) rfl (b := 0) (by decide) c27
          have n29 : (x6 + 1).toInt = x6.toInt + 1 := i_addK rfl (by decide) (by clear hN26 hN n16 hy15 n17 kc27; omega) (by clear hN26 hN n16 hy15 n17 kc27; omega)
          refine D_lt (fun y28 ey28 => ?_)
          have hy28 : y28.toInt = (x6 + 1 : Int32).toInt := by rw [ey28]
          have n30 := i_rng x5
          exact hk26 x5 y28 T_19 L_20 k25 p23 ⟨(by clear hN26 hN n16 hy15 n17 kc27 n30; omega), (by clear hN26 hN n16 hy15 n17 kc27 n30; omega)⟩ (by clear n16 hy15 n17 kc27 n30; omega)
        · have kc27 := tq_len (x := x2) (y := (0 : Int32)) rfl (b := 0) (by decide) c27
          refine D_ck (okI_of (by clear hx4 hx6 hN26 hN n11 kc10 n13 n14 n17 kc27; omega) (by clear hx4 hx6 hN26 hN n11 kc10 n13 n14 n17 kc27; omega)) ?_
          refine D_ck (ok_ne (by clear hx4 hx6 hN26 hN n11 kc10 n13 n14 n16 hy15; omega)) ?_
          refine D_lt (fun y31 ey31 => ?_)
          have n32 := i_rng (x5 + (((P 15 y15.toNatClampNeg) / x2) + 1))
          have hy31 : y31.toInt = (x5 + (((P 15 y15.toNatClampNeg) / x2) + 1)).toInt := by rw [ey31]
          have n34 : (x6 + 1).toInt = x6.toInt + 1 := i_addK rfl (by decide) (by clear hN26 hN n16 hy15 n17 kc27 n32 hy31; omega) (by clear hN26 hN n16 hy15 n17 kc27 n32 hy31; omega)
          refine D_lt (fun y33 ey33 => ?_)
          have hy33 : y33.toInt = (x6 + 1 : Int32).toInt := by rw [ey33]
          exact hk26 y31 y33 T_19 L_20 k25 p23 ⟨(by clear hN26 hN n16 hy15 n17 kc27 n32 hy31; omega), (by clear hN26 hN n16 hy15 n17 kc27 n32 hy31; omega)⟩ (by clear n16 hy15 n17 kc27 n32 hy31; omega)
      · skip
        have l99 : (99 : Int32).toInt = 99 := by decide
        refine D_bd (t_X6_within r18 (99 : Int32) ) (fun r35 eq37 hq36 => ?_)
        have n38 := i_rng r35
        refine D_lt (fun y39 ey39 => ?_)
        have n40 := i_rng (x5 + r35)
        have hy39 : y39.toInt = (x5 + r35).toInt := by rw [ey39]
        have n42 : (x6 + 1).toInt = x6.toInt + 1 := i_addK rfl (by decide) (by clear hN26 hN n16 hy15 n17 n38 n40 hy39; omega) (by clear hN26 hN n16 hy15 n17 n38 n40 hy39; omega)
        refine D_lt (fun y41 ey41 => ?_)
        have hy41 : y41.toInt = (x6 + 1 : Int32).toInt := by rw [ey41]
        exact hk26 y39 y41 T_19 L_20 k25 p23 ⟨(by clear hN26 hN n16 hy15 n17 n38 n40 hy39; omega), (by clear hN26 hN n16 hy15 n17 n38 n40 hy39; omega)⟩ (by clear n16 hy15 n17 n38 n40 hy39; omega)
set_option maxHeartbeats 1000000 in
set_option maxRecDepth 100000 in
theorem t_X6_secondsFor (T : Tr) (P : Tr) (L : Lo) (x1 : Int32) (x2 : Int32) (hT : iR BT T) (hP : iR BP P) (hx1 : 0 ≤ x1.toInt ∧ x1.toInt ≤ 9) : D (f_X6_secondsFor T P L x1 x2) (fun (q : Int32 × Tr × Lo) => (iR BT (q.2.1)) ∧ ((q.2.1) 0 0 = (T 0 0))) := by
  unfold f_X6_secondsFor
  refine D_bd (t_X6_level T x1 hT ⟨(by omega), (by omega)⟩) (fun r1 eq3 hq2 => ?_)
  obtain ⟨p4, p5, p6⟩ : ((-1) ≤ r1.toInt ∧ r1.toInt ≤ 9) ∧ (0 ≤ r1.toInt → r1.toInt < (T 17 (T 15 x1.toNatClampNeg).toNatClampNeg).toInt) ∧ (0 ≤ r1.toInt → 0 ≤ (T 15 x1.toNatClampNeg).toInt) := hq2
  refine D_ite (fun c7 => ?_) (fun c7 => ?_)
  · have kc7 := tq_le (x := (0 : Int32)) (y := r1) (a := 0) (by decide) rfl c7
    refine D_ck (okI_of (by clear p4 p5 p6 kc7; omega) (by clear p4 p5 p6 kc7; omega)) ?_
    refine D_lt (fun y8 ey8 => ?_)
    have n9 : (-1) ≤ (T 15 x1.toNatClampNeg).toInt ∧ (T 15 x1.toNatClampNeg).toInt ≤ 4 := hT 15 x1.toNatClampNeg
    have hy8 : y8.toInt = (T 15 x1.toNatClampNeg).toInt := by rw [ey8]
    have l0 : (0 : Int32).toInt = 0 := by decide
    have n43 := i_rng x2
    exact tl_X6_secondsFor_L26 (T 0 0) P x2 y8 hP ⟨(by omega), (by omega)⟩   2000 (0 : Int32) r1 T L rfl hT ⟨(by omega), (by omega)⟩ (by omega)
  · have kc7 := tq_len (x := (0 : Int32)) (y := r1) (a := 0) (by decide) rfl c7
    have l0 : (0 : Int32).toInt = 0 := by decide
    exact D_some (show (iR BT T) ∧ (T 0 0 = (T 0 0)) from ⟨hT, rfl⟩)
set_option maxHeartbeats 1000000 in
set_option maxRecDepth 100000 in
theorem tl_X6_setFree_L2 (zT_0_0 : Int32) (P : Tr) (x1 : Int32) (x2 : Int32) (hP : iR BP P)   (N : Nat) : ∀ (x3 : Int32) (T : Tr), T 0 0 = zT_0_0 → iR BT T → 0 ≤ x3.toInt ∧ x3.toInt ≤ 1000 → 1000 - x3.toInt < (N : Int) → D (lpF (fun _ _ => none) (fB_X6_setFree_L2 P x1 x2) N x3 T) (fun (q : Tr) => (iR BT q) ∧ (q 0 0 = zT_0_0)) := by
  induction N with
  | zero =>
    intro x3 T dT_0_0 hT hx3 hN
    exfalso
    omega
  | succ N2 ih =>
    intro x3 T dT_0_0 hT hx3 hN
    have hk2 : ∀ (x3 : Int32) (T : Tr), T 0 0 = zT_0_0 → iR BT T → 0 ≤ x3.toInt ∧ x3.toInt ≤ 1000 → 1000 - x3.toInt < (N2 : Int) → D (lpF (fun _ _ => none) (fB_X6_setFree_L2 P x1 x2) N2 x3 T) (fun (q : Tr) => (iR BT q) ∧ (q 0 0 = zT_0_0)) := ih
    show D (fB_X6_setFree_L2 P x1 x2 (lpF (fun _ _ => none) (fB_X6_setFree_L2 P x1 x2) N2) x3 T) _
    generalize lpF (fun _ _ => none) (fB_X6_setFree_L2 P x1 x2) N2 = k2 at hk2 ⊢
    have hN2 : 1000 - x3.toInt < (N2 : Int) + 1 := by omega
    clear ih
    unfold fB_X6_setFree_L2
    have n2 : 0 ≤ (P 0 2).toInt ∧ (P 0 2).toInt ≤ 10 := hP 0 2
    refine D_ite (fun c1 => ?_) (fun c1 => ?_)
    · have kc1 := tq_le (x := (P 0 2)) (y := x3) rfl rfl c1
      exact D_some (show (iR BT T) ∧ (T 0 0 = zT_0_0) from ⟨hT, dT_0_0⟩)
    · have kc1 := tq_len (x := (P 0 2)) (y := x3) rfl rfl c1
      refine D_ck (okI_of (by omega) (by omega)) ?_
      have n4 : 0 ≤ (P 14 x3.toNatClampNeg).toInt ∧ (P 14 x3.toNatClampNeg).toInt ≤ 5 := hP 14 x3.toNatClampNeg
      have n5 := i_rng x1
      refine D_ite (fun c3 => ?_) (fun c3 => ?_)
      · have kc3 := tq_eq (x := (P 14 x3.toNatClampNeg)) (y := x1) rfl rfl c3
        have n7 := i_rng (T 14 x3.toNatClampNeg)
        refine D_ite (fun c6 => ?_) (fun c6 => ?_)
        · have kc6 := tq_eq (x := (T 14 x3.toNatClampNeg)) (y := (1 : Int32)) rfl (b := 1) (by decide) c6
          have n8 := i_rng x2
          refine D_bd (t_X6_takeAway T P x3 x2 hT hP ⟨(by clear hN2 hN n4 n5 kc3 n7 kc6 n8; omega), (by clear hN2 hN n4 n5 kc3 n7 kc6 n8; omega)⟩) (fun T_9 eq11 hq10 => ?_)
          obtain ⟨p12, p13⟩ : (iR BT T_9) ∧ (T_9 0 0 = (T 0 0)) := hq10
          have k14 : T_9 0 0 = zT_0_0 := p13.trans dT_0_0
          have n16 : (x3 + 1).toInt = x3.toInt + 1 := i_addK rfl (by decide) (by clear hN2 hN n4 n5 kc3 n7 kc6 n8; omega) (by clear hN2 hN n4 n5 kc3 n7 kc6 n8; omega)
          refine D_lt (fun y15 ey15 => ?_)
          have hy15 : y15.toInt = (x3 + 1 : Int32).toInt := by rw [ey15]
          exact hk2 y15 T_9 k14 p12 ⟨(by clear hN2 hN n4 n5 kc3 n7 kc6 n8; omega), (by clear hN2 hN n4 n5 kc3 n7 kc6 n8; omega)⟩ (by clear n4 n5 kc3 n7 kc6 n8; omega)
        · skip
          have n18 : (x3 + 1).toInt = x3.toInt + 1 := i_addK rfl (by decide) (by clear hN2 hN n4 n5 kc3 n7; omega) (by clear hN2 hN n4 n5 kc3 n7; omega)
          refine D_lt (fun y17 ey17 => ?_)
          have hy17 : y17.toInt = (x3 + 1 : Int32).toInt := by rw [ey17]
          exact hk2 y17 T dT_0_0 hT ⟨(by clear hN2 hN n4 n5 kc3 n7; omega), (by clear hN2 hN n4 n5 kc3 n7; omega)⟩ (by clear n4 n5 kc3 n7; omega)
      · skip
        have n20 : (x3 + 1).toInt = x3.toInt + 1 := i_addK rfl (by decide) (by clear hN2 hN n4 n5; omega) (by clear hN2 hN n4 n5; omega)
        refine D_lt (fun y19 ey19 => ?_)
        have hy19 : y19.toInt = (x3 + 1 : Int32).toInt := by rw [ey19]
        exact hk2 y19 T dT_0_0 hT ⟨(by clear hN2 hN n4 n5; omega), (by clear hN2 hN n4 n5; omega)⟩ (by omega)
set_option maxHeartbeats 1000000 in
set_option maxRecDepth 100000 in
theorem t_X6_setFree (T : Tr) (P : Tr) (x1 : Int32) (x2 : Int32) (hT : iR BT T) (hP : iR BP P) : D (f_X6_setFree T P x1 x2) (fun (q : Tr) => (iR BT q) ∧ (q 0 0 = (T 0 0))) := by
  unfold f_X6_setFree
  have l0 : (0 : Int32).toInt = 0 := by decide
  have n21 := i_rng x1
  have n22 := i_rng x2
  exact tl_X6_setFree_L2 (T 0 0) P x1 x2 hP   2000 (0 : Int32) T rfl hT ⟨(by omega), (by omega)⟩ (by omega)
