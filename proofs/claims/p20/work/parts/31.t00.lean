-- 31.t00
set_option maxHeartbeats 1000000 in
set_option maxRecDepth 100000 in
theorem tl_X6_level_L13 (T : Tr) (x1 : Int32) (x2 : Int32) (hT : iR BT T) (hx1 : 0 ≤ x1.toInt ∧ x1.toInt ≤ 9) (hx2 : 0 ≤ x2.toInt ∧ x2.toInt ≤ 4) (hx2e : x2 = T 15 x1.toNatClampNeg)   (N : Nat) : ∀ (x3 : Int32), 0 ≤ x3.toInt ∧ x3.toInt ≤ 1000 → 1000 - x3.toInt < (N : Int) → D (lpF (fun _ => none) (fB_X6_level_L13 T x1 x2) N x3) (fun (q : Int32) => ((-1) ≤ q.toInt ∧ q.toInt ≤ 9) ∧ (0 ≤ q.toInt → q.toInt < (T 17 (T 15 x1.toNatClampNeg).toNatClampNeg).toInt) ∧ (0 ≤ q.toInt → 0 ≤ (T 15 x1.toNatClampNeg).toInt)) := by
  induction N with
  | zero =>
    intro x3 hx3 hN
    exfalso
    omega
  | succ N13 ih =>
    intro x3 hx3 hN
    have hk13 : ∀ (x3 : Int32), 0 ≤ x3.toInt ∧ x3.toInt ≤ 1000 → 1000 - x3.toInt < (N13 : Int) → D (lpF (fun _ => none) (fB_X6_level_L13 T x1 x2) N13 x3) (fun (q : Int32) => ((-1) ≤ q.toInt ∧ q.toInt ≤ 9) ∧ (0 ≤ q.toInt → q.toInt < (T 17 (T 15 x1.toNatClampNeg).toNatClampNeg).toInt) ∧ (0 ≤ q.toInt → 0 ≤ (T 15 x1.toNatClampNeg).toInt)) := ih
    show D (fB_X6_level_L13 T x1 x2 (lpF (fun _ => none) (fB_X6_level_L13 T x1 x2) N13) x3) _
    generalize lpF (fun _ => none) (fB_X6_level_L13 T x1 x2) N13 = k13 at hk13 ⊢
    have hN13 : 1000 - x3.toInt < (N13 : Int) + 1 := by omega
    clear ih
    unfold fB_X6_level_L13
    refine D_ck (okI_of (by clear hx1 hx3 hN13 hN; omega) (by clear hx1 hx3 hN13 hN; omega)) ?_
    have n5 : 0 ≤ (T 17 x2.toNatClampNeg).toInt ∧ (T 17 x2.toNatClampNeg).toInt ≤ 10 := hT 17 x2.toNatClampNeg
    refine D_ite (fun c4 => ?_) (fun c4 => ?_)
    · have kc4 := tq_le (x := (T 17 x2.toNatClampNeg)) (y := x3) rfl rfl c4
      have lm1 : ((-1) : Int32).toInt = (-1) := by decide
      exact D_some (show ((-1) ≤ ((-1) : Int32).toInt ∧ ((-1) : Int32).toInt ≤ 9) ∧ (0 ≤ ((-1) : Int32).toInt → ((-1) : Int32).toInt < (T 17 (T 15 x1.toNatClampNeg).toNatClampNeg).toInt) ∧ (0 ≤ ((-1) : Int32).toInt → 0 ≤ (T 15 x1.toNatClampNeg).toInt) from ⟨⟨(by clear hx1 hx2 hx3 hN13 hN n5 kc4; omega), (by clear hx1 hx2 hx3 hN13 hN n5 kc4; omega)⟩, (fun hz => by first | omega | (rw [← hx2e]; omega)), (fun hz => by first | omega | (rw [← hx2e]; omega))⟩)
    · have kc4 := tq_len (x := (T 17 x2.toNatClampNeg)) (y := x3) rfl rfl c4
      have n6 := i_mulR (a := x2) (b := (10 : Int32)) 10 (by decide) (by clear hx1 hx3 hN13 hN n5 kc4; omega) (by clear hx1 hx3 hN13 hN n5 kc4; omega)
      have n7 : ((x2 * 10) + x3).toInt = (x2 * 10).toInt + x3.toInt := i_addK rfl rfl (by clear hx1 hN13 hN; omega) (by clear hx1 hN13 hN; omega)
      refine D_ck (okI_of (by clear hx1 hN13 hN; omega) (by clear hx1 hN13 hN; omega)) ?_
      have n9 : 0 ≤ (T 16 ((x2 * 10) + x3).toNatClampNeg).toInt ∧ (T 16 ((x2 * 10) + x3).toNatClampNeg).toInt ≤ 9 := hT 16 (((x2 * 10) + x3).toNatClampNeg)
      refine D_ite (fun c8 => ?_) (fun c8 => ?_)
      · have kc8 := tq_eq (x := (T 16 ((x2 * 10) + x3).toNatClampNeg)) (y := x1) rfl rfl c8
        exact D_some (show ((-1) ≤ x3.toInt ∧ x3.toInt ≤ 9) ∧ (0 ≤ x3.toInt → x3.toInt < (T 17 (T 15 x1.toNatClampNeg).toNatClampNeg).toInt) ∧ (0 ≤ x3.toInt → 0 ≤ (T 15 x1.toNatClampNeg).toInt) from ⟨⟨(by clear hx1 hN13 hN n9 kc8; omega), (by clear hx1 hN13 hN n9 kc8; omega)⟩, (fun hz => by first | omega | (rw [← hx2e]; omega)), (fun hz => by first | omega | (rw [← hx2e]; omega))⟩)
      · skip
        have n11 : (x3 + 1).toInt = x3.toInt + 1 := i_addK rfl (by decide) (by clear hx1 hN13 hN n9; omega) (by clear hx1 hN13 hN n9; omega)
        refine D_lt (fun y10 ey10 => ?_)
        have hy10 : y10.toInt = (x3 + 1 : Int32).toInt := by rw [ey10]
        exact hk13 y10 ⟨(by clear hx1 hN13 hN n9; omega), (by clear hx1 hN13 hN n9; omega)⟩ (by omega)
set_option maxHeartbeats 1000000 in
set_option maxRecDepth 100000 in
theorem t_X6_level (T : Tr) (x1 : Int32) (hT : iR BT T) (hx1 : 0 ≤ x1.toInt ∧ x1.toInt ≤ 9) : D (f_X6_level T x1) (fun (q : Int32) => ((-1) ≤ q.toInt ∧ q.toInt ≤ 9) ∧ (0 ≤ q.toInt → q.toInt < (T 17 (T 15 x1.toNatClampNeg).toNatClampNeg).toInt) ∧ (0 ≤ q.toInt → 0 ≤ (T 15 x1.toNatClampNeg).toInt)) := by
  unfold f_X6_level
  refine D_ck (okI_of (by omega) (by omega)) ?_
  refine D_lt (fun y1 ey1 => ?_)
  have n2 : (-1) ≤ (T 15 x1.toNatClampNeg).toInt ∧ (T 15 x1.toNatClampNeg).toInt ≤ 4 := hT 15 x1.toNatClampNeg
  have hy1 : y1.toInt = (T 15 x1.toNatClampNeg).toInt := by rw [ey1]
  refine D_ite (fun c3 => ?_) (fun c3 => ?_)
  · have kc3 := tq_lt (x := y1) (y := (0 : Int32)) rfl (b := 0) (by decide) c3
    have lm1 : ((-1) : Int32).toInt = (-1) := by decide
    exact D_some (show ((-1) ≤ ((-1) : Int32).toInt ∧ ((-1) : Int32).toInt ≤ 9) ∧ (0 ≤ ((-1) : Int32).toInt → ((-1) : Int32).toInt < (T 17 (T 15 x1.toNatClampNeg).toNatClampNeg).toInt) ∧ (0 ≤ ((-1) : Int32).toInt → 0 ≤ (T 15 x1.toNatClampNeg).toInt) from ⟨⟨(by clear hx1 n2 hy1 kc3; omega), (by clear hx1 n2 hy1 kc3; omega)⟩, (fun hz => by first | omega | (rw [← hx2e]; omega)), (fun hz => by first | omega | (rw [← hx2e]; omega))⟩)
  · have kc3 := tq_ltn (x := y1) (y := (0 : Int32)) rfl (b := 0) (by decide) c3
    have l0 : (0 : Int32).toInt = 0 := by decide
    exact tl_X6_level_L13 T x1 y1 hT ⟨(by clear n2 hy1 kc3; omega), (by clear n2 hy1 kc3; omega)⟩ ⟨(by omega), (by omega)⟩ ey1   2000 (0 : Int32) ⟨(by clear hx1 n2 hy1 kc3; omega), (by clear hx1 n2 hy1 kc3; omega)⟩ (by clear hx1 n2 hy1 kc3; omega)
set_option maxHeartbeats 1000000 in
set_option maxRecDepth 100000 in
theorem t_X6_above (T : Tr) (x1 : Int32) (hT : iR BT T) (hx1 : 0 ≤ x1.toInt ∧ x1.toInt ≤ 9) : D (f_X6_above T x1) (fun (q : Int32) => True) := by
  unfold f_X6_above
  refine D_ck (okI_of (by omega) (by omega)) ?_
  refine D_lt (fun y1 ey1 => ?_)
  have n2 : (-1) ≤ (T 15 x1.toNatClampNeg).toInt ∧ (T 15 x1.toNatClampNeg).toInt ≤ 4 := hT 15 x1.toNatClampNeg
  have hy1 : y1.toInt = (T 15 x1.toNatClampNeg).toInt := by rw [ey1]
  refine D_ite (fun c3 => ?_) (fun c3 => ?_)
  · have kc3 := tq_le (x := (0 : Int32)) (y := y1) (a := 0) (by decide) rfl c3
    refine D_ck (okI_of (by omega) (by omega)) ?_
    refine D_bd (t_X6_level T x1 hT ⟨(by clear n2 hy1 kc3; omega), (by clear n2 hy1 kc3; omega)⟩) (fun r4 eq6 hq5 => ?_)
    obtain ⟨p7, p8, p9⟩ : ((-1) ≤ r4.toInt ∧ r4.toInt ≤ 9) ∧ (0 ≤ r4.toInt → r4.toInt < (T 17 (T 15 x1.toNatClampNeg).toNatClampNeg).toInt) ∧ (0 ≤ r4.toInt → 0 ≤ (T 15 x1.toNatClampNeg).toInt) := hq5
    have n10 : 0 ≤ (T 17 y1.toNatClampNeg).toInt ∧ (T 17 y1.toNatClampNeg).toInt ≤ 10 := hT 17 y1.toNatClampNeg
    have n11 : ((T 17 y1.toNatClampNeg) - 1).toInt = (T 17 y1.toNatClampNeg).toInt - 1 := i_subK rfl (by decide) (by clear hx1 n2 hy1 kc3 p7 p8 p9; omega) (by clear hx1 n2 hy1 kc3 p7 p8 p9; omega)
    have n12 : (((T 17 y1.toNatClampNeg) - 1) - r4).toInt = ((T 17 y1.toNatClampNeg) - 1).toInt - r4.toInt := i_subK rfl rfl (by omega) (by omega)
    exact D_some trivial
  · have kc3 := tq_len (x := (0 : Int32)) (y := y1) (a := 0) (by decide) rfl c3
    have l0 : (0 : Int32).toInt = 0 := by decide
    exact D_some trivial
set_option maxHeartbeats 1000000 in
set_option maxRecDepth 100000 in
theorem t_X6_top (T : Tr) (x1 : Int32) (hT : iR BT T) (hx1 : 0 ≤ x1.toInt ∧ x1.toInt ≤ 4) : D (f_X6_top T x1) (fun (q : Int32) => ((-1) ≤ q.toInt ∧ q.toInt ≤ 9)) := by
  unfold f_X6_top
  refine D_ck (okI_of (by omega) (by omega)) ?_
  have n2 : 0 ≤ (T 17 x1.toNatClampNeg).toInt ∧ (T 17 x1.toNatClampNeg).toInt ≤ 10 := hT 17 x1.toNatClampNeg
  refine D_ite (fun c1 => ?_) (fun c1 => ?_)
  · have kc1 := tq_eq (x := (T 17 x1.toNatClampNeg)) (y := (0 : Int32)) rfl (b := 0) (by decide) c1
    have lm1 : ((-1) : Int32).toInt = (-1) := by decide
    exact D_some (show ((-1) ≤ ((-1) : Int32).toInt ∧ ((-1) : Int32).toInt ≤ 9) from ⟨(by clear hx1 n2 kc1; omega), (by clear hx1 n2 kc1; omega)⟩)
  · have kc10 := tq_eqn (x := (T 17 x1.toNatClampNeg)) (y := (0 : Int32)) rfl (b := 0) (by decide) c1
    have kc1 : 1 ≤ (T 17 x1.toNatClampNeg).toInt := (by omega)
    clear kc10
    have n3 := i_mulR (a := x1) (b := (10 : Int32)) 10 (by decide) (by omega) (by omega)
    have n4 : ((x1 * 10) + (T 17 x1.toNatClampNeg)).toInt = (x1 * 10).toInt + (T 17 x1.toNatClampNeg).toInt := i_addK rfl rfl (by omega) (by omega)
    have n5 : (((x1 * 10) + (T 17 x1.toNatClampNeg)) - 1).toInt = ((x1 * 10) + (T 17 x1.toNatClampNeg)).toInt - 1 := i_subK rfl (by decide) (by omega) (by omega)
    refine D_ck (okI_of (by omega) (by omega)) ?_
    have n6 : 0 ≤ (T 16 (((x1 * 10) + (T 17 x1.toNatClampNeg)) - 1).toNatClampNeg).toInt ∧ (T 16 (((x1 * 10) + (T 17 x1.toNatClampNeg)) - 1).toNatClampNeg).toInt ≤ 9 := hT 16 ((((x1 * 10) + (T 17 x1.toNatClampNeg)) - 1).toNatClampNeg)
    exact D_some (show ((-1) ≤ (T 16 (((x1 * 10) + (T 17 x1.toNatClampNeg)) - 1).toNatClampNeg).toInt ∧ (T 16 (((x1 * 10) + (T 17 x1.toNatClampNeg)) - 1).toNatClampNeg).toInt ≤ 9) from ⟨(by clear hx1 n2 kc1 n3 n4 n5; omega), (by clear hx1 n2 kc1 n3 n4 n5; omega)⟩)
set_option maxHeartbeats 1000000 in
set_option maxRecDepth 100000 in
theorem t_X6_isRack (P : Tr) (x1 : Int32) (hP : iR BP P) (hx1 : 0 ≤ x1.toInt ∧ x1.toInt ≤ 4) : D (f_X6_isRack P x1) (fun (q : Int32) => (0 ≤ q.toInt ∧ q.toInt ≤ 1)) := by
  unfold f_X6_isRack
  refine D_ck (okI_of (by omega) (by omega)) ?_
  have n2 := i_rng (P 8 x1.toNatClampNeg)
  refine D_ite (fun c1 => ?_) (fun c1 => ?_)
  · have kc1 := tq_eq (x := (P 8 x1.toNatClampNeg)) (y := (0 : Int32)) rfl (b := 0) (by decide) c1
    have l1 : (1 : Int32).toInt = 1 := by decide
    exact D_some (show (0 ≤ (1 : Int32).toInt ∧ (1 : Int32).toInt ≤ 1) from ⟨(by clear hx1 n2 kc1; omega), (by clear hx1 n2 kc1; omega)⟩)
  · skip
    refine D_ite (fun c3 => ?_) (fun c3 => ?_)
    · have kc3 := tq_eq (x := (P 8 x1.toNatClampNeg)) (y := (1 : Int32)) rfl (b := 1) (by decide) c3
      have l1 : (1 : Int32).toInt = 1 := by decide
      exact D_some (show (0 ≤ (1 : Int32).toInt ∧ (1 : Int32).toInt ≤ 1) from ⟨(by clear hx1 n2 kc3; omega), (by clear hx1 n2 kc3; omega)⟩)
    · skip
      have l0 : (0 : Int32).toInt = 0 := by decide
      exact D_some (show (0 ≤ (0 : Int32).toInt ∧ (0 : Int32).toInt ≤ 1) from ⟨(by omega), (by omega)⟩)
set_option maxHeartbeats 1000000 in
set_option maxRecDepth 100000 in
theorem t_X1_joined (x0 : Int32) (x1 : Int64) (x3 : Int64)  : D (f_X1_joined x0 x1 x3) (fun (q : Int64) => True) := by
  unfold f_X1_joined
  have n1 := i_rng x0
  refine D_ite (fun c2 => ?_) (fun c2 => ?_)
  · have kc2 := tq_eq (x := x0) (y := (19 : Int32)) rfl (b := 19) (by decide) c2
    refine D_ite (fun c3 => ?_) (fun c3 => ?_)
    · skip
      refine D_ite (fun c4 => ?_) (fun c4 => ?_)
      · skip
        exact D_some trivial
      · skip
        exact D_some trivial
    · skip
      exact D_some trivial
  · skip
    refine D_ite (fun c5 => ?_) (fun c5 => ?_)
    · have kc5 := tq_eq (x := x0) (y := (20 : Int32)) rfl (b := 20) (by decide) c5
      refine D_ite (fun c6 => ?_) (fun c6 => ?_)
      · skip
        exact D_some trivial
      · skip
        refine D_ite (fun c7 => ?_) (fun c7 => ?_)
        · skip
          exact D_some trivial
        · skip
          exact D_some trivial
    · skip
      refine D_ite (fun c8 => ?_) (fun c8 => ?_)
      · have kc8 := tq_eq (x := x0) (y := (29 : Int32)) rfl (b := 29) (by decide) c8
        refine D_ite (fun c9 => ?_) (fun c9 => ?_)
        · skip
          exact D_some trivial
        · skip
          exact D_some trivial
      · skip
        refine D_ite (fun c10 => ?_) (fun c10 => ?_)
        · have kc10 := tq_eq (x := x0) (y := (30 : Int32)) rfl (b := 30) (by decide) c10
          refine D_ite (fun c11 => ?_) (fun c11 => ?_)
          · skip
            exact D_some trivial
          · skip
            exact D_some trivial
        · skip
          refine D_ite (fun c12 => ?_) (fun c12 => ?_)
          · have kc12 := tq_eq (x := x0) (y := (31 : Int32)) rfl (b := 31) (by decide) c12
            refine D_ite (fun c13 => ?_) (fun c13 => ?_)
            · skip
              exact D_some trivial
            · skip
              exact D_some trivial
          · skip
            refine D_ite (fun c14 => ?_) (fun c14 => ?_)
            · have kc14 := tq_eq (x := x0) (y := (32 : Int32)) rfl (b := 32) (by decide) c14
              refine D_ite (fun c15 => ?_) (fun c15 => ?_)
              · skip
                exact D_some trivial
              · skip
                exact D_some trivial
            · skip
              refine D_ite (fun c16 => ?_) (fun c16 => ?_)
              · have kc16 := tq_eq (x := x0) (y := (33 : Int32)) rfl (b := 33) (by decide) c16
                refine D_ite (fun c17 => ?_) (fun c17 => ?_)
                · skip
                  exact D_some trivial
                · skip
                  exact D_some trivial
              · skip
                refine D_ite (fun c18 => ?_) (fun c18 => ?_)
                · have kc18 := tq_eq (x := x0) (y := (34 : Int32)) rfl (b := 34) (by decide) c18
                  refine D_ite (fun c19 => ?_) (fun c19 => ?_)
                  · skip
                    exact D_some trivial
                  · skip
                    exact D_some trivial
                · skip
                  refine D_ite (fun c20 => ?_) (fun c20 => ?_)
                  · have kc20 := tq_eq (x := x0) (y := (35 : Int32)) rfl (b := 35) (by decide) c20
                    exact D_some trivial
                  · skip
                    refine D_ite (fun c21 => ?_) (fun c21 => ?_)
                    · have kc21 := tq_eq (x := x0) (y := (36 : Int32)) rfl (b := 36) (by decide) c21
                      exact D_some trivial
                    · skip
                      refine D_ite (fun c22 => ?_) (fun c22 => ?_)
                      · have kc22 := tq_eq (x := x0) (y := (37 : Int32)) rfl (b := 37) (by decide) c22
                        refine D_ite (fun c23 => ?_) (fun c23 => ?_)
                        · skip
                          exact D_some trivial
                        · skip
                          refine D_ite (fun c24 => ?_) (fun c24 => ?_)
                          · skip
                            unfold fJ_X1_joined_J231
                            refine D_ck (ok_nel (lg_ne0 (by assumption))) ?_
                            refine D_lt (fun y25 ey25 => ?_)
                            refine D_ite (fun c26 => ?_) (fun c26 => ?_)
                            · skip
                              exact D_some trivial
                            · skip
                              refine D_ite (fun c27 => ?_) (fun c27 => ?_)
                              · skip
                                exact D_some trivial
                              · skip
                                exact D_some trivial
                          · skip
                            unfold fJ_X1_joined_J231
                            refine D_ck (ok_nel (lg_neg0 (by assumption))) ?_
                            refine D_lt (fun y28 ey28 => ?_)
                            refine D_ite (fun c29 => ?_) (fun c29 => ?_)
                            · skip
                              exact D_some trivial
                            · skip
                              refine D_ite (fun c30 => ?_) (fun c30 => ?_)
                              · skip
                                exact D_some trivial
                              · skip
                                exact D_some trivial
                      · skip
                        refine D_ite (fun c31 => ?_) (fun c31 => ?_)
                        · skip
                          exact D_some trivial
                        · skip
                          refine D_ck (ok_nel (lg_ne0 (by assumption))) ?_
                          exact D_some trivial
set_option maxHeartbeats 1000000 in
set_option maxRecDepth 100000 in
theorem tl_X1_value_L4 (j : Nat) (T : Tr) (P : Tr) (hT : iR BT T) (hP : iR BP P) (hj : j < 3)   (N : Nat) : ∀ (x2 : Int32) (x3 : Int32) (L : Lo), 0 ≤ x2.toInt ∧ x2.toInt ≤ 1000 → 0 ≤ x3.toInt ∧ x3.toInt ≤ 1000 → x2.toInt ≤ x3.toInt → 1000 - x3.toInt < (N : Int) → D (lpF (fun _ _ _ => none) (fB_X1_value_L4 j T P) N x2 x3 L) (fun (q : Int64 × Lo) => True) := by
  induction N with
  | zero =>
    intro x2 x3 L hx2 hx3 hdi hN
    exfalso
    omega
  | succ N4 ih =>
    intro x2 x3 L hx2 hx3 hdi hN
    have hk4 : ∀ (x2 : Int32) (x3 : Int32) (L : Lo), 0 ≤ x2.toInt ∧ x2.toInt ≤ 1000 → 0 ≤ x3.toInt ∧ x3.toInt ≤ 1000 → x2.toInt ≤ x3.toInt → 1000 - x3.toInt < (N4 : Int) → D (lpF (fun _ _ _ => none) (fB_X1_value_L4 j T P) N4 x2 x3 L) (fun (q : Int64 × Lo) => True) := ih
    show D (fB_X1_value_L4 j T P (lpF (fun _ _ _ => none) (fB_X1_value_L4 j T P) N4) x2 x3 L) _
    generalize lpF (fun _ _ _ => none) (fB_X1_value_L4 j T P) N4 = k4 at hk4 ⊢
    have hN4 : 1000 - x3.toInt < (N4 : Int) + 1 := by omega
    clear ih
    unfold fB_X1_value_L4
    have n2 : 0 ≤ (P (30 + 3 * j) 1).toInt ∧ (P (30 + 3 * j) 1).toInt ≤ 64 := BP_law hP hj
    refine D_ite (fun c1 => ?_) (fun c1 => ?_)
    · have kc1 := tq_le (x := (P (30 + 3 * j) 1)) (y := x3) rfl rfl c1
      unfold fJ_X1_value_J190
      refine D_ite (fun c3 => ?_) (fun c3 => ?_)
      · have kc3 := tq_eq (x := x2) (y := (1 : Int32)) rfl (b := 1) (by decide) c3
        exact D_some trivial
      · skip
        exact D_some trivial
    · have kc1 := tq_len (x := (P (30 + 3 * j) 1)) (y := x3) rfl rfl c1
      refine D_ck (okI_of (by omega) (by omega)) ?_
      refine D_lt (fun y4 ey4 => ?_)
      have n5 := i_rng (P (31 + 3 * j) x3.toNatClampNeg)
      have hy4 : y4.toInt = (P (31 + 3 * j) x3.toNatClampNeg).toInt := by rw [ey4]
      refine D_lt (fun y6 ey6 => ?_)
      have n7 := i_rng (y4 - 10000)
      have hy6 : y6.toInt = (y4 - 10000).toInt := by rw [ey6]
      refine D_ite (fun c8 => ?_) (fun c8 => ?_)
      · have kc8 := tq_le (x := (0 : Int32)) (y := y6) (a := 0) (by decide) rfl c8
        refine D_ite (fun c9 => ?_) (fun c9 => ?_)
        · have kc9 := tq_lt (x := y6) (y := (22 : Int32)) rfl (b := 22) (by decide) c9
          unfold fJ_X1_value_J82
          refine D_ite (fun c10 => ?_) (fun c10 => ?_)
          · have kc10 := tq_eq (x := y6) (y := (21 : Int32)) rfl (b := 21) (by decide) c10
            refine D_ite (fun c11 => ?_) (fun c11 => ?_)
            · have kc11 := tq_lt (x := x2) (y := (1 : Int32)) rfl (b := 1) (by decide) c11
              unfold fJ_X1_value_J123
              refine D_ite (fun c12 => ?_) (fun c12 => ?_)
              · have kc12 := tq_lt (x := x2) (y := (2 : Int32)) rfl (b := 2) (by decide) c12
                have n14 : (x3 + 1).toInt = x3.toInt + 1 := i_addK rfl (by decide) (by clear hN4 hN n5 hy4 n7 hy6 kc8 kc9 kc10; omega) (by clear hN4 hN n5 hy4 n7 hy6 kc8 kc9 kc10; omega)
                refine D_lt (fun y13 ey13 => ?_)
                have hy13 : y13.toInt = (x3 + 1 : Int32).toInt := by rw [ey13]
                exact hk4 x2 y13 L ⟨(by clear hN4 hN n5 hy4 n7 hy6 kc8 kc9 kc10; omega), (by clear hN4 hN n5 hy4 n7 hy6 kc8 kc9 kc10; omega)⟩ ⟨(by clear hN4 hN n5 hy4 n7 hy6 kc8 kc9 kc10; omega), (by clear hN4 hN n5 hy4 n7 hy6 kc8 kc9 kc10; omega)⟩ (by clear hN4 hN n5 hy4 n7 hy6 kc8 kc9 kc10; omega) (by clear n5 hy4 n7 hy6 kc8 kc9 kc10; omega)
              · have kc12 := tq_ltn (x := x2) (y := (2 : Int32)) rfl (b := 2) (by decide) c12
                exfalso
                exact (by clear hN4 hN n5 hy4 n7 hy6 kc8 kc9 kc10; omega)
            · have kc11 := tq_ltn (x := x2) (y := (1 : Int32)) rfl (b := 1) (by decide) c11
              have n15 : (x2 - 1).toInt = x2.toInt - 1 := i_subK rfl (by decide) (by clear hN4 hN n5 hy4 n7 hy6 kc8 kc9 kc10; omega) (by clear hN4 hN n5 hy4 n7 hy6 kc8 kc9 kc10; omega)
              refine D_ck (okI_of (by clear hN4 hN n5 hy4 n7 hy6 kc8 kc9 kc10; omega) (by clear hN4 hN n5 hy4 n7 hy6 kc8 kc9 kc10; omega)) ?_
              refine D_ite (fun c16 => ?_) (fun c16 => ?_)
              · skip
                unfold fJ_X1_value_J119
                refine D_ck (okI_of (by clear hN4 hN n5 hy4 n7 hy6 kc8 kc9 kc10; omega) (by clear hN4 hN n5 hy4 n7 hy6 kc8 kc9 kc10; omega)) ?_
                refine D_lt (fun L_17 eL_17 => ?_)
                have n19 : (x3 + 1).toInt = x3.toInt + 1 := i_addK rfl (by decide) (by clear hN4 hN n5 hy4 n7 hy6 kc8 kc9 kc10; omega) (by clear hN4 hN n5 hy4 n7 hy6 kc8 kc9 kc10; omega)
                refine D_lt (fun y18 ey18 => ?_)
                have hy18 : y18.toInt = (x3 + 1 : Int32).toInt := by rw [ey18]
                exact hk4 x2 y18 L_17 ⟨(by clear hN4 hN n5 hy4 n7 hy6 kc8 kc9 kc10; omega), (by clear hN4 hN n5 hy4 n7 hy6 kc8 kc9 kc10; omega)⟩ ⟨(by clear hN4 hN n5 hy4 n7 hy6 kc8 kc9 kc10; omega), (by clear hN4 hN n5 hy4 n7 hy6 kc8 kc9 kc10; omega)⟩ (by clear hN4 hN n5 hy4 n7 hy6 kc8 kc9 kc10; omega) (by clear n5 hy4 n7 hy6 kc8 kc9 kc10; omega)
              · skip
                unfold fJ_X1_value_J119
                refine D_ck (okI_of (by clear hN4 hN n5 hy4 n7 hy6 kc8 kc9 kc10; omega) (by clear hN4 hN n5 hy4 n7 hy6 kc8 kc9 kc10; omega)) ?_
                refine D_lt (fun L_20 eL_20 => ?_)
                have n22 : (x3 + 1).toInt = x3.toInt + 1 := i_addK rfl (by decide) (by clear hN4 hN n5 hy4 n7 hy6 kc8 kc9 kc10; omega) (by clear hN4 hN n5 hy4 n7 hy6 kc8 kc9 kc10; omega)
                refine D_lt (fun y21 ey21 => ?_)
                have hy21 : y21.toInt = (x3 + 1 : Int32).toInt := by rw [ey21]
                exact hk4 x2 y21 L_20 ⟨(by clear hN4 hN n5 hy4 n7 hy6 kc8 kc9 kc10; omega), (by clear hN4 hN n5 hy4 n7 hy6 kc8 kc9 kc10; omega)⟩ ⟨(by clear hN4 hN n5 hy4 n7 hy6 kc8 kc9 kc10; omega), (by clear hN4 hN n5 hy4 n7 hy6 kc8 kc9 kc10; omega)⟩ (by clear hN4 hN n5 hy4 n7 hy6 kc8 kc9 kc10; omega) (by clear n5 hy4 n7 hy6 kc8 kc9 kc10; omega)
          · have kc100 := tq_eqn (x := y6) (y := (21 : Int32)) rfl (b := 21) (by decide) c10
            have kc10 : y6.toInt ≤ 20 := (by clear hx2 hx3 hdi hN4 hN n2 kc1 n5 hy4; omega)
            clear kc100
            unfold fJ_X1_value_J123
            refine D_ite (fun c23 => ?_) (fun c23 => ?_)
            · have kc23 := tq_lt (x := x2) (y := (2 : Int32)) rfl (b := 2) (by decide) c23
              have n25 : (x3 + 1).toInt = x3.toInt + 1 := i_addK rfl (by decide) (by clear hN4 hN n5 hy4 n7 hy6 kc8 kc9 kc10; omega) (by clear hN4 hN n5 hy4 n7 hy6 kc8 kc9 kc10; omega)
              refine D_lt (fun y24 ey24 => ?_)
              have hy24 : y24.toInt = (x3 + 1 : Int32).toInt := by rw [ey24]
              exact hk4 x2 y24 L ⟨(by clear hN4 hN n5 hy4 n7 hy6 kc8 kc9 kc10; omega), (by clear hN4 hN n5 hy4 n7 hy6 kc8 kc9 kc10; omega)⟩ ⟨(by clear hN4 hN n5 hy4 n7 hy6 kc8 kc9 kc10; omega), (by clear hN4 hN n5 hy4 n7 hy6 kc8 kc9 kc10; omega)⟩ (by clear hN4 hN n5 hy4 n7 hy6 kc8 kc9 kc10; omega) (by clear n5 hy4 n7 hy6 kc8 kc9 kc10; omega)
            · have kc23 := tq_ltn (x := x2) (y := (2 : Int32)) rfl (b := 2) (by decide) c23
              have n27 : (x2 + (-1)).toInt = x2.toInt + (-1) := i_addK rfl (by decide) (by clear hN4 hN n5 hy4 n7 hy6 kc8 kc9 kc10; omega) (by clear hN4 hN n5 hy4 n7 hy6 kc8 kc9 kc10; omega)
              refine D_lt (fun y26 ey26 => ?_)
              have hy26 : y26.toInt = (x2 + (-1) : Int32).toInt := by rw [ey26]
              have n28 : (y26 - 1).toInt = y26.toInt - 1 := i_subK rfl (by decide) (by clear hN4 hN n5 hy4 n7 hy6 kc8 kc9 kc10; omega) (by clear hN4 hN n5 hy4 n7 hy6 kc8 kc9 kc10; omega)
              refine D_ck (okI_of (by clear hN4 hN n5 hy4 n7 hy6 kc8 kc9 kc10; omega) (by clear hN4 hN n5 hy4 n7 hy6 kc8 kc9 kc10; omega)) ?_
              refine D_ck (okI_of (by clear hN4 hN n5 hy4 n7 hy6 kc8 kc9 kc10; omega) (by clear hN4 hN n5 hy4 n7 hy6 kc8 kc9 kc10; omega)) ?_
              refine D_bd (t_X1_joined y6 (L (32 + 3 * j) (y26 - 1).toNatClampNeg) (L (32 + 3 * j) y26.toNatClampNeg) ) (fun r29 eq31 hq30 => ?_)
              refine D_ite (fun c32 => ?_) (fun c32 => ?_)
              · skip
                exact D_some trivial
              · skip
                refine D_ite (fun c33 => ?_) (fun c33 => ?_)
                · skip
                  refine D_lt (fun L_34 eL_34 => ?_)
                  have n36 : (x3 + 1).toInt = x3.toInt + 1 := i_addK rfl (by decide) (by clear hN4 hN n5 hy4 n7 hy6 kc8 kc9 kc10; omega) (by clear hN4 hN n5 hy4 n7 hy6 kc8 kc9 kc10; omega)
                  refine D_lt (fun y35 ey35 => ?_)
                  have hy35 : y35.toInt = (x3 + 1 : Int32).toInt := by rw [ey35]
                  exact hk4 y26 y35 L_34 ⟨(by clear hN4 hN n5 hy4 n7 hy6 kc8 kc9 kc10; omega), (by clear hN4 hN n5 hy4 n7 hy6 kc8 kc9 kc10; omega)⟩ ⟨(by clear hN4 hN n5 hy4 n7 hy6 kc8 kc9 kc10; omega), (by clear hN4 hN n5 hy4 n7 hy6 kc8 kc9 kc10; omega)⟩ (by clear hN4 hN n5 hy4 n7 hy6 kc8 kc9 kc10; omega) (by clear n5 hy4 n7 hy6 kc8 kc9 kc10; omega)
                · skip
                  exact D_some trivial
        · have kc9 := tq_ltn (x := y6) (y := (22 : Int32)) rfl (b := 22) (by decide) c9
          refine D_ite (fun c37 => ?_) (fun c37 => ?_)
          · have kc37 := tq_lt (x := (28 : Int32)) (y := y6) (a := 28) (by decide) rfl c37
            unfold fJ_X1_value_J82
            refine D_ite (fun c38 => ?_) (fun c38 => ?_)
            · have kc38 := tq_eq (x := y6) (y := (21 : Int32)) rfl (b := 21) (by decide) c38
              exfalso
              exact (by clear hx2 hx3 hdi hN4 hN n2 kc1 n5 hy4; omega)
            · skip
              unfold fJ_X1_value_J123
              refine D_ite (fun c39 => ?_) (fun c39 => ?_)
              · have kc39 := tq_lt (x := x2) (y := (2 : Int32)) rfl (b := 2) (by decide) c39
                have n41 : (x3 + 1).toInt = x3.toInt + 1 := i_addK rfl (by decide) (by clear hN4 hN n5 hy4 n7 hy6 kc8 kc9 kc37; omega) (by clear hN4 hN n5 hy4 n7 hy6 kc8 kc9 kc37; omega)
                refine D_lt (fun y40 ey40 => ?_)
                have hy40 : y40.toInt = (x3 + 1 : Int32).toInt := by rw [ey40]
                exact hk4 x2 y40 L ⟨(by clear hN4 hN n5 hy4 n7 hy6 kc8 kc9 kc37; omega), (by clear hN4 hN n5 hy4 n7 hy6 kc8 kc9 kc37; omega)⟩ ⟨(by clear hN4 hN n5 hy4 n7 hy6 kc8 kc9 kc37; omega), (by clear hN4 hN n5 hy4 n7 hy6 kc8 kc9 kc37; omega)⟩ (by clear hN4 hN n5 hy4 n7 hy6 kc8 kc9 kc37; omega) (by clear n5 hy4 n7 hy6 kc8 kc9 kc37; omega)
              · have kc39 := tq_ltn (x := x2) (y := (2 : Int32)) rfl (b := 2) (by decide) c39
                have n43 : (x2 + (-1)).toInt = x2.toInt + (-1) := i_addK rfl (by decide) (by clear hN4 hN n5 hy4 n7 hy6 kc8 kc9 kc37; omega) (by clear hN4 hN n5 hy4 n7 hy6 kc8 kc9 kc37; omega)
                refine D_lt (fun y42 ey42 => ?_)
                have hy42 : y42.toInt = (x2 + (-1) : Int32).toInt := by rw [ey42]
                have n44 : (y42 - 1).toInt = y42.toInt - 1 := i_subK rfl (by decide) (by clear hN4 hN n5 hy4 n7 hy6 kc8 kc9 kc37; omega) (by clear hN4 hN n5 hy4 n7 hy6 kc8 kc9 kc37; omega)
                refine D_ck (okI_of (by clear hN4 hN n5 hy4 n7 hy6 kc8 kc9 kc37; omega) (by clear hN4 hN n5 hy4 n7 hy6 kc8 kc9 kc37; omega)) ?_
                refine D_ck (okI_of (by clear hN4 hN n5 hy4 n7 hy6 kc8 kc9 kc37; omega) (by clear hN4 hN n5 hy4 n7 hy6 kc8 kc9 kc37; omega)) ?_
                refine D_bd (t_X1_joined y6 (L (32 + 3 * j) (y42 - 1).toNatClampNeg) (L (32 + 3 * j) y42.toNatClampNeg) ) (fun r45 eq47 hq46 => ?_)
                refine D_ite (fun c48 => ?_) (fun c48 => ?_)
                · skip
                  exact D_some trivial
                · skip
                  refine D_ite (fun c49 => ?_) (fun c49 => ?_)
                  · skip
                    refine D_lt (fun L_50 eL_50 => ?_)
                    have n52 : (x3 + 1).toInt = x3.toInt + 1 := i_addK rfl (by decide) (by clear hN4 hN n5 hy4 n7 hy6 kc8 kc9 kc37; omega) (by clear hN4 hN n5 hy4 n7 hy6 kc8 kc9 kc37; omega)
                    refine D_lt (fun y51 ey51 => ?_)
                    have hy51 : y51.toInt = (x3 + 1 : Int32).toInt := by rw [ey51]
                    exact hk4 y42 y51 L_50 ⟨(by clear hN4 hN n5 hy4 n7 hy6 kc8 kc9 kc37; omega), (by clear hN4 hN n5 hy4 n7 hy6 kc8 kc9 kc37; omega)⟩ ⟨(by clear hN4 hN n5 hy4 n7 hy6 kc8 kc9 kc37; omega), (by clear hN4 hN n5 hy4 n7 hy6 kc8 kc9 kc37; omega)⟩ (by clear hN4 hN n5 hy4 n7 hy6 kc8 kc9 kc37; omega) (by clear n5 hy4 n7 hy6 kc8 kc9 kc37; omega)
                  · skip
                    exact D_some trivial
          · have kc37 := tq_ltn (x := (28 : Int32)) (y := y6) (a := 28) (by decide) rfl c37
            have n53 : (y6 - 22).toInt = y6.toInt - 22 := i_subK rfl (by decide) (by clear hx2 hx3 hdi hN4 hN n2 kc1 n5 hy4; omega) (by clear hx2 hx3 hdi hN4 hN n2 kc1 n5 hy4; omega)
            refine D_ck (okI_of (by clear hx2 hx3 hdi hN4 hN n2 kc1 n5 hy4; omega) (by clear hx2 hx3 hdi hN4 hN n2 kc1 n5 hy4; omega)) ?_
            refine D_ck (okI_of (by clear hN4 hN n5 hy4 n7 hy6 kc8 kc9 kc37 n53; omega) (by clear hN4 hN n5 hy4 n7 hy6 kc8 kc9 kc37 n53; omega)) ?_
            refine D_lt (fun L_54 eL_54 => ?_)
            have n56 : (x2 + 1).toInt = x2.toInt + 1 := i_addK rfl (by decide) (by clear hN4 hN n5 hy4 n7 hy6 kc8 kc9 kc37 n53; omega) (by clear hN4 hN n5 hy4 n7 hy6 kc8 kc9 kc37 n53; omega)
            refine D_lt (fun y55 ey55 => ?_)
            have hy55 : y55.toInt = (x2 + 1 : Int32).toInt := by rw [ey55]
            have n58 : (x3 + 1).toInt = x3.toInt + 1 := i_addK rfl (by decide) (by clear hN4 hN n5 hy4 n7 hy6 kc8 kc9 kc37 n53; omega) (by clear hN4 hN n5 hy4 n7 hy6 kc8 kc9 kc37 n53; omega)
            refine D_lt (fun y57 ey57 => ?_)
            have hy57 : y57.toInt = (x3 + 1 : Int32).toInt := by rw [ey57]
            exact hk4 y55 y57 L_54 ⟨(by clear hN4 hN n5 hy4 n7 hy6 kc8 kc9 kc37 n53; omega), (by clear hN4 hN n5 hy4 n7 hy6 kc8 kc9 kc37 n53; omega)⟩ ⟨(by clear hN4 hN n5 hy4 n7 hy6 kc8 kc9 kc37 n53; omega), (by clear hN4 hN n5 hy4 n7 hy6 kc8 kc9 kc37 n53; omega)⟩ (by clear hN4 hN n5 hy4 n7 hy6 kc8 kc9 kc37 n53; omega) (by clear n5 hy4 n7 hy6 kc8 kc9 kc37 n53; omega)
      · have kc8 := tq_len (x := (0 : Int32)) (y := y6) (a := 0) (by decide) rfl c8
        refine D_ck (okI_of (by clear hN4 hN n5 hy4 n7 hy6 kc8; omega) (by clear hN4 hN n5 hy4 n7 hy6 kc8; omega)) ?_
        refine D_lt (fun L_59 eL_59 => ?_)
        have n61 : (x2 + 1).toInt = x2.toInt + 1 := i_addK rfl (by decide) (by clear hN4 hN n5 hy4 n7 hy6 kc8; omega) (by clear hN4 hN n5 hy4 n7 hy6 kc8; omega)
        refine D_lt (fun y60 ey60 => ?_)
        have hy60 : y60.toInt = (x2 + 1 : Int32).toInt := by rw [ey60]
        have n63 : (x3 + 1).toInt = x3.toInt + 1 := i_addK rfl (by decide) (by clear hN4 hN n5 hy4 n7 hy6 kc8; omega) (by clear hN4 hN n5 hy4 n7 hy6 kc8; omega)
        refine D_lt (fun y62 ey62 => ?_)
        have hy62 : y62.toInt = (x3 + 1 : Int32).toInt := by rw [ey62]
        exact hk4 y60 y62 L_59 ⟨(by clear hN4 hN n5 hy4 n7 hy6 kc8; omega), (by clear hN4 hN n5 hy4 n7 hy6 kc8; omega)⟩ ⟨(by clear hN4 hN n5 hy4 n7 hy6 kc8; omega), (by clear hN4 hN n5 hy4 n7 hy6 kc8; omega)⟩ (by clear hN4 hN n5 hy4 n7 hy6 kc8; omega) (by clear n5 hy4 n7 hy6 kc8; omega)
set_option maxHeartbeats 1000000 in
set_option maxRecDepth 100000 in
theorem t_X1_value (j : Nat) (T : Tr) (P : Tr) (L : Lo) (hT : iR BT T) (hP : iR BP P) (hj : j < 3) : D (f_X1_value j T P L) (fun (q : Int64 × Lo) => True) := by
  unfold f_X1_value
  have l0 : (0 : Int32).toInt = 0 := by decide
  exact tl_X1_value_L4 j T P hT hP hj   2000 (0 : Int32) (0 : Int32) L ⟨(by omega), (by omega)⟩ ⟨(by omega), (by omega)⟩ (by omega) (by omega)
set_option maxHeartbeats 1000000 in
set_option maxRecDepth 100000 in
theorem t_X6_worked (T : Tr) (P : Tr) (L : Lo) (x1 : Int32) (x2 : Int32) (x3 : Int32) (hT : iR BT T) (hP : iR BP P) (hx1 : 0 ≤ x1.toInt ∧ x1.toInt ≤ 2) (hx2 : 0 ≤ x2.toInt ∧ x2.toInt ≤ 9) : D (f_X6_worked T P L x1 x2 x3) (fun (q : Int64 × Tr × Lo) => (iR BT (q.2.1)) ∧ ((q.2.1) 0 0 = (T 0 0))) := by
  unfold f_X6_worked
  refine D_ck (okI_of (by omega) (by omega)) ?_
  refine D_lt (fun y1 ey1 => ?_)
  have n2 : (-1) ≤ (T 15 x2.toNatClampNeg).toInt ∧ (T 15 x2.toNatClampNeg).toInt ≤ 4 := hT 15 x2.toNatClampNeg
  have hy1 : y1.toInt = (T 15 x2.toNatClampNeg).toInt := by rw [ey1]
  refine D_ck (okI_of (by clear hx2 n2 hy1; omega) (by clear hx2 n2 hy1; omega)) ?_
  have w3 : x1.toNatClampNeg < 3 := i_n (by clear hx2 n2 hy1; omega) (by clear hx2 n2 hy1; omega)
  have n5 : 0 ≤ (P (30 + 3 * x1.toNatClampNeg) 1).toInt ∧ (P (30 + 3 * x1.toNatClampNeg) 1).toInt ≤ 64 := BP_law hP w3
  refine D_ite (fun c4 => ?_) (fun c4 => ?_)
  · have kc4 := tq_eq (x := (P (30 + 3 * x1.toNatClampNeg) 1)) (y := (0 : Int32)) rfl (b := 0) (by decide) c4
    exact D_some (show (iR BT T) ∧ (T 0 0 = (T 0 0)) from ⟨hT, rfl⟩)
  · have kc40 := tq_eqn (x := (P (30 + 3 * x1.toNatClampNeg) 1)) (y := (0 : Int32)) rfl (b := 0) (by decide) c4
    have kc4 : 1 ≤ (P (30 + 3 * x1.toNatClampNeg) 1).toInt := (by clear hx1 hx2 n2 hy1; omega)
    clear kc40
    refine D_ite (fun c6 => ?_) (fun c6 => ?_)
    · have kc6 := tq_le (x := (0 : Int32)) (y := y1) (a := 0) (by decide) rfl c6
      refine D_lt (fun T_7 eT_7 => ?_)
      have hT_7 : iR BT T_7 := by rw [eT_7]; exact iR_setU hT rfl
      have kT_0_0_t8 : T_7 0 0 = (T 0 0) := by rw [eT_7]; exact rfl
      refine D_lt (fun T_9 eT_9 => ?_)
      have hT_9 : iR BT T_9 := by rw [eT_9]; exact iR_setU hT_7 rfl
      have kT_0_0_t10 : T_9 0 0 = (T 0 0) := by rw [eT_9]; exact kT_0_0_t8
      refine D_ck (okI_of (by clear hx1 hx2 n5 kc4; omega) (by clear hx1 hx2 n5 kc4; omega)) ?_
      refine D_bd (t_X6_level T_9 x2 hT_9 ⟨(by clear hx1 n2 hy1 n5 kc4 kc6; omega), (by clear hx1 n2 hy1 n5 kc4 kc6; omega)⟩) (fun r11 eq13 hq12 => ?_)
      obtain ⟨p14, p15, p16⟩ : ((-1) ≤ r11.toInt ∧ r11.toInt ≤ 9) ∧ (0 ≤ r11.toInt → r11.toInt < (T_9 17 (T_9 15 x2.toNatClampNeg).toNatClampNeg).toInt) ∧ (0 ≤ r11.toInt → 0 ≤ (T_9 15 x2.toNatClampNeg).toInt) := hq12
      refine D_lt (fun T_17 eT_17 => ?_)
      have hT_17 : iR BT T_17 := by rw [eT_17]; exact iR_setU hT_9 rfl
      have kT_0_0_t18 : T_17 0 0 = (T 0 0) := by rw [eT_17]; exact kT_0_0_t10
      refine D_lt (fun T_19 eT_19 => ?_)
      have hT_19 : iR BT T_19 := by rw [eT_19]; exact iR_setU hT_17 rfl
      have kT_0_0_t20 : T_19 0 0 = (T 0 0) := by rw [eT_19]; exact kT_0_0_t18
      refine D_lt (fun T_21 eT_21 => ?_)
      have hT_21 : iR BT T_21 := by rw [eT_21]; exact iR_setU hT_19 rfl
      have kT_0_0_t22 : T_21 0 0 = (T 0 0) := by rw [eT_21]; exact kT_0_0_t20
      refine D_lt (fun T_23 eT_23 => ?_)
      have hT_23 : iR BT T_23 := by rw [eT_23]; exact iR_setU hT_21 rfl
      have kT_0_0_t24 : T_23 0 0 = (T 0 0) := by rw [eT_23]; exact kT_0_0_t22
      refine D_lt (fun T_25 eT_25 => ?_)
      have hT_25 : iR BT T_25 := by rw [eT_25]; exact iR_setU hT_23 rfl
      have kT_0_0_t26 : T_25 0 0 = (T 0 0) := by rw [eT_25]; exact kT_0_0_t24
      refine D_bd2 (t_X1_value x1.toNatClampNeg T_25 P L hT_25 hP w3) (fun r27 L_28 eq30 hq29 => ?_)
      refine D_lte (y := r27) rfl ?_
      refine D_lte (y := L_28) rfl ?_
      exact D_some (show (iR BT T_25) ∧ (T_25 0 0 = (T 0 0)) from ⟨hT_25, kT_0_0_t26⟩)
    · have kc6 := tq_len (x := (0 : Int32)) (y := y1) (a := 0) (by decide) rfl c6
      exact D_some (show (iR BT T) ∧ (T 0 0 = (T 0 0)) from ⟨hT, rfl⟩)
set_option maxHeartbeats 1000000 in
set_option maxRecDepth 100000 in
theorem t_X6_within (x0 : Int64) (x2 : Int32)  : D (f_X6_within x0 x2) (fun (q : Int32) => True) := by
  unfold f_X6_within
  refine D_ite (fun c1 => ?_) (fun c1 => ?_)
  · skip
    refine D_ite (fun c2 => ?_) (fun c2 => ?_)
    · skip
      have n3 := i_rng x0.toInt32
      exact D_some trivial
    · skip
      have n4 := i_rng x2
      exact D_some trivial
  · skip
    have l0 : (0 : Int32).toInt = 0 := by decide
    exact D_some trivial
set_option maxHeartbeats 1000000 in
set_option maxRecDepth 100000 in
theorem t_X6_fallPercent (T : Tr) (P : Tr) (L : Lo) (x1 : Int32) (hT : iR BT T) (hP : iR BP P) (hx1 : 0 ≤ x1.toInt ∧ x1.toInt ≤ 9) : D (f_X6_fallPercent T P L x1) (fun (q : Int32 × Tr × Lo) => (iR BT (q.2.1)) ∧ ((q.2.1) 0 0 = (T 0 0))) := by
  unfold f_X6_fallPercent
  refine D_ck (okI_of (by omega) (by omega)) ?_
  have n1 : 0 ≤ (P 14 x1.toNatClampNeg).toInt ∧ (P 14 x1.toNatClampNeg).toInt ≤ 5 := hP 14 x1.toNatClampNeg
  refine D_ck (okI_of (by omega) (by omega)) ?_
  have l1 : (1 : Int32).toInt = 1 := by decide
  have n2 := i_rng (T 10 (P 14 x1.toNatClampNeg).toNatClampNeg)
  refine D_bd3 (t_X6_worked T P L (1 : Int32) x1 (T 10 (P 14 x1.toNatClampNeg).toNatClampNeg) hT hP ⟨(by clear hx1 n1 n2; omega), (by clear hx1 n1 n2; omega)⟩ ⟨(by omega), (by omega)⟩) (fun r3 T_4 L_5 eq7 hq6 => ?_)
  refine D_lte (y := r3) rfl ?_
  refine D_lte (y := T_4) rfl ?_
  refine D_lte (y := L_5) rfl ?_
  obtain ⟨p8, p9⟩ : (iR BT T_4) ∧ (T_4 0 0 = (T 0 0)) := hq6
  have k10 : T_4 0 0 = (T 0 0) := p9
  refine D_ite (fun c11 => ?_) (fun c11 => ?_)
  · skip
    refine D_bd (t_X6_level T_4 x1 p8 ⟨(by omega), (by omega)⟩) (fun r12 eq14 hq13 => ?_)
    obtain ⟨p15, p16, p17⟩ : ((-1) ≤ r12.toInt ∧ r12.toInt ≤ 9) ∧ (0 ≤ r12.toInt → r12.toInt < (T_4 17 (T_4 15 x1.toNatClampNeg).toNatClampNeg).toInt) ∧ (0 ≤ r12.toInt → 0 ≤ (T_4 15 x1.toNatClampNeg).toInt) := hq13
    unfold fJ_X6_fallPercent_J57
    have l100 : (100 : Int32).toInt = 100 := by decide
    refine D_bd (t_X6_within ((((T_4 0 4) + ((10 : Int32) * r12)) - (P 15 x1.toNatClampNeg)).toInt64) (100 : Int32) ) (fun r18 eq20 hq19 => ?_)
    have n21 := i_rng r18
    exact D_some (show (iR BT T_4) ∧ (T_4 0 0 = (T 0 0)) from ⟨p8, k10⟩)
  · skip
    unfold fJ_X6_fallPercent_J57
    have l100 : (100 : Int32).toInt = 100 := by decide
    refine D_bd (t_X6_within r3 (100 : Int32) ) (fun r22 eq24 hq23 => ?_)
    have n25 := i_rng r22
    exact D_some (show (iR BT T_4) ∧ (T_4 0 0 = (T 0 0)) from ⟨p8, k10⟩)
set_option maxHeartbeats 1000000 in
set_option maxRecDepth 100000 in
theorem t_X6_happens (T : Tr) (x1 : Int32) (hT : iR BT T) : D (f_X6_happens T x1) (fun (q : Int32 × Tr) => (0 ≤ (q.1).toInt ∧ (q.1).toInt ≤ 1) ∧ (iR BT (q.2)) ∧ ((q.2) 0 0 = (T 0 0))) := by
  unfold f_X6_happens
  have n2 := i_rng (T 0 5)
  refine D_ite (fun c1 => ?_) (fun c1 => ?_)
  · have kc1 := tq_eq (x := (T 0 5)) (y := (0 : Int32)) rfl (b := 0) (by decide) c1
    have n4 := i_rng x1
    refine D_ite (fun c3 => ?_) (fun c3 => ?_)
    · have kc3 := tq_lt (x := x1) (y := (50 : Int32)) rfl (b := 50) (by decide) c3
      have l0 : (0 : Int32).toInt = 0 := by decide
      exact D_some (show (0 ≤ (0 : Int32).toInt ∧ (0 : Int32).toInt ≤ 1) ∧ (iR BT T) ∧ (T 0 0 = (T 0 0)) from ⟨⟨(by clear n2 kc1 n4 kc3; omega), (by clear n2 kc1 n4 kc3; omega)⟩, hT, rfl⟩)
    · have kc3 := tq_ltn (x := x1) (y := (50 : Int32)) rfl (b := 50) (by decide) c3
      have l1 : (1 : Int32).toInt = 1 := by decide
      exact D_some (show (0 ≤ (1 : Int32).toInt ∧ (1 : Int32).toInt ≤ 1) ∧ (iR BT T) ∧ (T 0 0 = (T 0 0)) from ⟨⟨(by clear n2 kc1 n4 kc3; omega), (by clear n2 kc1 n4 kc3; omega)⟩, hT, rfl⟩)
  · skip
    refine D_lt (fun T_5 eT_5 => ?_)
    have hT_5 : iR BT T_5 := by rw [eT_5]; exact iR_setU hT rfl
    have kT_0_0_t6 : T_5 0 0 = (T 0 0) := by rw [eT_5]; exact rfl
    have n7 : (T_5 0 5).toInt = (T 0 5).toInt := by rw [eT_5]; rfl
    have n9 := i_rng x1
    have n10 := i_rng ((((T_5 0 2).toUInt32 >>> ((16 : Int32).toUInt32 &&& Int32.toUInt32 31)).toInt32) - (((T_5 0 2).toUInt32 >>> ((16 : Int32).toUInt32 &&& Int32.toUInt32 31)).toInt32) / 100 * 100)
    refine D_ite (fun c8 => ?_) (fun c8 => ?_)
    · have kc8 := tq_le (x := x1) (y := ((((T_5 0 2).toUInt32 >>> ((16 : Int32).toUInt32 &&& Int32.toUInt32 31)).toInt32) - (((T_5 0 2).toUInt32 >>> ((16 : Int32).toUInt32 &&& Int32.toUInt32 31)).toInt32) / 100 * 100)) rfl rfl c8
      have l0 : (0 : Int32).toInt = 0 := by decide
      exact D_some (show (0 ≤ (0 : Int32).toInt ∧ (0 : Int32).toInt ≤ 1) ∧ (iR BT T_5) ∧ (T_5 0 0 = (T 0 0)) from ⟨⟨(by clear n2 n7 n9 n10 kc8; omega), (by clear n2 n7 n9 n10 kc8; omega)⟩, hT_5, kT_0_0_t6⟩)
    · have kc8 := tq_len (x := x1) (y := ((((T_5 0 2).toUInt32 >>> ((16 : Int32).toUInt32 &&& Int32.toUInt32 31)).toInt32) - (((T_5 0 2).toUInt32 >>> ((16 : Int32).toUInt32 &&& Int32.toUInt32 31)).toInt32) / 100 * 100)) rfl rfl c8
      have l1 : (1 : Int32).toInt = 1 := by decide
      exact D_some (show (0 ≤ (1 : Int32).toInt ∧ (1 : Int32).toInt ≤ 1) ∧ (iR BT T_5) ∧ (T_5 0 0 = (T 0 0)) from ⟨⟨(by clear n2 n7 n9 n10 kc8; omega), (by clear n2 n7 n9 n10 kc8; omega)⟩, hT_5, kT_0_0_t6⟩)
set_option maxHeartbeats 1000000 in
set_option maxRecDepth 100000 in
theorem tl_X6_takeAway_L22 (zT_0_0 : Int32) (P : Tr) (x1 : Int32) (x2 : Int32) (x4 : Int32) (hP : iR BP P) (hx1 : 0 ≤ x1.toInt ∧ x1.toInt ≤ 9) (hx4 : 0 ≤ x4.toInt ∧ x4.toInt ≤ 4)   (N : Nat) : ∀ (x5 : Int32) (T : Tr), T 0 0 = zT_0_0 → iR BT T → 0 ≤ x5.toInt ∧ x5.toInt ≤ 1000 → x5.toInt + 1 ≤ (T 17 x4.toNatClampNeg).toInt → 1000 - x5.toInt < (N : Int) → D (lpF (fun _ _ => none) (fB_X6_takeAway_L22 P x1 x2 x4) N x5 T) (fun (q : Tr) => (iR BT q) ∧ (q 0 0 = zT_0_0)) := by
  induction N with
  | zero =>
    intro x5 T dT_0_0 hT hx5 hlv hN
    exfalso
    omega
  | succ N22 ih =>
    intro x5 T dT_0_0 hT hx5 hlv hN
    have hk22 : ∀ (x5 : Int32) (T : Tr), T 0 0 = zT_0_0 → iR BT T → 0 ≤ x5.toInt ∧ x5.toInt ≤ 1000 → x5.toInt + 1 ≤ (T 17 x4.toNatClampNeg).toInt → 1000 - x5.toInt < (N22 : Int) → D (lpF (fun _ _ => none) (fB_X6_takeAway_L22 P x1 x2 x4) N22 x5 T) (fun (q : Tr) => (iR BT q) ∧ (q 0 0 = zT_0_0)) := ih
    show D (fB_X6_takeAway_L22 P x1 x2 x4 (lpF (fun _ _ => none) (fB_X6_takeAway_L22 P x1 x2 x4) N22) x5 T) _
    generalize lpF (fun _ _ => none) (fB_X6_takeAway_L22 P x1 x2 x4) N22 = k22 at hk22 ⊢
    have hN22 : 1000 - x5.toInt < (N22 : Int) + 1 := by omega
    clear ih
    unfold fB_X6_takeAway_L22
    refine D_ck (okI_of (by clear hx1 hx5 hlv hN22 hN; omega) (by clear hx1 hx5 hlv hN22 hN; omega)) ?_
    have n11 : (x5 + 1).toInt = x5.toInt + 1 := i_addK rfl (by decide) (by clear hx1 hx4 hN22 hN; omega) (by clear hx1 hx4 hN22 hN; omega)
    have n12 : 0 ≤ (T 17 x4.toNatClampNeg).toInt ∧ (T 17 x4.toNatClampNeg).toInt ≤ 10 := hT 17 x4.toNatClampNeg
    refine D_ite (fun c10 => ?_) (fun c10 => ?_)
    · have kc10 := tq_le (x := (T 17 x4.toNatClampNeg)) (y := (x5 + 1)) rfl rfl c10
      unfold fJ_X6_takeAway_J70
      refine D_ck (okI_of (by clear hx1 hx5 hlv hN22 hN n11 n12 kc10; omega) (by clear hx1 hx5 hlv hN22 hN n11 n12 kc10; omega)) ?_
      have n14 : ((T 17 x4.toNatClampNeg) - 1).toInt = (T 17 x4.toNatClampNeg).toInt - 1 := i_subK rfl (by decide) (by clear hx1 hx4 hN22 hN; omega) (by clear hx1 hx4 hN22 hN; omega)
      refine D_lt (fun T_13 eT_13 => ?_)
      have hT_13 : iR BT T_13 := by rw [eT_13]; exact iR_set hT (show (0 : Int) ≤ _ from (by clear hx1 hx4 hN22 hN; omega)) (show _ ≤ (10 : Int) from (by clear hx1 hx4 hN22 hN; omega))
      have kT_0_0_t15 : T_13 0 0 = zT_0_0 := by rw [eT_13]; exact dT_0_0
      refine D_ck (okI_of (by clear hx4 hx5 hlv hN22 hN n11 n12 kc10 n14; omega) (by clear hx4 hx5 hlv hN22 hN n11 n12 kc10 n14; omega)) ?_
      refine D_lt (fun T_16 eT_16 => ?_)
      have hT_16 : iR BT T_16 := by rw [eT_16]; exact iR_setU hT_13 rfl
      have kT_0_0_t17 : T_16 0 0 = zT_0_0 := by rw [eT_16]; exact kT_0_0_t15
      have lm1 : ((-1) : Int32).toInt = (-1) := by decide
      refine D_lt (fun T_18 eT_18 => ?_)
      have hT_18 : iR BT T_18 := by rw [eT_18]; exact iR_set hT_16 (show ((-1) : Int) ≤ _ from (by clear hx1 hx4 hx5 hlv hN22 hN n11 n12 kc10 n14; omega)) (show _ ≤ (4 : Int) from (by clear hx1 hx4 hx5 hlv hN22 hN n11 n12 kc10 n14; omega))
      have kT_0_0_t19 : T_18 0 0 = zT_0_0 := by rw [eT_18]; exact kT_0_0_t17
      refine D_lt (fun T_20 eT_20 => ?_)
      have hT_20 : iR BT T_20 := by rw [eT_20]; exact iR_setU hT_18 rfl
      have kT_0_0_t21 : T_20 0 0 = zT_0_0 := by rw [eT_20]; exact kT_0_0_t19
      exact D_some (show (iR BT T_20) ∧ (T_20 0 0 = zT_0_0) from ⟨hT_20, kT_0_0_t21⟩)
    · have kc10 := tq_len (x := (T 17 x4.toNatClampNeg)) (y := (x5 + 1)) rfl rfl c10
      have n22 := i_mulR (a := x4) (b := (10 : Int32)) 10 (by decide) (by clear hx1 hx5 hlv hN22 hN n11 n12 kc10; omega) (by clear hx1 hx5 hlv hN22 hN n11 n12 kc10; omega)
      have n23 : ((x4 * 10) + x5).toInt = (x4 * 10).toInt + x5.toInt := i_addK rfl rfl (by clear hx1 hN22 hN; omega) (by clear hx1 hN22 hN; omega)
      have n24 : (((x4 * 10) + x5) + 1).toInt = ((x4 * 10) + x5).toInt + 1 := i_addK rfl (by decide) (by clear hx1 hN22 hN; omega) (by clear hx1 hN22 hN; omega)
      refine D_ck (okI_of (by clear hx1 hN22 hN; omega) (by clear hx1 hN22 hN; omega)) ?_
      refine D_ck (okI_of (by clear hx1 hN22 hN; omega) (by clear hx1 hN22 hN; omega)) ?_
      have n26 : 0 ≤ (T 16 (((x4 * 10) + x5) + 1).toNatClampNeg).toInt ∧ (T 16 (((x4 * 10) + x5) + 1).toNatClampNeg).toInt ≤ 9 := hT 16 ((((x4 * 10) + x5) + 1).toNatClampNeg)
      refine D_lt (fun T_25 eT_25 => ?_)
      have hT_25 : iR BT T_25 := by rw [eT_25]; exact iR_set hT (show (0 : Int) ≤ _ from (by clear hx1 hx4 hx5 hlv hN22 hN n11 n12 kc10 n22 n23 n24; omega)) (show _ ≤ (9 : Int) from (by clear hx1 hx4 hx5 hlv hN22 hN n11 n12 kc10 n22 n23 n24; omega))
      have kT_0_0_t27 : T_25 0 0 = zT_0_0 := by rw [eT_25]; exact dT_0_0
      refine D_lt (fun y28 ey28 => ?_)
      have hy28 : y28.toInt = (x5 + 1 : Int32).toInt := by rw [ey28]
      exact hk22 y28 T_25 kT_0_0_t27 hT_25 ⟨(by clear hx1 hN22 hN n26; omega), (by clear hx1 hN22 hN n26; omega)⟩ (show y28.toInt + 1 ≤ (T_25 17 x4.toNatClampNeg).toInt by rw [eT_25]; show y28.toInt + 1 ≤ (T 17 x4.toNatClampNeg).toInt; omega) (by omega)
set_option maxHeartbeats 1000000 in
set_option maxRecDepth 100000 in
theorem t_X6_takeAway (T : Tr) (P : Tr) (x1 : Int32) (x2 : Int32) (hT : iR BT T) (hP : iR BP P) (hx1 : 0 ≤ x1.toInt ∧ x1.toInt ≤ 9) : D (f_X6_takeAway T P x1 x2) (fun (q : Tr) => (iR BT q) ∧ (q 0 0 = (T 0 0))) := by
  unfold f_X6_takeAway
  refine D_bd (t_X6_level T x1 hT ⟨(by omega), (by omega)⟩) (fun r1 eq3 hq2 => ?_)
  obtain ⟨p4, p5, p6⟩ : ((-1) ≤ r1.toInt ∧ r1.toInt ≤ 9) ∧ (0 ≤ r1.toInt → r1.toInt < (T 17 (T 15 x1.toNatClampNeg).toNatClampNeg).toInt) ∧ (0 ≤ r1.toInt → 0 ≤ (T 15 x1.toNatClampNeg).toInt) := hq2
  refine D_ite (fun c7 => ?_) (fun c7 => ?_)
  · have kc7 := tq_le (x := (0 : Int32)) (y := r1) (a := 0) (by decide) rfl c7
    refine D_ck (okI_of (by clear p4 p5 p6 kc7; omega) (by clear p4 p5 p6 kc7; omega)) ?_
    refine D_lt (fun y8 ey8 => ?_)
    have n9 : (-1) ≤ (T 15 x1.toNatClampNeg).toInt ∧ (T 15 x1.toNatClampNeg).toInt ≤ 4 := hT 15 x1.toNatClampNeg
    have hy8 : y8.toInt = (T 15 x1.toNatClampNeg).toInt := by rw [ey8]
    have n29 := i_rng x2
    exact tl_X6_takeAway_L22 (T 0 0) P x1 x2 y8 hP ⟨(by clear p4 p5 p6 kc7 n9 hy8 n29; omega), (by clear p4 p5 p6 kc7 n9 hy8 n29; omega)⟩ ⟨(by omega), (by omega)⟩   2000 r1 T rfl hT ⟨(by omega), (by omega)⟩ (by rw [ey8]; omega) (by omega)
  · have kc7 := tq_len (x := (0 : Int32)) (y := r1) (a := 0) (by decide) rfl c7
    exact D_some (show (iR BT T) ∧ (T 0 0 = (T 0 0)) from ⟨hT, rfl⟩)
set_option maxHeartbeats 1000000 in
set_option maxRecDepth 100000 in
theorem tl_X6_fallOff_L4 (zT_0_0 : Int32) (P : Tr) (hP : iR BP P)   (N : Nat) : ∀ (x1 : Int32) (x2 : Int32) (T : Tr) (L : Lo), T 0 0 = zT_0_0 → iR BT T → 0 ≤ x2.toInt ∧ x2.toInt ≤ 1000 → 1000 - x2.toInt < (N : Int) → D (lpF (fun _ _ _ _ => none) (fB_X6_fallOff_L4 P) N x1 x2 T L) (fun (q : Int32 × Tr × Lo) => (iR BT (q.2.1)) ∧ ((q.2.1) 0 0 = zT_0_0)) := by
  induction N with
  | zero =>
    intro x1 x2 T L dT_0_0 hT hx2 hN
    exfalso
    omega
  | succ N4 ih =>
    intro x1 x2 T L dT_0_0 hT hx2 hN
    have hk4 : ∀ (x1 : Int32) (x2 : Int32) (T : Tr) (L : Lo), T 0 0 = zT_0_0 → iR BT T → 0 ≤ x2.toInt ∧ x2.toInt ≤ 1000 → 1000 - x2.toInt < (N4 : Int) → D (lpF (fun _ _ _ _ => none) (fB_X6_fallOff_L4 P) N4 x1 x2 T L) (fun (q : Int32 × Tr × Lo) => (iR BT (q.2.1)) ∧ ((q.2.1) 0 0 = zT_0_0)) := ih
    show D (fB_X6_fallOff_L4 P (lpF (fun _ _ _ _ => none) (fB_X6_fallOff_L4 P) N4) x1 x2 T L) _
    generalize lpF (fun _ _ _ _ => none) (fB_X6_fallOff_L4 P) N4 = k4 at hk4 ⊢
    have hN4 : 1000 - x2.toInt < (N4 : Int) + 1 := by omega
    clear ih
    unfold fB_X6_fallOff_L4
    have n2 : 0 ≤ (P 0 0).toInt ∧ (P 0 0).toInt ≤ 5 := hP 0 0
    refine D_ite (fun c1 => ?_) (fun c1 => ?_)
    · have kc1 := tq_le (x := (P 0 0)) (y := x2) rfl rfl c1
      have n3 := i_rng x1
      exact D_some (show (iR BT T) ∧ (T 0 0 = zT_0_0) from ⟨hT, dT_0_0⟩)
    · have kc1 := tq_len (x := (P 0 0)) (y := x2) rfl rfl c1
      have n5 := i_rng (T 0 6)
      refine D_ite (fun c4 => ?_) (fun c4 => ?_)
      · have kc4 := tq_eq (x := (T 0 6)) (y := (0 : Int32)) rfl (b := 0) (by decide) c4
        have n6 := i_rng x1
        exact D_some (show (iR BT T) ∧ (T 0 0 = zT_0_0) from ⟨hT, dT_0_0⟩)
      · skip
        refine D_bd (t_X6_top T x2 hT ⟨(by clear hN4 hN n5; omega), (by clear hN4 hN n5; omega)⟩) (fun r7 eq9 hq8 => ?_)
        have p10 : (-1) ≤ r7.toInt ∧ r7.toInt ≤ 9 := hq8
        refine D_ite (fun c11 => ?_) (fun c11 => ?_)
        · have kc11 := tq_lt (x := r7) (y := (0 : Int32)) rfl (b := 0) (by decide) c11
          have n13 : (x2 + 1).toInt = x2.toInt + 1 := i_addK rfl (by decide) (by clear hN4 hN n5 p10 kc11; omega) (by clear hN4 hN n5 p10 kc11; omega)
          refine D_lt (fun y12 ey12 => ?_)
          have hy12 : y12.toInt = (x2 + 1 : Int32).toInt := by rw [ey12]
          have n14 := i_rng x1
          exact hk4 x1 y12 T L dT_0_0 hT ⟨(by clear hN4 hN n5 p10 kc11 n14; omega), (by clear hN4 hN n5 p10 kc11 n14; omega)⟩ (by clear n5 p10 kc11 n14; omega)
        · have kc11 := tq_ltn (x := r7) (y := (0 : Int32)) rfl (b := 0) (by decide) c11
          refine D_bd (t_X6_isRack P x2 hP ⟨(by clear hN4 hN n5 p10 kc11; omega), (by clear hN4 hN n5 p10 kc11; omega)⟩) (fun r15 eq17 hq16 => ?_)
          have p18 : 0 ≤ r15.toInt ∧ r15.toInt ≤ 1 := hq16
          refine D_ite (fun c19 => ?_) (fun c19 => ?_)
          · have kc19 := tq_eq (x := r15) (y := (0 : Int32)) rfl (b := 0) (by decide) c19
            have n21 : (x2 + 1).toInt = x2.toInt + 1 := i_addK rfl (by decide) (by clear hN4 hN n5 p10 kc11 p18 kc19; omega) (by clear hN4 hN n5 p10 kc11 p18 kc19; omega)
            refine D_lt (fun y20 ey20 => ?_)
            have hy20 : y20.toInt = (x2 + 1 : Int32).toInt := by rw [ey20]
            have n22 := i_rng x1
            exact hk4 x1 y20 T L dT_0_0 hT ⟨(by clear hN4 hN n5 p10 kc11 p18 kc19 n22; omega), (by clear hN4 hN n5 p10 kc11 p18 kc19 n22; omega)⟩ (by clear n5 p10 kc11 p18 kc19 n22; omega)
          · have kc190 := tq_eqn (x := r15) (y := (0 : Int32)) rfl (b := 0) (by decide) c19
            have kc19 : 1 ≤ r15.toInt := (by clear hx2 hN4 hN n2 kc1 n5 p10 kc11; omega)
            clear kc190
            refine D_bd3 (t_X6_fallPercent T P L r7 hT hP ⟨(by clear hx2 hN4 hN n2 kc1 n5 p18 kc19; omega), (by clear hx2 hN4 hN n2 kc1 n5 p18 kc19; omega)⟩) (fun r23 T_24 L_25 eq27 hq26 => ?_)
            refine D_lte (y := r23) rfl ?_
            refine D_lte (y := T_24) rfl ?_
            refine D_lte (y := L_25) rfl ?_
            obtain ⟨p28, p29⟩ : (iR BT T_24) ∧ (T_24 0 0 = (T 0 0)) := hq26
            have n30 := i_rng r23
            have k31 : T_24 0 0 = zT_0_0 := p29.trans dT_0_0
            refine D_bd2 (t_X6_happens T_24 r23 p28) (fun r32 T_33 eq35 hq34 => ?_)
            refine D_lte (y := r32) rfl ?_
            refine D_lte (y := T_33) rfl ?_
            obtain ⟨p36, p37, p38⟩ : (0 ≤ r32.toInt ∧ r32.toInt ≤ 1) ∧ (iR BT T_33) ∧ (T_33 0 0 = (T_24 0 0)) := hq34
            have k39 : T_33 0 0 = zT_0_0 := p38.trans k31
            refine D_ite (fun c40 => ?_) (fun c40 => ?_)
            · have kc40 := tq_eq (x := r32) (y := (0 : Int32)) rfl (b := 0) (by decide) c40
              have n42 : (x2 + 1).toInt = x2.toInt + 1 := i_addK rfl (by decide) (by clear hN4 hN n5 p10 kc11 p18 kc19 n30 p36 kc40; omega) (by clear hN4 hN n5 p10 kc11 p18 kc19 n30 p36 kc40; omega)
              refine D_lt (fun y41 ey41 => ?_)
              have hy41 : y41.toInt = (x2 + 1 : Int32).toInt := by rw [ey41]
              have n43 := i_rng x1
              exact hk4 x1 y41 T_33 L_25 k39 p37 ⟨(by clear hN4 hN n5 p10 kc11 p18 kc19 n30 p36 kc40 n43; omega), (by clear hN4 hN n5 p10 kc11 p18 kc19 n30 p36 kc40 n43; omega)⟩ (by clear n5 p10 kc11 p18 kc19 n30 p36 kc40 n43; omega)
            · have kc400 := tq_eqn (x := r32) (y := (0 : Int32)) rfl (b := 0) (by decide) c40
              have kc40 : 1 ≤ r32.toInt := (by clear hx2 hN4 hN n2 kc1 n5 p10 kc11 p18 kc19 n30; omega)
              clear kc400
              have l3 : (3 : Int32).toInt = 3 := by decide
              refine D_bd (t_X6_takeAway T_33 P r7 (3 : Int32) p37 hP ⟨(by clear hx2 hN4 hN n2 kc1 n5 p18 kc19 n30 p36 kc40; omega), (by clear hx2 hN4 hN n2 kc1 n5 p18 kc19 n30 p36 kc40; omega)⟩) (fun T_44 eq46 hq45 => ?_)
              obtain ⟨p47, p48⟩ : (iR BT T_44) ∧ (T_44 0 0 = (T_33 0 0)) := hq45
              have k49 : T_44 0 0 = zT_0_0 := p48.trans k39
              refine D_lt (fun y50 ey50 => ?_)
              have n51 := i_rng (x1 ||| ((1 : Int32) <<< (r7 &&& 31)))
              have hy50 : y50.toInt = (x1 ||| ((1 : Int32) <<< (r7 &&& 31))).toInt := by rw [ey50]
              have n53 : (x2 + 1).toInt = x2.toInt + 1 := i_addK rfl (by decide) (by clear hN4 hN n5 p10 kc11 p18 kc19 n30 p36 kc40 n51 hy50; omega) (by clear hN4 hN n5 p10 kc11 p18 kc19 n30 p36 kc40 n51 hy50; omega)
              refine D_lt (fun y52 ey52 => ?_)
              have hy52 : y52.toInt = (x2 + 1 : Int32).toInt := by rw [ey52]
              exact hk4 y50 y52 T_44 L_25 k49 p47 ⟨(by clear hN4 hN n5 p10 kc11 p18 kc19 n30 p36 kc40 n51 hy50; omega), (by clear hN4 hN n5 p10 kc11 p18 kc19 n30 p36 kc40 n51 hy50; omega)⟩ (by clear n5 p10 kc11 p18 kc19 n30 p36 kc40 n51 hy50; omega)
set_option maxHeartbeats 1000000 in
set_option maxRecDepth 100000 in
theorem t_X6_fallOff (T : Tr) (P : Tr) (L : Lo) (hT : iR BT T) (hP : iR BP P) : D (f_X6_fallOff T P L) (fun (q : Int32 × Tr × Lo) => (iR BT (q.2.1)) ∧ ((q.2.1) 0 0 = (T 0 0))) := by
  unfold f_X6_fallOff
  have l0 : (0 : Int32).toInt = 0 := by decide
  exact tl_X6_fallOff_L4 (T 0 0) P hP   2000 (0 : Int32) (0 : Int32) T L rfl hT ⟨(by omega), (by omega)⟩ (by omega)
set_option maxHeartbeats 1000000 in
set_option maxRecDepth 100000 in
theorem tl_X6_firstLate_L2 (T : Tr) (P : Tr) (hT : iR BT T) (hP : iR BP P)   (N : Nat) : ∀ (x1 : Int32), 0 ≤ x1.toInt ∧ x1.toInt ≤ 1000 → 1000 - x1.toInt < (N : Int) → D (lpF (fun _ => none) (fB_X6_firstLate_L2 T P) N x1) (fun (q : Int32) => ((-1) ≤ q.toInt ∧ q.toInt ≤ 5)) := by
  induction N with
  | zero =>
    intro x1 hx1 hN
    exfalso
    omega
  | succ N2 ih =>
    intro x1 hx1 hN
    have hk2 : ∀ (x1 : Int32), 0 ≤ x1.toInt ∧ x1.toInt ≤ 1000 → 1000 - x1.toInt < (N2 : Int) → D (lpF (fun _ => none) (fB_X6_firstLate_L2 T P) N2 x1) (fun (q : Int32) => ((-1) ≤ q.toInt ∧ q.toInt ≤ 5)) := ih
    show D (fB_X6_firstLate_L2 T P (lpF (fun _ => none) (fB_X6_firstLate_L2 T P) N2) x1) _
    generalize lpF (fun _ => none) (fB_X6_firstLate_L2 T P) N2 = k2 at hk2 ⊢
    have hN2 : 1000 - x1.toInt < (N2 : Int) + 1 := by omega
    clear ih
    unfold fB_X6_firstLate_L2
    have n2 : 0 ≤ (P 0 1).toInt ∧ (P 0 1).toInt ≤ 6 := hP 0 1
    refine D_ite (fun c1 => ?_) (fun c1 => ?_)
    · have kc1 := tq_le (x := (P 0 1)) (y := x1) rfl rfl c1
      have lm1 : ((-1) : Int32).toInt = (-1) := by decide
      exact D_some (show ((-1) ≤ ((-1) : Int32).toInt ∧ ((-1) : Int32).toInt ≤ 5) from ⟨(by clear hx1 hN2 hN n2 kc1; omega), (by clear hx1 hN2 hN n2 kc1; omega)⟩)
    · have kc1 := tq_len (x := (P 0 1)) (y := x1) rfl rfl c1
      refine D_ck (okI_of (by omega) (by omega)) ?_
      have n4 := i_rng (T 11 x1.toNatClampNeg)
      refine D_ite (fun c3 => ?_) (fun c3 => ?_)
      · have kc3 := tq_eq (x := (T 11 x1.toNatClampNeg)) (y := (1 : Int32)) rfl (b := 1) (by decide) c3
        have n6 : 0 ≤ (P 12 x1.toNatClampNeg).toInt ∧ (P 12 x1.toNatClampNeg).toInt ≤ 20 := hP 12 x1.toNatClampNeg
        have n7 : 0 ≤ (T 0 0).toInt ∧ (T 0 0).toInt ≤ 21 := hT 0 0
        refine D_ite (fun c5 => ?_) (fun c5 => ?_)
        · have kc5 := tq_eq (x := (P 12 x1.toNatClampNeg)) (y := (T 0 0)) rfl rfl c5
          exact D_some (show ((-1) ≤ x1.toInt ∧ x1.toInt ≤ 5) from ⟨(by clear hN2 hN n4 kc3 n6 n7 kc5; omega), (by clear hN2 hN n4 kc3 n6 n7 kc5; omega)⟩)
        · skip
          have n9 : (x1 + 1).toInt = x1.toInt + 1 := i_addK rfl (by decide) (by clear hN2 hN n4 kc3 n6 n7; omega) (by clear hN2 hN n4 kc3 n6 n7; omega)
          refine D_lt (fun y8 ey8 => ?_)
          have hy8 : y8.toInt = (x1 + 1 : Int32).toInt := by rw [ey8]
          exact hk2 y8 ⟨(by clear hN2 hN n4 kc3 n6 n7; omega), (by clear hN2 hN n4 kc3 n6 n7; omega)⟩ (by clear n4 kc3 n6 n7; omega)
      · skip
        have n11 : (x1 + 1).toInt = x1.toInt + 1 := i_addK rfl (by decide) (by clear hN2 hN n4; omega) (by clear hN2 hN n4; omega)
        refine D_lt (fun y10 ey10 => ?_)
        have hy10 : y10.toInt = (x1 + 1 : Int32).toInt := by rw [ey10]
        exact hk2 y10 ⟨(by clear hN2 hN n4; omega), (by clear hN2 hN n4; omega)⟩ (by omega)
set_option maxHeartbeats 1000000 in
set_option maxRecDepth 100000 in
theorem t_X6_firstLate (T : Tr) (P : Tr) (hT : iR BT T) (hP : iR BP P) : D (f_X6_firstLate T P) (fun (q : Int32) => ((-1) ≤ q.toInt ∧ q.toInt ≤ 5)) := by
  unfold f_X6_firstLate
  have l0 : (0 : Int32).toInt = 0 := by decide
  exact tl_X6_firstLate_L2 T P hT hP   2000 (0 : Int32) ⟨(by omega), (by omega)⟩ (by omega)
set_option maxHeartbeats 1000000 in
set_option maxRecDepth 100000 in
theorem t_X6_hasRoom (T : Tr) (P : Tr) (x1 : Int32) (x2 : Int32) (hT : iR BT T) (hP : iR BP P) (hx1 : 0 ≤ x1.toInt ∧ x1.toInt ≤ 4) (hx2 : 0 ≤ x2.toInt ∧ x2.toInt ≤ 9) : D (f_X6_hasRoom T P x1 x2) (fun (q : Int32) => (0 ≤ q.toInt ∧ q.toInt ≤ 1)) := by
  unfold f_X6_hasRoom
  refine D_ck (okI_of (by omega) (by omega)) ?_
  refine D_ck (okI_of (by omega) (by omega)) ?_
  have n2 := i_rng ((T 18 x1.toNatClampNeg) + (P 15 x2.toNatClampNeg))
  have n3 := i_rng (P 9 x1.toNatClampNeg)
  refine D_ite (fun c1 => ?_) (fun c1 => ?_)
  · have kc1 := tq_lt (x := (P 9 x1.toNatClampNeg)) (y := ((T 18 x1.toNatClampNeg) + (P 15 x2.toNatClampNeg))) rfl rfl c1
    have l0 : (0 : Int32).toInt = 0 := by decide
    exact D_some (show (0 ≤ (0 : Int32).toInt ∧ (0 : Int32).toInt ≤ 1) from ⟨(by clear hx1 hx2 n2 n3 kc1; omega), (by clear hx1 hx2 n2 n3 kc1; omega)⟩)
  · have kc1 := tq_ltn (x := (P 9 x1.toNatClampNeg)) (y := ((T 18 x1.toNatClampNeg) + (P 15 x2.toNatClampNeg))) rfl rfl c1
    have l1 : (1 : Int32).toInt = 1 := by decide
    exact D_some (show (0 ≤ (1 : Int32).toInt ∧ (1 : Int32).toInt ≤ 1) from ⟨(by clear hx1 hx2 n2 n3 kc1; omega), (by clear hx1 hx2 n2 n3 kc1; omega)⟩)
-- 31.t01
set_option maxHeartbeats 1000000 in
set_option maxRecDepth 100000 in
theorem tl_X6_placeByRule_L4 (T : Tr) (P : Tr) (x1 : Int32) (hT : iR BT T) (hP : iR BP P) (hx1 : 0 ≤ x1.toInt ∧ x1.toInt ≤ 9)   (N : Nat) : ∀ (x2 : Int32) (x3 : Int32), (-1) ≤ x2.toInt ∧ x2.toInt ≤ 4 → 0 ≤ x3.toInt ∧ x3.toInt ≤ 1000 → 1000 - x3.toInt < (N : Int) → D (lpF (fun _ _ => none) (fB_X6_placeByRule_L4 T P x1) N x2 x3) (fun (q : Int32) => ((-1) ≤ q.toInt ∧ q.toInt ≤ 4)) := by
  induction N with
  | zero =>
    intro x2 x3 hx2 hx3 hN
    exfalso
    omega
  | succ N4 ih =>
    intro x2 x3 hx2 hx3 hN
    have hk4 : ∀ (x2 : Int32) (x3 : Int32), (-1) ≤ x2.toInt ∧ x2.toInt ≤ 4 → 0 ≤ x3.toInt ∧ x3.toInt ≤ 1000 → 1000 - x3.toInt < (N4 : Int) → D (lpF (fun _ _ => none) (fB_X6_placeByRule_L4 T P x1) N4 x2 x3) (fun (q : Int32) => ((-1) ≤ q.toInt ∧ q.toInt ≤ 4)) := ih
    show D (fB_X6_placeByRule_L4 T P x1 (lpF (fun _ _ => none) (fB_X6_placeByRule_L4 T P x1) N4) x2 x3) _
    generalize lpF (fun _ _ => none) (fB_X6_placeByRule_L4 T P x1) N4 = k4 at hk4 ⊢
    have hN4 : 1000 - x3.toInt < (N4 : Int) + 1 := by omega
    clear ih
    unfold fB_X6_placeByRule_L4
    have n2 : 0 ≤ (P 0 0).toInt ∧ (P 0 0).toInt ≤ 5 := hP 0 0
    refine D_ite (fun c1 => ?_) (fun c1 => ?_)
    · have kc1 := tq_le (x := (P 0 0)) (y := x3) rfl rfl c1
      exact D_some (show ((-1) ≤ x2.toInt ∧ x2.toInt ≤ 4) from ⟨(by clear hx1 hx3 hN4 hN n2 kc1; omega), (by clear hx1 hx3 hN4 hN n2 kc1; omega)⟩)
    · have kc1 := tq_len (x := (P 0 0)) (y := x3) rfl rfl c1
      refine D_bd (t_X6_hasRoom T P x3 x1 hT hP ⟨(by clear hx1 hx2 hN4 hN; omega), (by clear hx1 hx2 hN4 hN; omega)⟩ ⟨(by clear hx2 hx3 hN4 hN n2 kc1; omega), (by clear hx2 hx3 hN4 hN n2 kc1; omega)⟩) (fun r3 eq5 hq4 => ?_)
      have p6 : 0 ≤ r3.toInt ∧ r3.toInt ≤ 1 := hq4
      refine D_ite (fun c7 => ?_) (fun c7 => ?_)
      · have kc7 := tq_eq (x := r3) (y := (0 : Int32)) rfl (b := 0) (by decide) c7
        have n9 : (x3 + 1).toInt = x3.toInt + 1 := i_addK rfl (by decide) (by clear hx1 hx2 hN4 hN p6 kc7; omega) (by clear hx1 hx2 hN4 hN p6 kc7; omega)
        refine D_lt (fun y8 ey8 => ?_)
        have hy8 : y8.toInt = (x3 + 1 : Int32).toInt := by rw [ey8]
        exact hk4 x2 y8 ⟨(by clear hx1 hx3 hN4 hN n2 kc1 p6 kc7 n9 hy8; omega), (by clear hx1 hx3 hN4 hN n2 kc1 p6 kc7 n9 hy8; omega)⟩ ⟨(by clear hx1 hx2 hN4 hN p6 kc7; omega), (by clear hx1 hx2 hN4 hN p6 kc7; omega)⟩ (by clear hx1 hx2 p6 kc7; omega)
      · have kc70 := tq_eqn (x := r3) (y := (0 : Int32)) rfl (b := 0) (by decide) c7
        have kc7 : 1 ≤ r3.toInt := (by clear hx1 hx2 hx3 hN4 hN n2 kc1; omega)
        clear kc70
        have n11 := i_rng (T 0 3)
        refine D_ite (fun c10 => ?_) (fun c10 => ?_)
        · have kc10 := tq_eq (x := (T 0 3)) (y := (0 : Int32)) rfl (b := 0) (by decide) c10
          refine D_ite (fun c12 => ?_) (fun c12 => ?_)
          · have kc12 := tq_le (x := (0 : Int32)) (y := x2) (a := 0) (by decide) rfl c12
            unfold fJ_X6_placeByRule_J75
            have l0 : (0 : Int32).toInt = 0 := by decide
            refine D_ite (fun c13 => ?_) (fun c13 => ?_)
            · have kc13 := tq_eq (x := (0 : Int32)) (y := (0 : Int32)) rfl rfl c13
              have n15 : (x3 + 1).toInt = x3.toInt + 1 := i_addK rfl (by decide) (by clear hx1 hx2 hN4 hN p6 kc7 n11 kc10 kc12; omega) (by clear hx1 hx2 hN4 hN p6 kc7 n11 kc10 kc12; omega)
              refine D_lt (fun y14 ey14 => ?_)
              have hy14 : y14.toInt = (x3 + 1 : Int32).toInt := by rw [ey14]
              exact hk4 x2 y14 ⟨(by clear hx1 hx3 hN4 hN n2 kc1 p6 kc7 n11 kc10 n15 hy14; omega), (by clear hx1 hx3 hN4 hN n2 kc1 p6 kc7 n11 kc10 n15 hy14; omega)⟩ ⟨(by clear hx1 hx2 hN4 hN p6 kc7 n11 kc10 kc12; omega), (by clear hx1 hx2 hN4 hN p6 kc7 n11 kc10 kc12; omega)⟩ (by clear hx1 hx2 p6 kc7 n11 kc10 kc12; omega)
            · have kc130 := tq_eqn (x := (0 : Int32)) (y := (0 : Int32)) rfl rfl c13
              have kc13 : 1 ≤ (0 : Int32).toInt := (by clear hx1 hx2 hx3 hN4 hN n2 kc1 p6 kc7 n11 kc10 kc12; omega)
              clear kc130
              exfalso
              exact (by clear hx1 hx2 hx3 hN4 hN n2 kc1 p6 kc7 n11 kc10 kc12; omega)
          · have kc12 := tq_len (x := (0 : Int32)) (y := x2) (a := 0) (by decide) rfl c12
            unfold fJ_X6_placeByRule_J75
            have l1 : (1 : Int32).toInt = 1 := by decide
            have l0 : (0 : Int32).toInt = 0 := by decide
            refine D_ite (fun c16 => ?_) (fun c16 => ?_)
            · have kc16 := tq_eq (x := (1 : Int32)) (y := (0 : Int32)) (a := 1) (by decide) (b := 0) (by decide) c16
              exfalso
              exact (by clear hx1 hx2 hx3 hN4 hN n2 kc1 p6 kc7 n11 kc10 kc12; omega)
            · skip
              have n18 : (x3 + 1).toInt = x3.toInt + 1 := i_addK rfl (by decide) (by clear hx1 hx2 hN4 hN p6 kc7 n11 kc10 kc12; omega) (by clear hx1 hx2 hN4 hN p6 kc7 n11 kc10 kc12; omega)
              refine D_lt (fun y17 ey17 => ?_)
              have hy17 : y17.toInt = (x3 + 1 : Int32).toInt := by rw [ey17]
              exact hk4 x3 y17 ⟨(by clear hx1 hx2 hN4 hN p6 kc7 n11 kc10 kc12; omega), (by clear hx1 hx2 hN4 hN p6 kc7 n11 kc10 kc12; omega)⟩ ⟨(by clear hx1 hx2 hN4 hN p6 kc7 n11 kc10 kc12; omega), (by clear hx1 hx2 hN4 hN p6 kc7 n11 kc10 kc12; omega)⟩ (by clear hx1 hx2 p6 kc7 n11 kc10 kc12; omega)
        · skip
          refine D_ite (fun c19 => ?_) (fun c19 => ?_)
          · have kc19 := tq_eq (x := (T 0 3)) (y := (1 : Int32)) rfl (b := 1) (by decide) c19
            refine D_ite (fun c20 => ?_) (fun c20 => ?_)
            · have kc20 := tq_lt (x := x2) (y := (0 : Int32)) rfl (b := 0) (by decide) c20
              unfold fJ_X6_placeByRule_J70
              unfold fJ_X6_placeByRule_J75
              have l1 : (1 : Int32).toInt = 1 := by decide
              have l0 : (0 : Int32).toInt = 0 := by decide
              refine D_ite (fun c21 => ?_) (fun c21 => ?_)
              · have kc21 := tq_eq (x := (1 : Int32)) (y := (0 : Int32)) (a := 1) (by decide) (b := 0) (by decide) c21
                exfalso
                exact (by clear hx1 hx2 hx3 hN4 hN n2 kc1 p6 kc7 n11 kc19 kc20; omega)
              · skip
                have n23 : (x3 + 1).toInt = x3.toInt + 1 := i_addK rfl (by decide) (by clear hx1 hx2 hN4 hN p6 kc7 n11 kc19 kc20; omega) (by clear hx1 hx2 hN4 hN p6 kc7 n11 kc19 kc20; omega)
                refine D_lt (fun y22 ey22 => ?_)
                have hy22 : y22.toInt = (x3 + 1 : Int32).toInt := by rw [ey22]
                exact hk4 x3 y22 ⟨(by clear hx1 hx2 hN4 hN p6 kc7 n11 kc19 kc20; omega), (by clear hx1 hx2 hN4 hN p6 kc7 n11 kc19 kc20; omega)⟩ ⟨(by clear hx1 hx2 hN4 hN p6 kc7 n11 kc19 kc20; omega), (by clear hx1 hx2 hN4 hN p6 kc7 n11 kc19 kc20; omega)⟩ (by clear hx1 hx2 p6 kc7 n11 kc19 kc20; omega)
            · have kc20 := tq_ltn (x := x2) (y := (0 : Int32)) rfl (b := 0) (by decide) c20
              refine D_ck (okI_of (by clear hx1 hx2 hN4 hN p6 kc7 n11 kc19 kc20; omega) (by clear hx1 hx2 hN4 hN p6 kc7 n11 kc19 kc20; omega)) ?_
              refine D_ck (okI_of (by clear hx1 hx3 hN4 hN n2 kc1 p6 kc7 n11 kc19; omega) (by clear hx1 hx3 hN4 hN n2 kc1 p6 kc7 n11 kc19; omega)) ?_
              have n25 := i_rng (T 18 x3.toNatClampNeg)
              have n26 := i_rng (T 18 x2.toNatClampNeg)
              refine D_ite (fun c24 => ?_) (fun c24 => ?_)
              · have kc24 := tq_le (x := (T 18 x2.toNatClampNeg)) (y := (T 18 x3.toNatClampNeg)) rfl rfl c24
                unfold fJ_X6_placeByRule_J75
                have l0 : (0 : Int32).toInt = 0 := by decide
                refine D_ite (fun c27 => ?_) (fun c27 => ?_)
                · have kc27 := tq_eq (x := (0 : Int32)) (y := (0 : Int32)) rfl rfl c27
                  have n29 : (x3 + 1).toInt = x3.toInt + 1 := i_addK rfl (by decide) (by clear hx1 hx2 hN4 hN p6 kc7 n11 kc19 kc20 n25 n26 kc24; omega) (by clear hx1 hx2 hN4 hN p6 kc7 n11 kc19 kc20 n25 n26 kc24; omega)
                  refine D_lt (fun y28 ey28 => ?_)
                  have hy28 : y28.toInt = (x3 + 1 : Int32).toInt := by rw [ey28]
                  exact hk4 x2 y28 ⟨(by clear hx1 hx3 hN4 hN n2 kc1 p6 kc7 n11 kc19 n25 n26 kc24 n29 hy28; omega), (by clear hx1 hx3 hN4 hN n2 kc1 p6 kc7 n11 kc19 n25 n26 kc24 n29 hy28; omega)⟩ ⟨(by clear hx1 hx2 hN4 hN p6 kc7 n11 kc19 kc20 n25 n26 kc24; omega), (by clear hx1 hx2 hN4 hN p6 kc7 n11 kc19 kc20 n25 n26 kc24; omega)⟩ (by clear hx1 hx2 p6 kc7 n11 kc19 kc20 n25 n26 kc24; omega)
                · have kc270 := tq_eqn (x := (0 : Int32)) (y := (0 : Int32)) rfl rfl c27
                  have kc27 : 1 ≤ (0 : Int32).toInt := (by clear hx1 hx2 hx3 hN4 hN n2 kc1 p6 kc7 n11 kc19 kc20 n25 n26 kc24; omega)
                  clear kc270
                  exfalso
                  exact (by clear hx1 hx2 hx3 hN4 hN n2 kc1 p6 kc7 n11 kc19 kc20 n25 n26 kc24; omega)
              · have kc24 := tq_len (x := (T 18 x2.toNatClampNeg)) (y := (T 18 x3.toNatClampNeg)) rfl rfl c24
                unfold fJ_X6_placeByRule_J70
                unfold fJ_X6_placeByRule_J75
                have l1 : (1 : Int32).toInt = 1 := by decide
                have l0 : (0 : Int32).toInt = 0 := by decide
                refine D_ite (fun c30 => ?_) (fun c30 => ?_)
                · have kc30 := tq_eq (x := (1 : Int32)) (y := (0 : Int32)) (a := 1) (by decide) (b := 0) (by decide) c30
                  exfalso
                  exact (by clear hx1 hx2 hx3 hN4 hN n2 kc1 p6 kc7 n11 kc19 kc20 n25 n26 kc24; omega)
                · skip
                  have n32 : (x3 + 1).toInt = x3.toInt + 1 := i_addK rfl (by decide) (by clear hx1 hx2 hN4 hN p6 kc7 n11 kc19 kc20 n25 n26 kc24; omega) (by clear hx1 hx2 hN4 hN p6 kc7 n11 kc19 kc20 n25 n26 kc24; omega)
                  refine D_lt (fun y31 ey31 => ?_)
                  have hy31 : y31.toInt = (x3 + 1 : Int32).toInt := by rw [ey31]
                  exact hk4 x3 y31 ⟨(by clear hx1 hx2 hN4 hN p6 kc7 n11 kc19 kc20 n25 n26 kc24; omega), (by clear hx1 hx2 hN4 hN p6 kc7 n11 kc19 kc20 n25 n26 kc24; omega)⟩ ⟨(by clear hx1 hx2 hN4 hN p6 kc7 n11 kc19 kc20 n25 n26 kc24; omega), (by clear hx1 hx2 hN4 hN p6 kc7 n11 kc19 kc20 n25 n26 kc24; omega)⟩ (by clear hx1 hx2 p6 kc7 n11 kc19 kc20 n25 n26 kc24; omega)
          · skip
            unfold fJ_X6_placeByRule_J70
            unfold fJ_X6_placeByRule_J75
            have l1 : (1 : Int32).toInt = 1 := by decide
            have l0 : (0 : Int32).toInt = 0 := by decide
            refine D_ite (fun c33 => ?_) (fun c33 => ?_)
            · have kc33 := tq_eq (x := (1 : Int32)) (y := (0 : Int32)) (a := 1) (by decide) (b := 0) (by decide) c33
              exfalso
              exact (by clear hx1 hx2 hx3 hN4 hN n2 kc1 p6 kc7 n11; omega)
            · skip
              have n35 : (x3 + 1).toInt = x3.toInt + 1 := i_addK rfl (by decide) (by clear hx1 hx2 hN4 hN p6 kc7 n11; omega) (by clear hx1 hx2 hN4 hN p6 kc7 n11; omega)
              refine D_lt (fun y34 ey34 => ?_)
              have hy34 : y34.toInt = (x3 + 1 : Int32).toInt := by rw [ey34]
              exact hk4 x3 y34 ⟨(by clear hx1 hx2 hN4 hN p6 kc7 n11; omega), (by clear hx1 hx2 hN4 hN p6 kc7 n11; omega)⟩ ⟨(by clear hx1 hx2 hN4 hN p6 kc7 n11; omega), (by clear hx1 hx2 hN4 hN p6 kc7 n11; omega)⟩ (by clear hx1 hx2 p6 kc7 n11; omega)
set_option maxHeartbeats 1000000 in
set_option maxRecDepth 100000 in
theorem t_X6_placeByRule (T : Tr) (P : Tr) (x1 : Int32) (hT : iR BT T) (hP : iR BP P) (hx1 : 0 ≤ x1.toInt ∧ x1.toInt ≤ 9) : D (f_X6_placeByRule T P x1) (fun (q : Int32) => ((-1) ≤ q.toInt ∧ q.toInt ≤ 4)) := by
  unfold f_X6_placeByRule
  have lm1 : ((-1) : Int32).toInt = (-1) := by decide
  have l0 : (0 : Int32).toInt = 0 := by decide
  exact tl_X6_placeByRule_L4 T P x1 hT hP ⟨(by omega), (by omega)⟩   2000 ((-1) : Int32) (0 : Int32) ⟨(by omega), (by omega)⟩ ⟨(by omega), (by omega)⟩ (by omega)
set_option maxHeartbeats 1000000 in
set_option maxRecDepth 100000 in
theorem t_X6_putOn (T : Tr) (P : Tr) (x1 : Int32) (x2 : Int32) (hT : iR BT T) (hP : iR BP P) (hx1 : 0 ≤ x1.toInt ∧ x1.toInt ≤ 4) (hx2 : 0 ≤ x2.toInt ∧ x2.toInt ≤ 9) : D (f_X6_putOn T P x1 x2) (fun (q : Tr) => (iR BT q) ∧ (q 0 0 = (T 0 0))) := by
  unfold f_X6_putOn
  refine D_ck (okI_of (by omega) (by omega)) ?_
  refine D_lt (fun y1 ey1 => ?_)
  have n2 : 0 ≤ (T 17 x1.toNatClampNeg).toInt ∧ (T 17 x1.toNatClampNeg).toInt ≤ 10 := hT 17 x1.toNatClampNeg
  have hy1 : y1.toInt = (T 17 x1.toNatClampNeg).toInt := by rw [ey1]
  refine D_ite (fun c3 => ?_) (fun c3 => ?_)
  · have kc3 := tq_le (x := (10 : Int32)) (y := y1) (a := 10) (by decide) rfl c3
    exact D_some (show (iR BT T) ∧ (T 0 0 = (T 0 0)) from ⟨hT, rfl⟩)
  · have kc3 := tq_len (x := (10 : Int32)) (y := y1) (a := 10) (by decide) rfl c3
    have n4 := i_mulR (a := x1) (b := (10 : Int32)) 10 (by decide) (by clear hx2 n2 hy1 kc3; omega) (by clear hx2 n2 hy1 kc3; omega)
    have n5 : ((x1 * 10) + y1).toInt = (x1 * 10).toInt + y1.toInt := i_addK rfl rfl (by omega) (by omega)
    refine D_ck (okI_of (by omega) (by omega)) ?_
    refine D_lt (fun T_6 eT_6 => ?_)
    have hT_6 : iR BT T_6 := by rw [eT_6]; exact iR_set hT (show (0 : Int) ≤ _ from (by clear hx1 n2 hy1 kc3 n4 n5; omega)) (show _ ≤ (9 : Int) from (by clear hx1 n2 hy1 kc3 n4 n5; omega))
    have kT_0_0_t7 : T_6 0 0 = (T 0 0) := by rw [eT_6]; exact rfl
    have n9 : (y1 + 1).toInt = y1.toInt + 1 := i_addK rfl (by decide) (by omega) (by omega)
    refine D_lt (fun T_8 eT_8 => ?_)
    have hT_8 : iR BT T_8 := by rw [eT_8]; exact iR_set hT_6 (show (0 : Int) ≤ _ from (by omega)) (show _ ≤ (10 : Int) from (by omega))
    have kT_0_0_t10 : T_8 0 0 = (T 0 0) := by rw [eT_8]; exact kT_0_0_t7
    refine D_ck (okI_of (by clear hx1 n2 hy1 kc3 n4 n5 n9; omega) (by clear hx1 n2 hy1 kc3 n4 n5 n9; omega)) ?_
    refine D_lt (fun T_11 eT_11 => ?_)
    have hT_11 : iR BT T_11 := by rw [eT_11]; exact iR_setU hT_8 rfl
    have kT_0_0_t12 : T_11 0 0 = (T 0 0) := by rw [eT_11]; exact kT_0_0_t10
    refine D_lt (fun T_13 eT_13 => ?_)
    have hT_13 : iR BT T_13 := by rw [eT_13]; exact iR_set hT_11 (show ((-1) : Int) ≤ _ from (by omega)) (show _ ≤ (4 : Int) from (by omega))
    have kT_0_0_t14 : T_13 0 0 = (T 0 0) := by rw [eT_13]; exact kT_0_0_t12
    refine D_lt (fun T_15 eT_15 => ?_)
    have hT_15 : iR BT T_15 := by rw [eT_15]; exact iR_setU hT_13 rfl
    have kT_0_0_t16 : T_15 0 0 = (T 0 0) := by rw [eT_15]; exact kT_0_0_t14
    exact D_some (show (iR BT T_15) ∧ (T_15 0 0 = (T 0 0)) from ⟨hT_15, kT_0_0_t16⟩)
set_option maxHeartbeats 1000000 in
set_option maxRecDepth 100000 in
theorem t_X6_stow (T : Tr) (P : Tr) (x1 : Int32) (hT : iR BT T) (hP : iR BP P) (hx1 : 0 ≤ x1.toInt ∧ x1.toInt ≤ 9) : D (f_X6_stow T P x1) (fun (q : Tr) => (iR BT q) ∧ (q 0 0 = (T 0 0))) := by
  unfold f_X6_stow
  refine D_ck (okI_of (by omega) (by omega)) ?_
  refine D_lt (fun y1 ey1 => ?_)
  have n2 : (-1) ≤ (T 13 x1.toNatClampNeg).toInt ∧ (T 13 x1.toNatClampNeg).toInt ≤ 4 := hT 13 x1.toNatClampNeg
  have hy1 : y1.toInt = (T 13 x1.toNatClampNeg).toInt := by rw [ey1]
  refine D_ite (fun c3 => ?_) (fun c3 => ?_)
  · have kc3 := tq_le (x := (0 : Int32)) (y := y1) (a := 0) (by decide) rfl c3
    refine D_bd (t_X6_hasRoom T P y1 x1 hT hP ⟨(by omega), (by omega)⟩ ⟨(by clear n2 hy1 kc3; omega), (by clear n2 hy1 kc3; omega)⟩) (fun r4 eq6 hq5 => ?_)
    have p7 : 0 ≤ r4.toInt ∧ r4.toInt ≤ 1 := hq5
    refine D_ite (fun c8 => ?_) (fun c8 => ?_)
    · have kc8 := tq_eq (x := r4) (y := (0 : Int32)) rfl (b := 0) (by decide) c8
      unfold fJ_X6_stow_J31
      have lm1 : ((-1) : Int32).toInt = (-1) := by decide
      have l0 : (0 : Int32).toInt = 0 := by decide
      refine D_ite (fun c9 => ?_) (fun c9 => ?_)
      · have kc9 := tq_le (x := (0 : Int32)) (y := ((-1) : Int32)) (a := 0) (by decide) (b := (-1)) (by decide) c9
        exfalso
        exact (by clear hx1 n2 hy1 kc3 p7 kc8; omega)
      · have kc9 := tq_len (x := (0 : Int32)) (y := ((-1) : Int32)) (a := 0) (by decide) (b := (-1)) (by decide) c9
        refine D_ck (okI_of (by clear n2 hy1 kc3 p7 kc8; omega) (by clear n2 hy1 kc3 p7 kc8; omega)) ?_
        refine D_lt (fun T_10 eT_10 => ?_)
        have hT_10 : iR BT T_10 := by rw [eT_10]; exact iR_setU hT rfl
        have kT_0_0_t11 : T_10 0 0 = (T 0 0) := by rw [eT_10]; exact rfl
        exact D_some (show (iR BT T_10) ∧ (T_10 0 0 = (T 0 0)) from ⟨hT_10, kT_0_0_t11⟩)
    · have kc80 := tq_eqn (x := r4) (y := (0 : Int32)) rfl (b := 0) (by decide) c8
      have kc8 : 1 ≤ r4.toInt := (by clear hx1 n2 hy1 kc3; omega)
      clear kc80
      unfold fJ_X6_stow_J31
      refine D_ite (fun c12 => ?_) (fun c12 => ?_)
      · have kc12 := tq_le (x := (0 : Int32)) (y := y1) (a := 0) (by decide) rfl c12
        refine D_bd (t_X6_putOn T P y1 x1 hT hP ⟨(by clear hx1 p7 kc8; omega), (by clear hx1 p7 kc8; omega)⟩ ⟨(by clear n2 hy1 kc3 p7 kc8 kc12; omega), (by clear n2 hy1 kc3 p7 kc8 kc12; omega)⟩) (fun T_13 eq15 hq14 => ?_)
        obtain ⟨p16, p17⟩ : (iR BT T_13) ∧ (T_13 0 0 = (T 0 0)) := hq14
        have k18 : T_13 0 0 = (T 0 0) := p17
        exact D_some (show (iR BT T_13) ∧ (T_13 0 0 = (T 0 0)) from ⟨p16, k18⟩)
      · have kc12 := tq_len (x := (0 : Int32)) (y := y1) (a := 0) (by decide) rfl c12
        exfalso
        exact (by clear hx1 p7 kc8; omega)
  · have kc3 := tq_len (x := (0 : Int32)) (y := y1) (a := 0) (by decide) rfl c3
    refine D_bd (t_X6_placeByRule T P x1 hT hP ⟨(by clear n2 hy1 kc3; omega), (by clear n2 hy1 kc3; omega)⟩) (fun r19 eq21 hq20 => ?_)
    have p22 : (-1) ≤ r19.toInt ∧ r19.toInt ≤ 4 := hq20
    unfold fJ_X6_stow_J31
    refine D_ite (fun c23 => ?_) (fun c23 => ?_)
    · have kc23 := tq_le (x := (0 : Int32)) (y := r19) (a := 0) (by decide) rfl c23
      refine D_bd (t_X6_putOn T P r19 x1 hT hP ⟨(by clear hx1 n2 hy1 kc3; omega), (by clear hx1 n2 hy1 kc3; omega)⟩ ⟨(by clear n2 hy1 kc3 p22 kc23; omega), (by clear n2 hy1 kc3 p22 kc23; omega)⟩) (fun T_24 eq26 hq25 => ?_)
      obtain ⟨p27, p28⟩ : (iR BT T_24) ∧ (T_24 0 0 = (T 0 0)) := hq25
      have k29 : T_24 0 0 = (T 0 0) := p28
      exact D_some (show (iR BT T_24) ∧ (T_24 0 0 = (T 0 0)) from ⟨p27, k29⟩)
    · have kc23 := tq_len (x := (0 : Int32)) (y := r19) (a := 0) (by decide) rfl c23
      refine D_ck (okI_of (by clear n2 hy1 kc3 p22 kc23; omega) (by clear n2 hy1 kc3 p22 kc23; omega)) ?_
      refine D_lt (fun T_30 eT_30 => ?_)
      have hT_30 : iR BT T_30 := by rw [eT_30]; exact iR_setU hT rfl
      have kT_0_0_t31 : T_30 0 0 = (T 0 0) := by rw [eT_30]; exact rfl
      exact D_some (show (iR BT T_30) ∧ (T_30 0 0 = (T 0 0)) from ⟨hT_30, kT_0_0_t31⟩)
set_option maxHeartbeats 1000000 in
set_option maxRecDepth 100000 in
theorem tl_X6_getIn_L47 (zT_0_0 : Int32) (P : Tr) (x1 : Int32) (N2 : Nat) (hP : iR BP P) (hx1 : 0 ≤ x1.toInt ∧ x1.toInt ≤ 5) (hN2 : 1000 - x1.toInt < (N2 : Int) + 1) (k2 : Int32 → Tr → Option (Tr)) (hk2 : ∀ (x1 : Int32) (T : Tr), T 0 0 = zT_0_0 → iR BT T → 0 ≤ x1.toInt ∧ x1.toInt ≤ 1000 → 1000 - x1.toInt < (N2 : Int) → D (k2 x1 T) (fun (q : Tr) => (iR BT q) ∧ (q 0 0 = zT_0_0))) (N : Nat) : ∀ (x2 : Int32) (T : Tr), T 0 0 = zT_0_0 → iR BT T → 0 ≤ x2.toInt ∧ x2.toInt ≤ 1000 → 1000 - x2.toInt < (N : Int) → D (lpF (fun _ _ => none) (fB_X6_getIn_L47 k2 P x1) N x2 T) (fun (q : Tr) => (iR BT q) ∧ (q 0 0 = zT_0_0)) := by
  induction N with
  | zero =>
    intro x2 T dT_0_0 hT hx2 hN
    exfalso
    omega
  | succ N47 ih =>
    intro x2 T dT_0_0 hT hx2 hN
    have hk47 : ∀ (x2 : Int32) (T : Tr), T 0 0 = zT_0_0 → iR BT T → 0 ≤ x2.toInt ∧ x2.toInt ≤ 1000 → 1000 - x2.toInt < (N47 : Int) → D (lpF (fun _ _ => none) (fB_X6_getIn_L47 k2 P x1) N47 x2 T) (fun (q : Tr) => (iR BT q) ∧ (q 0 0 = zT_0_0)) := ih
    show D (fB_X6_getIn_L47 k2 P x1 (lpF (fun _ _ => none) (fB_X6_getIn_L47 k2 P x1) N47) x2 T) _
    generalize lpF (fun _ _ => none) (fB_X6_getIn_L47 k2 P x1) N47 = k47 at hk47 ⊢
    have hN47 : 1000 - x2.toInt < (N47 : Int) + 1 := by omega
    clear ih
    unfold fB_X6_getIn_L47
    have n12 : 0 ≤ (P 0 2).toInt ∧ (P 0 2).toInt ≤ 10 := hP 0 2
    refine D_ite (fun c11 => ?_) (fun c11 => ?_)
    · have kc11 := tq_le (x := (P 0 2)) (y := x2) rfl rfl c11
      have n14 : (x1 + 1).toInt = x1.toInt + 1 := i_addK rfl (by decide) (by clear hx2 hN2 hN47 hN n12 kc11; omega) (by clear hx2 hN2 hN47 hN n12 kc11; omega)
      refine D_lt (fun y13 ey13 => ?_)
      have hy13 : y13.toInt = (x1 + 1 : Int32).toInt := by rw [ey13]
      exact hk2 y13 T dT_0_0 hT ⟨(by clear hx2 hN2 hN47 hN n12 kc11; omega), (by clear hx2 hN2 hN47 hN n12 kc11; omega)⟩ (by clear hx2 hN47 hN n12 kc11; omega)
    · have kc11 := tq_len (x := (P 0 2)) (y := x2) rfl rfl c11
      refine D_ck (okI_of (by clear hx1 hN2 hN47 hN; omega) (by clear hx1 hN2 hN47 hN; omega)) ?_
      have n16 : 0 ≤ (P 14 x2.toNatClampNeg).toInt ∧ (P 14 x2.toNatClampNeg).toInt ≤ 5 := hP 14 x2.toNatClampNeg
      refine D_ite (fun c15 => ?_) (fun c15 => ?_)
      · have kc15 := tq_eq (x := (P 14 x2.toNatClampNeg)) (y := x1) rfl rfl c15
        refine D_bd (t_X6_stow T P x2 hT hP ⟨(by clear hx1 hN2 hN47 hN n16 kc15; omega), (by clear hx1 hN2 hN47 hN n16 kc15; omega)⟩) (fun T_17 eq19 hq18 => ?_)
        obtain ⟨p20, p21⟩ : (iR BT T_17) ∧ (T_17 0 0 = (T 0 0)) := hq18
        have k22 : T_17 0 0 = zT_0_0 := p21.trans dT_0_0
        have n24 : (x2 + 1).toInt = x2.toInt + 1 := i_addK rfl (by decide) (by clear hx1 hN2 hN47 hN n16 kc15; omega) (by clear hx1 hN2 hN47 hN n16 kc15; omega)
        refine D_lt (fun y23 ey23 => ?_)
        have hy23 : y23.toInt = (x2 + 1 : Int32).toInt := by rw [ey23]
        exact hk47 y23 T_17 k22 p20 ⟨(by clear hx1 hN2 hN47 hN n16 kc15; omega), (by clear hx1 hN2 hN47 hN n16 kc15; omega)⟩ (by clear hx1 hN2 n16 kc15; omega)
      · skip
        have n26 : (x2 + 1).toInt = x2.toInt + 1 := i_addK rfl (by decide) (by clear hx1 hN2 hN47 hN n16; omega) (by clear hx1 hN2 hN47 hN n16; omega)
        refine D_lt (fun y25 ey25 => ?_)
        have hy25 : y25.toInt = (x2 + 1 : Int32).toInt := by rw [ey25]
        exact hk47 y25 T dT_0_0 hT ⟨(by clear hx1 hN2 hN47 hN n16; omega), (by clear hx1 hN2 hN47 hN n16; omega)⟩ (by clear hx1 hN2 n16; omega)
set_option maxHeartbeats 1000000 in
set_option maxRecDepth 100000 in
theorem tl_X6_getIn_L2 (zT_0_0 : Int32) (P : Tr) (hP : iR BP P)   (N : Nat) : ∀ (x1 : Int32) (T : Tr), T 0 0 = zT_0_0 → iR BT T → 0 ≤ x1.toInt ∧ x1.toInt ≤ 1000 → 1000 - x1.toInt < (N : Int) → D (lpF (fun _ _ => none) (fB_X6_getIn_L2 P) N x1 T) (fun (q : Tr) => (iR BT q) ∧ (q 0 0 = zT_0_0)) := by
  induction N with
  | zero =>
    intro x1 T dT_0_0 hT hx1 hN
    exfalso
    omega
  | succ N2 ih =>
    intro x1 T dT_0_0 hT hx1 hN
    have hk2 : ∀ (x1 : Int32) (T : Tr), T 0 0 = zT_0_0 → iR BT T → 0 ≤ x1.toInt ∧ x1.toInt ≤ 1000 → 1000 - x1.toInt < (N2 : Int) → D (lpF (fun _ _ => none) (fB_X6_getIn_L2 P) N2 x1 T) (fun (q : Tr) => (iR BT q) ∧ (q 0 0 = zT_0_0)) := ih
    show D (fB_X6_getIn_L2 P (lpF (fun _ _ => none) (fB_X6_getIn_L2 P) N2) x1 T) _
    generalize lpF (fun _ _ => none) (fB_X6_getIn_L2 P) N2 = k2 at hk2 ⊢
    have hN2 : 1000 - x1.toInt < (N2 : Int) + 1 := by omega
    clear ih
    unfold fB_X6_getIn_L2
    have n2 : 0 ≤ (P 0 1).toInt ∧ (P 0 1).toInt ≤ 6 := hP 0 1
    refine D_ite (fun c1 => ?_) (fun c1 => ?_)
    · have kc1 := tq_le (x := (P 0 1)) (y := x1) rfl rfl c1
      exact D_some (show (iR BT T) ∧ (T 0 0 = zT_0_0) from ⟨hT, dT_0_0⟩)
    · have kc1 := tq_len (x := (P 0 1)) (y := x1) rfl rfl c1
      refine D_ck (okI_of (by omega) (by omega)) ?_
      have n4 := i_rng (T 11 x1.toNatClampNeg)
      refine D_ite (fun c3 => ?_) (fun c3 => ?_)
      · have kc3 := tq_eq (x := (T 11 x1.toNatClampNeg)) (y := (0 : Int32)) rfl (b := 0) (by decide) c3
        have n6 := i_rng (T 9 x1.toNatClampNeg)
        have n7 : 0 ≤ (T 0 0).toInt ∧ (T 0 0).toInt ≤ 21 := hT 0 0
        refine D_ite (fun c5 => ?_) (fun c5 => ?_)
        · have kc5 := tq_eq (x := (T 9 x1.toNatClampNeg)) (y := (T 0 0)) rfl rfl c5
          refine D_lt (fun T_8 eT_8 => ?_)
          have hT_8 : iR BT T_8 := by rw [eT_8]; exact iR_setU hT rfl
          have kT_0_0_t9 : T_8 0 0 = zT_0_0 := by rw [eT_8]; exact dT_0_0
          have n10 : (T_8 0 0).toInt = (T 0 0).toInt := by rw [eT_8]; rfl
          have l0 : (0 : Int32).toInt = 0 := by decide
          exact tl_X6_getIn_L47 zT_0_0 P x1 N2 hP ⟨(by clear hN2 hN n4 kc3 n6 n7 kc5 n10; omega), (by clear hN2 hN n4 kc3 n6 n7 kc5 n10; omega)⟩ hN2 k2 hk2 2000 (0 : Int32) T_8 kT_0_0_t9 hT_8 ⟨(by clear hx1 hN2 hN n2 kc1 n4 kc3 n6 n7 kc5 n10; omega), (by clear hx1 hN2 hN n2 kc1 n4 kc3 n6 n7 kc5 n10; omega)⟩ (by clear hx1 hN2 hN n2 kc1 n4 kc3 n6 n7 kc5 n10; omega)
        · skip
          have n28 : (x1 + 1).toInt = x1.toInt + 1 := i_addK rfl (by decide) (by clear hN2 hN n4 kc3 n6 n7; omega) (by clear hN2 hN n4 kc3 n6 n7; omega)
          refine D_lt (fun y27 ey27 => ?_)
          have hy27 : y27.toInt = (x1 + 1 : Int32).toInt := by rw [ey27]
          exact hk2 y27 T dT_0_0 hT ⟨(by clear hN2 hN n4 kc3 n6 n7; omega), (by clear hN2 hN n4 kc3 n6 n7; omega)⟩ (by clear n4 kc3 n6 n7; omega)
      · skip
        have n30 : (x1 + 1).toInt = x1.toInt + 1 := i_addK rfl (by decide) (by clear hN2 hN n4; omega) (by clear hN2 hN n4; omega)
        refine D_lt (fun y29 ey29 => ?_)
        have hy29 : y29.toInt = (x1 + 1 : Int32).toInt := by rw [ey29]
        exact hk2 y29 T dT_0_0 hT ⟨(by clear hN2 hN n4; omega), (by clear hN2 hN n4; omega)⟩ (by omega)
set_option maxHeartbeats 1000000 in
set_option maxRecDepth 100000 in
theorem t_X6_getIn (T : Tr) (P : Tr) (hT : iR BT T) (hP : iR BP P) : D (f_X6_getIn T P) (fun (q : Tr) => (iR BT q) ∧ (q 0 0 = (T 0 0))) := by
  unfold f_X6_getIn
  have l0 : (0 : Int32).toInt = 0 := by decide
  exact tl_X6_getIn_L2 (T 0 0) P hP   2000 (0 : Int32) T rfl hT ⟨(by omega), (by omega)⟩ (by omega)
set_option maxHeartbeats 1000000 in
set_option maxRecDepth 100000 in
theorem t_X6_goesAbove (P : Tr) (x1 : Int32) (x2 : Int32) (hP : iR BP P) (hx1 : 0 ≤ x1.toInt ∧ x1.toInt ≤ 9) (hx2 : 0 ≤ x2.toInt ∧ x2.toInt ≤ 9) : D (f_X6_goesAbove P x1 x2) (fun (q : Int32) => (0 ≤ q.toInt ∧ q.toInt ≤ 1)) := by
  unfold f_X6_goesAbove
  refine D_ck (okI_of (by omega) (by omega)) ?_
  have n1 : 0 ≤ (P 14 x1.toNatClampNeg).toInt ∧ (P 14 x1.toNatClampNeg).toInt ≤ 5 := hP 14 x1.toNatClampNeg
  refine D_ck (okI_of (by omega) (by omega)) ?_
  refine D_lt (fun y2 ey2 => ?_)
  have n3 : 0 ≤ (P 12 (P 14 x1.toNatClampNeg).toNatClampNeg).toInt ∧ (P 12 (P 14 x1.toNatClampNeg).toNatClampNeg).toInt ≤ 20 := hP 12 ((P 14 x1.toNatClampNeg).toNatClampNeg)
  have hy2 : y2.toInt = (P 12 (P 14 x1.toNatClampNeg).toNatClampNeg).toInt := by rw [ey2]
  refine D_ck (okI_of (by clear hx1 n1 n3 hy2; omega) (by clear hx1 n1 n3 hy2; omega)) ?_
  have n4 : 0 ≤ (P 14 x2.toNatClampNeg).toInt ∧ (P 14 x2.toNatClampNeg).toInt ≤ 5 := hP 14 x2.toNatClampNeg
  refine D_ck (okI_of (by clear hx1 hx2 n1 n3 hy2; omega) (by clear hx1 hx2 n1 n3 hy2; omega)) ?_
  refine D_lt (fun y5 ey5 => ?_)
  have n6 : 0 ≤ (P 12 (P 14 x2.toNatClampNeg).toNatClampNeg).toInt ∧ (P 12 (P 14 x2.toNatClampNeg).toNatClampNeg).toInt ≤ 20 := hP 12 ((P 14 x2.toNatClampNeg).toNatClampNeg)
  have hy5 : y5.toInt = (P 12 (P 14 x2.toNatClampNeg).toNatClampNeg).toInt := by rw [ey5]
  refine D_ite (fun c7 => ?_) (fun c7 => ?_)
  · have kc7 := tq_eq (x := y2) (y := y5) rfl rfl c7
    refine D_ite (fun c8 => ?_) (fun c8 => ?_)
    · have kc8 := tq_le (x := x2) (y := x1) rfl rfl c8
      have l0 : (0 : Int32).toInt = 0 := by decide
      exact D_some (show (0 ≤ (0 : Int32).toInt ∧ (0 : Int32).toInt ≤ 1) from ⟨(by clear hx1 hx2 n1 n3 hy2 n4 n6 hy5 kc7 kc8; omega), (by clear hx1 hx2 n1 n3 hy2 n4 n6 hy5 kc7 kc8; omega)⟩)
    · have kc8 := tq_len (x := x2) (y := x1) rfl rfl c8
      have l1 : (1 : Int32).toInt = 1 := by decide
      exact D_some (show (0 ≤ (1 : Int32).toInt ∧ (1 : Int32).toInt ≤ 1) from ⟨(by clear hx1 hx2 n1 n3 hy2 n4 n6 hy5 kc7 kc8; omega), (by clear hx1 hx2 n1 n3 hy2 n4 n6 hy5 kc7 kc8; omega)⟩)
  · skip
    refine D_ite (fun c9 => ?_) (fun c9 => ?_)
    · have kc9 := tq_le (x := y5) (y := y2) rfl rfl c9
      have l0 : (0 : Int32).toInt = 0 := by decide
      exact D_some (show (0 ≤ (0 : Int32).toInt ∧ (0 : Int32).toInt ≤ 1) from ⟨(by clear hx1 hx2 n1 n3 hy2 n4 n6 hy5 kc9; omega), (by clear hx1 hx2 n1 n3 hy2 n4 n6 hy5 kc9; omega)⟩)
    · have kc9 := tq_len (x := y5) (y := y2) rfl rfl c9
      have l1 : (1 : Int32).toInt = 1 := by decide
      exact D_some (show (0 ≤ (1 : Int32).toInt ∧ (1 : Int32).toInt ≤ 1) from ⟨(by clear hx1 hx2 n1 n3 hy2 n4 n6 hy5 kc9; omega), (by clear hx1 hx2 n1 n3 hy2 n4 n6 hy5 kc9; omega)⟩)
set_option maxHeartbeats 1000000 in
set_option maxRecDepth 100000 in
theorem tl_X6_hasPlaced_L2 (T : Tr) (P : Tr) (x1 : Int32) (hT : iR BT T) (hP : iR BP P)   (N : Nat) : ∀ (x2 : Int32), 0 ≤ x2.toInt ∧ x2.toInt ≤ 1000 → 1000 - x2.toInt < (N : Int) → D (lpF (fun _ => none) (fB_X6_hasPlaced_L2 T P x1) N x2) (fun (q : Int32) => (0 ≤ q.toInt ∧ q.toInt ≤ 1)) := by
  induction N with
  | zero =>
    intro x2 hx2 hN
    exfalso
    omega
  | succ N2 ih =>
    intro x2 hx2 hN
    have hk2 : ∀ (x2 : Int32), 0 ≤ x2.toInt ∧ x2.toInt ≤ 1000 → 1000 - x2.toInt < (N2 : Int) → D (lpF (fun _ => none) (fB_X6_hasPlaced_L2 T P x1) N2 x2) (fun (q : Int32) => (0 ≤ q.toInt ∧ q.toInt ≤ 1)) := ih
    show D (fB_X6_hasPlaced_L2 T P x1 (lpF (fun _ => none) (fB_X6_hasPlaced_L2 T P x1) N2) x2) _
    generalize lpF (fun _ => none) (fB_X6_hasPlaced_L2 T P x1) N2 = k2 at hk2 ⊢
    have hN2 : 1000 - x2.toInt < (N2 : Int) + 1 := by omega
    clear ih
    unfold fB_X6_hasPlaced_L2
    have n2 : 0 ≤ (P 0 2).toInt ∧ (P 0 2).toInt ≤ 10 := hP 0 2
    refine D_ite (fun c1 => ?_) (fun c1 => ?_)
    · have kc1 := tq_le (x := (P 0 2)) (y := x2) rfl rfl c1
      have l0 : (0 : Int32).toInt = 0 := by decide
      exact D_some (show (0 ≤ (0 : Int32).toInt ∧ (0 : Int32).toInt ≤ 1) from ⟨(by clear hx2 hN2 hN n2 kc1; omega), (by clear hx2 hN2 hN n2 kc1; omega)⟩)
    · have kc1 := tq_len (x := (P 0 2)) (y := x2) rfl rfl c1
      refine D_ck (okI_of (by omega) (by omega)) ?_
      have n4 : 0 ≤ (P 14 x2.toNatClampNeg).toInt ∧ (P 14 x2.toNatClampNeg).toInt ≤ 5 := hP 14 x2.toNatClampNeg
      have n5 := i_rng x1
      refine D_ite (fun c3 => ?_) (fun c3 => ?_)
      · have kc3 := tq_eq (x := (P 14 x2.toNatClampNeg)) (y := x1) rfl rfl c3
        have n7 := i_rng (T 14 x2.toNatClampNeg)
        refine D_ite (fun c6 => ?_) (fun c6 => ?_)
        · have kc6 := tq_eq (x := (T 14 x2.toNatClampNeg)) (y := (1 : Int32)) rfl (b := 1) (by decide) c6
          have l1 : (1 : Int32).toInt = 1 := by decide
          exact D_some (show (0 ≤ (1 : Int32).toInt ∧ (1 : Int32).toInt ≤ 1) from ⟨(by clear hx2 hN2 hN n2 kc1 n4 n5 kc3 n7 kc6; omega), (by clear hx2 hN2 hN n2 kc1 n4 n5 kc3 n7 kc6; omega)⟩)
        · skip
          have n9 : (x2 + 1).toInt = x2.toInt + 1 := i_addK rfl (by decide) (by clear hN2 hN n4 n5 kc3 n7; omega) (by clear hN2 hN n4 n5 kc3 n7; omega)
          refine D_lt (fun y8 ey8 => ?_)
          have hy8 : y8.toInt = (x2 + 1 : Int32).toInt := by rw [ey8]
          exact hk2 y8 ⟨(by clear hN2 hN n4 n5 kc3 n7; omega), (by clear hN2 hN n4 n5 kc3 n7; omega)⟩ (by clear n4 n5 kc3 n7; omega)
      · skip
        have n11 : (x2 + 1).toInt = x2.toInt + 1 := i_addK rfl (by decide) (by clear hN2 hN n4 n5; omega) (by clear hN2 hN n4 n5; omega)
        refine D_lt (fun y10 ey10 => ?_)
        have hy10 : y10.toInt = (x2 + 1 : Int32).toInt := by rw [ey10]
        exact hk2 y10 ⟨(by clear hN2 hN n4 n5; omega), (by clear hN2 hN n4 n5; omega)⟩ (by omega)
set_option maxHeartbeats 1000000 in
set_option maxRecDepth 100000 in
theorem t_X6_hasPlaced (T : Tr) (P : Tr) (x1 : Int32) (hT : iR BT T) (hP : iR BP P) : D (f_X6_hasPlaced T P x1) (fun (q : Int32) => (0 ≤ q.toInt ∧ q.toInt ≤ 1)) := by
  unfold f_X6_hasPlaced
  have l0 : (0 : Int32).toInt = 0 := by decide
  have n12 := i_rng x1
  exact tl_X6_hasPlaced_L2 T P x1 hT hP   2000 (0 : Int32) ⟨(by omega), (by omega)⟩ (by omega)
set_option maxHeartbeats 1000000 in
set_option maxRecDepth 100000 in
theorem tl_X6_isBusy_L2 (T : Tr) (P : Tr) (hT : iR BT T) (hP : iR BP P)   (N : Nat) : ∀ (x1 : Int32), 0 ≤ x1.toInt ∧ x1.toInt ≤ 1000 → 1000 - x1.toInt < (N : Int) → D (lpF (fun _ => none) (fB_X6_isBusy_L2 T P) N x1) (fun (q : Int32) => (0 ≤ q.toInt ∧ q.toInt ≤ 1)) := by
  induction N with
  | zero =>
    intro x1 hx1 hN
    exfalso
    omega
  | succ N2 ih =>
    intro x1 hx1 hN
    have hk2 : ∀ (x1 : Int32), 0 ≤ x1.toInt ∧ x1.toInt ≤ 1000 → 1000 - x1.toInt < (N2 : Int) → D (lpF (fun _ => none) (fB_X6_isBusy_L2 T P) N2 x1) (fun (q : Int32) => (0 ≤ q.toInt ∧ q.toInt ≤ 1)) := ih
    show D (fB_X6_isBusy_L2 T P (lpF (fun _ => none) (fB_X6_isBusy_L2 T P) N2) x1) _
    generalize lpF (fun _ => none) (fB_X6_isBusy_L2 T P) N2 = k2 at hk2 ⊢
    have hN2 : 1000 - x1.toInt < (N2 : Int) + 1 := by omega
    clear ih
    unfold fB_X6_isBusy_L2
    have n2 : 0 ≤ (P 0 1).toInt ∧ (P 0 1).toInt ≤ 6 := hP 0 1
    refine D_ite (fun c1 => ?_) (fun c1 => ?_)
    · have kc1 := tq_le (x := (P 0 1)) (y := x1) rfl rfl c1
      have l0 : (0 : Int32).toInt = 0 := by decide
      exact D_some (show (0 ≤ (0 : Int32).toInt ∧ (0 : Int32).toInt ≤ 1) from ⟨(by clear hx1 hN2 hN n2 kc1; omega), (by clear hx1 hN2 hN n2 kc1; omega)⟩)
    · have kc1 := tq_len (x := (P 0 1)) (y := x1) rfl rfl c1
      refine D_ck (okI_of (by omega) (by omega)) ?_
      have n4 := i_rng (T 11 x1.toNatClampNeg)
      refine D_ite (fun c3 => ?_) (fun c3 => ?_)
      · have kc3 := tq_eq (x := (T 11 x1.toNatClampNeg)) (y := (2 : Int32)) rfl (b := 2) (by decide) c3
        have n6 : (x1 + 1).toInt = x1.toInt + 1 := i_addK rfl (by decide) (by clear hN2 hN n4 kc3; omega) (by clear hN2 hN n4 kc3; omega)
        refine D_lt (fun y5 ey5 => ?_)
        have hy5 : y5.toInt = (x1 + 1 : Int32).toInt := by rw [ey5]
        exact hk2 y5 ⟨(by clear hN2 hN n4 kc3; omega), (by clear hN2 hN n4 kc3; omega)⟩ (by omega)
      · skip
        have l1 : (1 : Int32).toInt = 1 := by decide
        exact D_some (show (0 ≤ (1 : Int32).toInt ∧ (1 : Int32).toInt ≤ 1) from ⟨(by clear hx1 hN2 hN n2 kc1 n4; omega), (by clear hx1 hN2 hN n2 kc1 n4; omega)⟩)
set_option maxHeartbeats 1000000 in
set_option maxRecDepth 100000 in
theorem t_X6_isBusy (T : Tr) (P : Tr) (hT : iR BT T) (hP : iR BP P) : D (f_X6_isBusy T P) (fun (q : Int32) => (0 ≤ q.toInt ∧ q.toInt ≤ 1)) := by
  unfold f_X6_isBusy
  have l0 : (0 : Int32).toInt = 0 := by decide
  exact tl_X6_isBusy_L2 T P hT hP   2000 (0 : Int32) ⟨(by omega), (by omega)⟩ (by omega)
set_option maxHeartbeats 1000000 in
set_option maxRecDepth 100000 in
theorem tl_X6_secondsFor_L26 (zT_0_0 : Int32) (P : Tr) (x2 : Int32) (x4 : Int32) (hP : iR BP P) (hx4 : 0 ≤ x4.toInt ∧ x4.toInt ≤ 4)   (N : Nat) : ∀ (x5 : Int32) (x6 : Int32) (T : Tr) (L : Lo), T 0 0 = zT_0_0 → iR BT T → 0 ≤ x6.toInt ∧ x6.toInt ≤ 1000 → 1000 - x6.toInt < (N : Int) → D (lpF (fun _ _ _ _ => none) (fB_X6_secondsFor_L26 P x2 x4) N x5 x6 T L) (fun (q : Int32 × Tr × Lo) => (iR BT (q.2.1)) ∧ ((q.2.1) 0 0 = zT_0_0)) := by
  induction N with
  | zero =>
    intro x5 x6 T L dT_0_0 hT hx6 hN
    exfalso
    omega
  | succ N26 ih =>
    intro x5 x6 T L dT_0_0 hT hx6 hN
    have hk26 : ∀ (x5 : Int32) (x6 : Int32) (T : Tr) (L : Lo), T 0 0 = zT_0_0 → iR BT T → 0 ≤ x6.toInt ∧ x6.toInt ≤ 1000 → 1000 - x6.toInt < (N26 : Int) → D (lpF (fun _ _ _ _ => none) (fB_X6_secondsFor_L26 P x2 x4) N26 x5 x6 T L) (fun (q : Int32 × Tr × Lo) => (iR BT (q.2.1)) ∧ ((q.2.1) 0 0 = zT_0_0)) := ih
    show D (fB_X6_secondsFor_L26 P x2 x4 (lpF (fun _ _ _ _ => none) (fB_X6_secondsFor_L26 P x2 x4) N26) x5 x6 T L) _
    generalize lpF (fun _ _ _ _ => none) (fB_X6_secondsFor_L26 P x2 x4) N26 = k26 at hk26 ⊢
    have hN26 : 1000 - x6.toInt < (N26 : Int) + 1 := by omega
    clear ih
    unfold fB_X6_secondsFor_L26
    refine D_ck (okI_of (by clear hx6 hN26 hN; omega) (by clear hx6 hN26 hN; omega)) ?_
    have n11 : 0 ≤ (T 17 x4.toNatClampNeg).toInt ∧ (T 17 x4.toNatClampNeg).toInt ≤ 10 := hT 17 x4.toNatClampNeg
    refine D_ite (fun c10 => ?_) (fun c10 => ?_)
    · have kc10 := tq_le (x := (T 17 x4.toNatClampNeg)) (y := x6) rfl rfl c10
      have n12 := i_rng x5
      exact D_some (show (iR BT T) ∧ (T 0 0 = zT_0_0) from ⟨hT, dT_0_0⟩)
    · have kc10 := tq_len (x := (T 17 x4.toNatClampNeg)) (y := x6) rfl rfl c10
      have n13 := i_mulR (a := x4) (b := (10 : Int32)) 10 (by decide) (by clear hx6 hN26 hN n11 kc10; omega) (by clear hx6 hN26 hN n11 kc10; omega)
      have n14 : ((x4 * 10) + x6).toInt = (x4 * 10).toInt + x6.toInt := i_addK rfl rfl (by omega) (by omega)
      refine D_ck (okI_of (by omega) (by omega)) ?_
      refine D_lt (fun y15 ey15 => ?_)
      have n16 : 0 ≤ (T 16 ((x4 * 10) + x6).toNatClampNeg).toInt ∧ (T 16 ((x4 * 10) + x6).toNatClampNeg).toInt ≤ 9 := hT 16 (((x4 * 10) + x6).toNatClampNeg)
      have hy15 : y15.toInt = (T 16 ((x4 * 10) + x6).toNatClampNeg).toInt := by rw [ey15]
      have l0 : (0 : Int32).toInt = 0 := by decide
      have n17 := i_rng x2
      refine D_bd3 (t_X6_worked T P L (0 : Int32) y15 x2 hT hP ⟨(by clear hx4 hx6 hN26 hN n11 kc10 n13 n14 n16 hy15 n17; omega), (by clear hx4 hx6 hN26 hN n11 kc10 n13 n14 n16 hy15 n17; omega)⟩ ⟨(by clear hx4 hx6 hN26 hN n11 kc10 n13 n14 n17; omega), (by clear hx4 hx6 hN26 hN n11 kc10 n13 n14 n17; omega)⟩) (fun r18 T_19 L_20 eq22 hq21 => ?_)
      refine D_lte (y := r18) rfl ?_
      refine D_lte (y := T_19) rfl ?_
      refine D_lte (y := L_20) rfl ?_
      obtain ⟨p23, p24⟩ : (iR BT T_19) ∧ (T_19 0 0 = (T 0 0)) := hq21
      have k25 : T_19 0 0 = zT_0_0 := p24.trans dT_0_0
      refine D_ite (fun c26 => ?_) (fun c26 => ?_)
      · skip
        refine D_ite (fun c27 => ?_) (fun c27 => ?_)
        · have kc27 := tq_le (x := x2) (y := (0 : Int32)) rfl (b := 0) (by decide) c27
          have n29 : (x6 + 1).toInt = x6.toInt + 1 := i_addK rfl (by decide) (by clear hN26 hN n16 hy15 n17 kc27; omega) (by clear hN26 hN n16 hy15 n17 kc27; omega)
          refine D_lt (fun y28 ey28 => ?_)
          have hy28 : y28.toInt = (x6 + 1 : Int32).toInt := by rw [ey28]
          have n30 := i_rng x5
          exact hk26 x5 y28 T_19 L_20 k25 p23 ⟨(by clear hN26 hN n16 hy15 n17 kc27 n30; omega), (by clear hN26 hN n16 hy15 n17 kc27 n30; omega)⟩ (by clear n16 hy15 n17 kc27 n30; omega)
        · have kc27 := tq_len (x := x2) (y := (0 : Int32)) rfl (b := 0) (by decide) c27
          refine D_ck (okI_of (by clear hx4 hx6 hN26 hN n11 kc10 n13 n14 n17 kc27; omega) (by clear hx4 hx6 hN26 hN n11 kc10 n13 n14 n17 kc27; omega)) ?_
          refine D_ck (ok_ne (by clear hx4 hx6 hN26 hN n11 kc10 n13 n14 n16 hy15; omega)) ?_
          refine D_lt (fun y31 ey31 => ?_)
          have n32 := i_rng (x5 + (((P 15 y15.toNatClampNeg) / x2) + 1))
          have hy31 : y31.toInt = (x5 + (((P 15 y15.toNatClampNeg) / x2) + 1)).toInt := by rw [ey31]
          have n34 : (x6 + 1).toInt = x6.toInt + 1 := i_addK rfl (by decide) (by clear hN26 hN n16 hy15 n17 kc27 n32 hy31; omega) (by clear hN26 hN n16 hy15 n17 kc27 n32 hy31; omega)
          refine D_lt (fun y33 ey33 => ?_)
          have hy33 : y33.toInt = (x6 + 1 : Int32).toInt := by rw [ey33]
          exact hk26 y31 y33 T_19 L_20 k25 p23 ⟨(by clear hN26 hN n16 hy15 n17 kc27 n32 hy31; omega), (by clear hN26 hN n16 hy15 n17 kc27 n32 hy31; omega)⟩ (by clear n16 hy15 n17 kc27 n32 hy31; omega)
      · skip
        have l99 : (99 : Int32).toInt = 99 := by decide
        refine D_bd (t_X6_within r18 (99 : Int32) ) (fun r35 eq37 hq36 => ?_)
        have n38 := i_rng r35
        refine D_lt (fun y39 ey39 => ?_)
        have n40 := i_rng (x5 + r35)
        have hy39 : y39.toInt = (x5 + r35).toInt := by rw [ey39]
        have n42 : (x6 + 1).toInt = x6.toInt + 1 := i_addK rfl (by decide) (by clear hN26 hN n16 hy15 n17 n38 n40 hy39; omega) (by clear hN26 hN n16 hy15 n17 n38 n40 hy39; omega)
        refine D_lt (fun y41 ey41 => ?_)
        have hy41 : y41.toInt = (x6 + 1 : Int32).toInt := by rw [ey41]
        exact hk26 y39 y41 T_19 L_20 k25 p23 ⟨(by clear hN26 hN n16 hy15 n17 n38 n40 hy39; omega), (by clear hN26 hN n16 hy15 n17 n38 n40 hy39; omega)⟩ (by clear n16 hy15 n17 n38 n40 hy39; omega)
set_option maxHeartbeats 1000000 in
set_option maxRecDepth 100000 in
theorem t_X6_secondsFor (T : Tr) (P : Tr) (L : Lo) (x1 : Int32) (x2 : Int32) (hT : iR BT T) (hP : iR BP P) (hx1 : 0 ≤ x1.toInt ∧ x1.toInt ≤ 9) : D (f_X6_secondsFor T P L x1 x2) (fun (q : Int32 × Tr × Lo) => (iR BT (q.2.1)) ∧ ((q.2.1) 0 0 = (T 0 0))) := by
  unfold f_X6_secondsFor
  refine D_bd (t_X6_level T x1 hT ⟨(by omega), (by omega)⟩) (fun r1 eq3 hq2 => ?_)
  obtain ⟨p4, p5, p6⟩ : ((-1) ≤ r1.toInt ∧ r1.toInt ≤ 9) ∧ (0 ≤ r1.toInt → r1.toInt < (T 17 (T 15 x1.toNatClampNeg).toNatClampNeg).toInt) ∧ (0 ≤ r1.toInt → 0 ≤ (T 15 x1.toNatClampNeg).toInt) := hq2
  refine D_ite (fun c7 => ?_) (fun c7 => ?_)
  · have kc7 := tq_le (x := (0 : Int32)) (y := r1) (a := 0) (by decide) rfl c7
    refine D_ck (okI_of (by clear p4 p5 p6 kc7; omega) (by clear p4 p5 p6 kc7; omega)) ?_
    refine D_lt (fun y8 ey8 => ?_)
    have n9 : (-1) ≤ (T 15 x1.toNatClampNeg).toInt ∧ (T 15 x1.toNatClampNeg).toInt ≤ 4 := hT 15 x1.toNatClampNeg
    have hy8 : y8.toInt = (T 15 x1.toNatClampNeg).toInt := by rw [ey8]
    have l0 : (0 : Int32).toInt = 0 := by decide
    have n43 := i_rng x2
    exact tl_X6_secondsFor_L26 (T 0 0) P x2 y8 hP ⟨(by omega), (by omega)⟩   2000 (0 : Int32) r1 T L rfl hT ⟨(by omega), (by omega)⟩ (by omega)
  · have kc7 := tq_len (x := (0 : Int32)) (y := r1) (a := 0) (by decide) rfl c7
    have l0 : (0 : Int32).toInt = 0 := by decide
    exact D_some (show (iR BT T) ∧ (T 0 0 = (T 0 0)) from ⟨hT, rfl⟩)
set_option maxHeartbeats 1000000 in
set_option maxRecDepth 100000 in
theorem tl_X6_setFree_L2 (zT_0_0 : Int32) (P : Tr) (x1 : Int32) (x2 : Int32) (hP : iR BP P)   (N : Nat) : ∀ (x3 : Int32) (T : Tr), T 0 0 = zT_0_0 → iR BT T → 0 ≤ x3.toInt ∧ x3.toInt ≤ 1000 → 1000 - x3.toInt < (N : Int) → D (lpF (fun _ _ => none) (fB_X6_setFree_L2 P x1 x2) N x3 T) (fun (q : Tr) => (iR BT q) ∧ (q 0 0 = zT_0_0)) := by
  induction N with
  | zero =>
    intro x3 T dT_0_0 hT hx3 hN
    exfalso
    omega
  | succ N2 ih =>
    intro x3 T dT_0_0 hT hx3 hN
    have hk2 : ∀ (x3 : Int32) (T : Tr), T 0 0 = zT_0_0 → iR BT T → 0 ≤ x3.toInt ∧ x3.toInt ≤ 1000 → 1000 - x3.toInt < (N2 : Int) → D (lpF (fun _ _ => none) (fB_X6_setFree_L2 P x1 x2) N2 x3 T) (fun (q : Tr) => (iR BT q) ∧ (q 0 0 = zT_0_0)) := ih
    show D (fB_X6_setFree_L2 P x1 x2 (lpF (fun _ _ => none) (fB_X6_setFree_L2 P x1 x2) N2) x3 T) _
    generalize lpF (fun _ _ => none) (fB_X6_setFree_L2 P x1 x2) N2 = k2 at hk2 ⊢
    have hN2 : 1000 - x3.toInt < (N2 : Int) + 1 := by omega
    clear ih
    unfold fB_X6_setFree_L2
    have n2 : 0 ≤ (P 0 2).toInt ∧ (P 0 2).toInt ≤ 10 := hP 0 2
    refine D_ite (fun c1 => ?_) (fun c1 => ?_)
    · have kc1 := tq_le (x := (P 0 2)) (y := x3) rfl rfl c1
      exact D_some (show (iR BT T) ∧ (T 0 0 = zT_0_0) from ⟨hT, dT_0_0⟩)
    · have kc1 := tq_len (x := (P 0 2)) (y := x3) rfl rfl c1
      refine D_ck (okI_of (by omega) (by omega)) ?_
      have n4 : 0 ≤ (P 14 x3.toNatClampNeg).toInt ∧ (P 14 x3.toNatClampNeg).toInt ≤ 5 := hP 14 x3.toNatClampNeg
      have n5 := i_rng x1
      refine D_ite (fun c3 => ?_) (fun c3 => ?_)
      · have kc3 := tq_eq (x := (P 14 x3.toNatClampNeg)) (y := x1) rfl rfl c3
        have n7 := i_rng (T 14 x3.toNatClampNeg)
        refine D_ite (fun c6 => ?_) (fun c6 => ?_)
        · have kc6 := tq_eq (x := (T 14 x3.toNatClampNeg)) (y := (1 : Int32)) rfl (b := 1) (by decide) c6
          have n8 := i_rng x2
          refine D_bd (t_X6_takeAway T P x3 x2 hT hP ⟨(by clear hN2 hN n4 n5 kc3 n7 kc6 n8; omega), (by clear hN2 hN n4 n5 kc3 n7 kc6 n8; omega)⟩) (fun T_9 eq11 hq10 => ?_)
          obtain ⟨p12, p13⟩ : (iR BT T_9) ∧ (T_9 0 0 = (T 0 0)) := hq10
          have k14 : T_9 0 0 = zT_0_0 := p13.trans dT_0_0
          have n16 : (x3 + 1).toInt = x3.toInt + 1 := i_addK rfl (by decide) (by clear hN2 hN n4 n5 kc3 n7 kc6 n8; omega) (by clear hN2 hN n4 n5 kc3 n7 kc6 n8; omega)
          refine D_lt (fun y15 ey15 => ?_)
          have hy15 : y15.toInt = (x3 + 1 : Int32).toInt := by rw [ey15]
          exact hk2 y15 T_9 k14 p12 ⟨(by clear hN2 hN n4 n5 kc3 n7 kc6 n8; omega), (by clear hN2 hN n4 n5 kc3 n7 kc6 n8; omega)⟩ (by clear n4 n5 kc3 n7 kc6 n8; omega)
        · skip
          have n18 : (x3 + 1).toInt = x3.toInt + 1 := i_addK rfl (by decide) (by clear hN2 hN n4 n5 kc3 n7; omega) (by clear hN2 hN n4 n5 kc3 n7; omega)
          refine D_lt (fun y17 ey17 => ?_)
          have hy17 : y17.toInt = (x3 + 1 : Int32).toInt := by rw [ey17]
          exact hk2 y17 T dT_0_0 hT ⟨(by clear hN2 hN n4 n5 kc3 n7; omega), (by clear hN2 hN n4 n5 kc3 n7; omega)⟩ (by clear n4 n5 kc3 n7; omega)
      · skip
        have n20 : (x3 + 1).toInt = x3.toInt + 1 := i_addK rfl (by decide) (by clear hN2 hN n4 n5; omega) (by clear hN2 hN n4 n5; omega)
        refine D_lt (fun y19 ey19 => ?_)
        have hy19 : y19.toInt = (x3 + 1 : Int32).toInt := by rw [ey19]
        exact hk2 y19 T dT_0_0 hT ⟨(by clear hN2 hN n4 n5; omega), (by clear hN2 hN n4 n5; omega)⟩ (by omega)
set_option maxHeartbeats 1000000 in
set_option maxRecDepth 100000 in
theorem t_X6_setFree (T : Tr) (P : Tr) (x1 : Int32) (x2 : Int32) (hT : iR BT T) (hP : iR BP P) : D (f_X6_setFree T P x1 x2) (fun (q : Tr) => (iR BT q) ∧ (q 0 0 = (T 0 0))) := by
  unfold f_X6_setFree
  have l0 : (0 : Int32).toInt = 0 := by decide
  have n21 := i_rng x1
  have n22 := i_rng x2
  exact tl_X6_setFree_L2 (T 0 0) P x1 x2 hP   2000 (0 : Int32) T rfl hT ⟨(by omega), (by omega)⟩ (by omega)
-- 31.t02
set_option maxHeartbeats 1000000 in
set_option maxRecDepth 100000 in
theorem tl_X6_takeDown_L53 (zT_0_0 : Int32) (P : Tr) (x1 : Int32) (x4 : Int32) (N7 : Nat) (hP : iR BP P) (hx4 : 0 ≤ x4.toInt ∧ x4.toInt ≤ 5) (hN7 : 1000 - x4.toInt < (N7 : Int) + 1) (k7 : Int32 → Int32 → Int32 → Tr → Lo → Option (Int32 × Tr × Lo)) (hk7 : ∀ (x2 : Int32) (x3 : Int32) (x4 : Int32) (T : Tr) (L : Lo), T 0 0 = zT_0_0 → iR BT T → 0 ≤ x4.toInt ∧ x4.toInt ≤ 1000 → 1000 - x4.toInt < (N7 : Int) → D (k7 x2 x3 x4 T L) (fun (q : Int32 × Tr × Lo) => (iR BT (q.2.1)) ∧ ((q.2.1) 0 0 = zT_0_0))) (N : Nat) : ∀ (x2 : Int32) (x3 : Int32) (x5 : Int32) (T : Tr) (L : Lo), T 0 0 = zT_0_0 → iR BT T → 0 ≤ x5.toInt ∧ x5.toInt ≤ 1000 → 1000 - x5.toInt < (N : Int) → D (lpF (fun _ _ _ _ _ => none) (fB_X6_takeDown_L53 k7 P x1 x4) N x2 x3 x5 T L) (fun (q : Int32 × Tr × Lo) => (iR BT (q.2.1)) ∧ ((q.2.1) 0 0 = zT_0_0)) := by
  induction N with
  | zero =>
    intro x2 x3 x5 T L dT_0_0 hT hx5 hN
    exfalso
    omega
  | succ N53 ih =>
    intro x2 x3 x5 T L dT_0_0 hT hx5 hN
    have hk53 : ∀ (x2 : Int32) (x3 : Int32) (x5 : Int32) (T : Tr) (L : Lo), T 0 0 = zT_0_0 → iR BT T → 0 ≤ x5.toInt ∧ x5.toInt ≤ 1000 → 1000 - x5.toInt < (N53 : Int) → D (lpF (fun _ _ _ _ _ => none) (fB_X6_takeDown_L53 k7 P x1 x4) N53 x2 x3 x5 T L) (fun (q : Int32 × Tr × Lo) => (iR BT (q.2.1)) ∧ ((q.2.1) 0 0 = zT_0_0)) := ih
    show D (fB_X6_takeDown_L53 k7 P x1 x4 (lpF (fun _ _ _ _ _ => none) (fB_X6_takeDown_L53 k7 P x1 x4) N53) x2 x3 x5 T L) _
    generalize lpF (fun _ _ _ _ _ => none) (fB_X6_takeDown_L53 k7 P x1 x4) N53 = k53 at hk53 ⊢
    have hN53 : 1000 - x5.toInt < (N53 : Int) + 1 := by omega
    clear ih
    unfold fB_X6_takeDown_L53
    have n10 : 0 ≤ (P 0 2).toInt ∧ (P 0 2).toInt ≤ 10 := hP 0 2
    refine D_ite (fun c9 => ?_) (fun c9 => ?_)
    · have kc9 := tq_le (x := (P 0 2)) (y := x5) rfl rfl c9
      unfold fJ_X6_takeDown_J176
      have n12 : 0 ≤ (T 0 0).toInt ∧ (T 0 0).toInt ≤ 21 := hT 0 0
      refine D_ite (fun c11 => ?_) (fun c11 => ?_)
      · have kc11 := tq_eq (x := (T 0 0)) (y := (20 : Int32)) rfl (b := 20) (by decide) c11
        have l5 : (5 : Int32).toInt = 5 := by decide
        refine D_bd (t_X6_setFree T P x4 (5 : Int32) hT hP) (fun T_13 eq15 hq14 => ?_)
        obtain ⟨p16, p17⟩ : (iR BT T_13) ∧ (T_13 0 0 = (T 0 0)) := hq14
        have k18 : T_13 0 0 = zT_0_0 := p17.trans dT_0_0
        unfold fJ_X6_takeDown_J192
        refine D_bd (t_X6_hasPlaced T_13 P x4 p16 hP) (fun r19 eq21 hq20 => ?_)
        have p22 : 0 ≤ r19.toInt ∧ r19.toInt ≤ 1 := hq20
        refine D_ite (fun c23 => ?_) (fun c23 => ?_)
        · have kc23 := tq_eq (x := r19) (y := (0 : Int32)) rfl (b := 0) (by decide) c23
          refine D_ck (okI_of (by clear hx5 hN7 hN53 hN n10 kc9 n12 kc11 p22 kc23; omega) (by clear hx5 hN7 hN53 hN n10 kc9 n12 kc11 p22 kc23; omega)) ?_
          refine D_lt (fun T_24 eT_24 => ?_)
          have hT_24 : iR BT T_24 := by rw [eT_24]; exact iR_setU p16 rfl
          have kT_0_0_t25 : T_24 0 0 = zT_0_0 := by rw [eT_24]; exact k18
          have n27 : (x4 + 1).toInt = x4.toInt + 1 := i_addK rfl (by decide) (by clear hx5 hN7 hN53 hN n10 kc9 n12 kc11 p22 kc23; omega) (by clear hx5 hN7 hN53 hN n10 kc9 n12 kc11 p22 kc23; omega)
          refine D_lt (fun y26 ey26 => ?_)
          have hy26 : y26.toInt = (x4 + 1 : Int32).toInt := by rw [ey26]
          have n28 := i_rng x2
          have n29 := i_rng x3
          exact hk7 x2 x3 y26 T_24 L kT_0_0_t25 hT_24 ⟨(by clear hx5 hN7 hN53 hN n10 kc9 n12 kc11 p22 kc23 n28 n29; omega), (by clear hx5 hN7 hN53 hN n10 kc9 n12 kc11 p22 kc23 n28 n29; omega)⟩ (by clear hx5 hN53 hN n10 kc9 n12 kc11 p22 kc23 n28 n29; omega)
        · have kc230 := tq_eqn (x := r19) (y := (0 : Int32)) rfl (b := 0) (by decide) c23
          have kc23 : 1 ≤ r19.toInt := (by clear hx4 hx5 hN7 hN53 hN n10 kc9 n12 kc11; omega)
          clear kc230
          have n31 : (x4 + 1).toInt = x4.toInt + 1 := i_addK rfl (by decide) (by clear hx5 hN7 hN53 hN n10 kc9 n12 kc11 p22 kc23; omega) (by clear hx5 hN7 hN53 hN n10 kc9 n12 kc11 p22 kc23; omega)
          refine D_lt (fun y30 ey30 => ?_)
          have hy30 : y30.toInt = (x4 + 1 : Int32).toInt := by rw [ey30]
          have n32 := i_rng x2
          have n33 := i_rng x3
          exact hk7 x2 x3 y30 T_13 L k18 p16 ⟨(by clear hx5 hN7 hN53 hN n10 kc9 n12 kc11 p22 kc23 n32 n33; omega), (by clear hx5 hN7 hN53 hN n10 kc9 n12 kc11 p22 kc23 n32 n33; omega)⟩ (by clear hx5 hN53 hN n10 kc9 n12 kc11 p22 kc23 n32 n33; omega)
      · skip
        unfold fJ_X6_takeDown_J192
        refine D_bd (t_X6_hasPlaced T P x4 hT hP) (fun r34 eq36 hq35 => ?_)
        have p37 : 0 ≤ r34.toInt ∧ r34.toInt ≤ 1 := hq35
        refine D_ite (fun c38 => ?_) (fun c38 => ?_)
        · have kc38 := tq_eq (x := r34) (y := (0 : Int32)) rfl (b := 0) (by decide) c38
          refine D_ck (okI_of (by clear hx5 hN7 hN53 hN n10 kc9 n12 p37 kc38; omega) (by clear hx5 hN7 hN53 hN n10 kc9 n12 p37 kc38; omega)) ?_
          refine D_lt (fun T_39 eT_39 => ?_)
          have hT_39 : iR BT T_39 := by rw [eT_39]; exact iR_setU hT rfl
          have kT_0_0_t40 : T_39 0 0 = zT_0_0 := by rw [eT_39]; exact dT_0_0
          have n41 : (T_39 0 0).toInt = (T 0 0).toInt := by rw [eT_39]; rfl
          have n43 : (x4 + 1).toInt = x4.toInt + 1 := i_addK rfl (by decide) (by clear hx5 hN7 hN53 hN n10 kc9 n12 p37 kc38 n41; omega) (by clear hx5 hN7 hN53 hN n10 kc9 n12 p37 kc38 n41; omega)
          refine D_lt (fun y42 ey42 => ?_)
          have hy42 : y42.toInt = (x4 + 1 : Int32).toInt := by rw [ey42]
          have n44 := i_rng x2
          have n45 := i_rng x3
          exact hk7 x2 x3 y42 T_39 L kT_0_0_t40 hT_39 ⟨(by clear hx5 hN7 hN53 hN n10 kc9 n12 p37 kc38 n41 n44 n45; omega), (by clear hx5 hN7 hN53 hN n10 kc9 n12 p37 kc38 n41 n44 n45; omega)⟩ (by clear hx5 hN53 hN n10 kc9 n12 p37 kc38 n41 n44 n45; omega)
        · have kc380 := tq_eqn (x := r34) (y := (0 : Int32)) rfl (b := 0) (by decide) c38
          have kc38 : 1 ≤ r34.toInt := (by clear hx4 hx5 hN7 hN53 hN n10 kc9 n12; omega)
          clear kc380
          have n47 : (x4 + 1).toInt = x4.toInt + 1 := i_addK rfl (by decide) (by clear hx5 hN7 hN53 hN n10 kc9 n12 p37 kc38; omega) (by clear hx5 hN7 hN53 hN n10 kc9 n12 p37 kc38; omega)
          refine D_lt (fun y46 ey46 => ?_)
          have hy46 : y46.toInt = (x4 + 1 : Int32).toInt := by rw [ey46]
          have n48 := i_rng x2
          have n49 := i_rng x3
          exact hk7 x2 x3 y46 T L dT_0_0 hT ⟨(by clear hx5 hN7 hN53 hN n10 kc9 n12 p37 kc38 n48 n49; omega), (by clear hx5 hN7 hN53 hN n10 kc9 n12 p37 kc38 n48 n49; omega)⟩ (by clear hx5 hN53 hN n10 kc9 n12 p37 kc38 n48 n49; omega)
    · have kc9 := tq_len (x := (P 0 2)) (y := x5) rfl rfl c9
      have n51 := i_rng x3
      refine D_ite (fun c50 => ?_) (fun c50 => ?_)
      · have kc50 := tq_eq (x := x3) (y := (0 : Int32)) rfl (b := 0) (by decide) c50
        unfold fJ_X6_takeDown_J176
        have n53 : 0 ≤ (T 0 0).toInt ∧ (T 0 0).toInt ≤ 21 := hT 0 0
        refine D_ite (fun c52 => ?_) (fun c52 => ?_)
        · have kc52 := tq_eq (x := (T 0 0)) (y := (20 : Int32)) rfl (b := 20) (by decide) c52
          have l5 : (5 : Int32).toInt = 5 := by decide
          refine D_bd (t_X6_setFree T P x4 (5 : Int32) hT hP) (fun T_54 eq56 hq55 => ?_)
          obtain ⟨p57, p58⟩ : (iR BT T_54) ∧ (T_54 0 0 = (T 0 0)) := hq55
          have k59 : T_54 0 0 = zT_0_0 := p58.trans dT_0_0
          unfold fJ_X6_takeDown_J192
          refine D_bd (t_X6_hasPlaced T_54 P x4 p57 hP) (fun r60 eq62 hq61 => ?_)
          have p63 : 0 ≤ r60.toInt ∧ r60.toInt ≤ 1 := hq61
          refine D_ite (fun c64 => ?_) (fun c64 => ?_)
          · have kc64 := tq_eq (x := r60) (y := (0 : Int32)) rfl (b := 0) (by decide) c64
            refine D_ck (okI_of (by clear hx5 hN7 hN53 hN n10 kc9 n51 kc50 n53 kc52 p63 kc64; omega) (by clear hx5 hN7 hN53 hN n10 kc9 n51 kc50 n53 kc52 p63 kc64; omega)) ?_
            refine D_lt (fun T_65 eT_65 => ?_)
            have hT_65 : iR BT T_65 := by rw [eT_65]; exact iR_setU p57 rfl
            have kT_0_0_t66 : T_65 0 0 = zT_0_0 := by rw [eT_65]; exact k59
            have n68 : (x4 + 1).toInt = x4.toInt + 1 := i_addK rfl (by decide) (by clear hx5 hN7 hN53 hN n10 kc9 n51 kc50 n53 kc52 p63 kc64; omega) (by clear hx5 hN7 hN53 hN n10 kc9 n51 kc50 n53 kc52 p63 kc64; omega)
            refine D_lt (fun y67 ey67 => ?_)
            have hy67 : y67.toInt = (x4 + 1 : Int32).toInt := by rw [ey67]
            have n69 := i_rng x2
            exact hk7 x2 x3 y67 T_65 L kT_0_0_t66 hT_65 ⟨(by clear hx5 hN7 hN53 hN n10 kc9 n51 kc50 n53 kc52 p63 kc64 n69; omega), (by clear hx5 hN7 hN53 hN n10 kc9 n51 kc50 n53 kc52 p63 kc64 n69; omega)⟩ (by clear hx5 hN53 hN n10 kc9 n51 kc50 n53 kc52 p63 kc64 n69; omega)
          · have kc640 := tq_eqn (x := r60) (y := (0 : Int32)) rfl (b := 0) (by decide) c64
            have kc64 : 1 ≤ r60.toInt := (by clear hx4 hx5 hN7 hN53 hN n10 kc9 n51 kc50 n53 kc52; omega)
            clear kc640
            have n71 : (x4 + 1).toInt = x4.toInt + 1 := i_addK rfl (by decide) (by clear hx5 hN7 hN53 hN n10 kc9 n51 kc50 n53 kc52 p63 kc64; omega) (by clear hx5 hN7 hN53 hN n10 kc9 n51 kc50 n53 kc52 p63 kc64; omega)
            refine D_lt (fun y70 ey70 => ?_)
            have hy70 : y70.toInt = (x4 + 1 : Int32).toInt := by rw [ey70]
            have n72 := i_rng x2
            exact hk7 x2 x3 y70 T_54 L k59 p57 ⟨(by clear hx5 hN7 hN53 hN n10 kc9 n51 kc50 n53 kc52 p63 kc64 n72; omega), (by clear hx5 hN7 hN53 hN n10 kc9 n51 kc50 n53 kc52 p63 kc64 n72; omega)⟩ (by clear hx5 hN53 hN n10 kc9 n51 kc50 n53 kc52 p63 kc64 n72; omega)
        · skip
          unfold fJ_X6_takeDown_J192
          refine D_bd (t_X6_hasPlaced T P x4 hT hP) (fun r73 eq75 hq74 => ?_)
          have p76 : 0 ≤ r73.toInt ∧ r73.toInt ≤ 1 := hq74
          refine D_ite (fun c77 => ?_) (fun c77 => ?_)
          · have kc77 := tq_eq (x := r73) (y := (0 : Int32)) rfl (b := 0) (by decide) c77
            refine D_ck (okI_of (by clear hx5 hN7 hN53 hN n10 kc9 n51 kc50 n53 p76 kc77; omega) (by clear hx5 hN7 hN53 hN n10 kc9 n51 kc50 n53 p76 kc77; omega)) ?_
            refine D_lt (fun T_78 eT_78 => ?_)
            have hT_78 : iR BT T_78 := by rw [eT_78]; exact iR_setU hT rfl
            have kT_0_0_t79 : T_78 0 0 = zT_0_0 := by rw [eT_78]; exact dT_0_0
            have n80 : (T_78 0 0).toInt = (T 0 0).toInt := by rw [eT_78]; rfl
            have n82 : (x4 + 1).toInt = x4.toInt + 1 := i_addK rfl (by decide) (by clear hx5 hN7 hN53 hN n10 kc9 n51 kc50 n53 p76 kc77 n80; omega) (by clear hx5 hN7 hN53 hN n10 kc9 n51 kc50 n53 p76 kc77 n80; omega)
            refine D_lt (fun y81 ey81 => ?_)
            have hy81 : y81.toInt = (x4 + 1 : Int32).toInt := by rw [ey81]
            have n83 := i_rng x2
            exact hk7 x2 x3 y81 T_78 L kT_0_0_t79 hT_78 ⟨(by clear hx5 hN7 hN53 hN n10 kc9 n51 kc50 n53 p76 kc77 n80 n83; omega), (by clear hx5 hN7 hN53 hN n10 kc9 n51 kc50 n53 p76 kc77 n80 n83; omega)⟩ (by clear hx5 hN53 hN n10 kc9 n51 kc50 n53 p76 kc77 n80 n83; omega)
          · have kc770 := tq_eqn (x := r73) (y := (0 : Int32)) rfl (b := 0) (by decide) c77
            have kc77 : 1 ≤ r73.toInt := (by clear hx4 hx5 hN7 hN53 hN n10 kc9 n51 kc50 n53; omega)
            clear kc770
            have n85 : (x4 + 1).toInt = x4.toInt + 1 := i_addK rfl (by decide) (by clear hx5 hN7 hN53 hN n10 kc9 n51 kc50 n53 p76 kc77; omega) (by clear hx5 hN7 hN53 hN n10 kc9 n51 kc50 n53 p76 kc77; omega)
            refine D_lt (fun y84 ey84 => ?_)
            have hy84 : y84.toInt = (x4 + 1 : Int32).toInt := by rw [ey84]
            have n86 := i_rng x2
            exact hk7 x2 x3 y84 T L dT_0_0 hT ⟨(by clear hx5 hN7 hN53 hN n10 kc9 n51 kc50 n53 p76 kc77 n86; omega), (by clear hx5 hN7 hN53 hN n10 kc9 n51 kc50 n53 p76 kc77 n86; omega)⟩ (by clear hx5 hN53 hN n10 kc9 n51 kc50 n53 p76 kc77 n86; omega)
      · skip
        refine D_ck (okI_of (by clear hx4 hN7 hN53 hN n51; omega) (by clear hx4 hN7 hN53 hN n51; omega)) ?_
        have n88 : 0 ≤ (P 14 x5.toNatClampNeg).toInt ∧ (P 14 x5.toNatClampNeg).toInt ≤ 5 := hP 14 x5.toNatClampNeg
        refine D_ite (fun c87 => ?_) (fun c87 => ?_)
        · have kc87 := tq_eq (x := (P 14 x5.toNatClampNeg)) (y := x4) rfl rfl c87
          have n90 := i_rng (T 14 x5.toNatClampNeg)
          refine D_ite (fun c89 => ?_) (fun c89 => ?_)
          · have kc89 := tq_eq (x := (T 14 x5.toNatClampNeg)) (y := (1 : Int32)) rfl (b := 1) (by decide) c89
            refine D_ck (okI_of (by clear hx5 hN7 hN53 hN n10 kc9 n51 n90 kc89; omega) (by clear hx5 hN7 hN53 hN n10 kc9 n51 n90 kc89; omega)) ?_
            have n91 := i_rng (T 10 x4.toNatClampNeg)
            refine D_bd3 (t_X6_secondsFor T P L x5 (T 10 x4.toNatClampNeg) hT hP ⟨(by clear hx4 hN7 hN53 hN n51 n88 kc87 n90 kc89 n91; omega), (by clear hx4 hN7 hN53 hN n51 n88 kc87 n90 kc89 n91; omega)⟩) (fun r92 T_93 L_94 eq96 hq95 => ?_)
            refine D_lte (y := r92) rfl ?_
            refine D_lte (y := T_93) rfl ?_
            refine D_lte (y := L_94) rfl ?_
            obtain ⟨p97, p98⟩ : (iR BT T_93) ∧ (T_93 0 0 = (T 0 0)) := hq95
            have n99 := i_rng r92
            have k100 : T_93 0 0 = zT_0_0 := p98.trans dT_0_0
            have n102 := i_rng (x2 + r92)
            have n103 := i_rng x1
            refine D_ite (fun c101 => ?_) (fun c101 => ?_)
            · have kc101 := tq_lt (x := x1) (y := (x2 + r92)) rfl rfl c101
              unfold fJ_X6_takeDown_J126
              have l0 : (0 : Int32).toInt = 0 := by decide
              refine D_ite (fun c104 => ?_) (fun c104 => ?_)
              · have kc104 := tq_eq (x := (0 : Int32)) (y := (0 : Int32)) rfl rfl c104
                have n106 : (x5 + 1).toInt = x5.toInt + 1 := i_addK rfl (by decide) (by clear hx4 hN7 hN53 hN n51 n88 kc87 n90 kc89 n91 n99 n102 n103 kc101; omega) (by clear hx4 hN7 hN53 hN n51 n88 kc87 n90 kc89 n91 n99 n102 n103 kc101; omega)
                refine D_lt (fun y105 ey105 => ?_)
                have hy105 : y105.toInt = (x5 + 1 : Int32).toInt := by rw [ey105]
                have n107 := i_rng x2
                exact hk53 x2 (0 : Int32) y105 T_93 L_94 k100 p97 ⟨(by clear hx4 hN7 hN53 hN n51 n88 kc87 n90 kc89 n91 n99 n102 n103 kc101 n107; omega), (by clear hx4 hN7 hN53 hN n51 n88 kc87 n90 kc89 n91 n99 n102 n103 kc101 n107; omega)⟩ (by clear hx4 hN7 n51 n88 kc87 n90 kc89 n91 n99 n102 n103 kc101 n107; omega)
              · have kc1040 := tq_eqn (x := (0 : Int32)) (y := (0 : Int32)) rfl rfl c104
                have kc104 : 1 ≤ (0 : Int32).toInt := (by clear hx4 hx5 hN7 hN53 hN n10 kc9 n51 n88 kc87 n90 kc89 n91 n99 n102 n103 kc101; omega)
                clear kc1040
                exfalso
                exact (by clear hx4 hx5 hN7 hN53 hN n10 kc9 n51 n88 kc87 n90 kc89 n91 n99 n102 n103 kc101; omega)
            · have kc101 := tq_ltn (x := x1) (y := (x2 + r92)) rfl rfl c101
              unfold fJ_X6_takeDown_J126
              have l1 : (1 : Int32).toInt = 1 := by decide
              have l0 : (0 : Int32).toInt = 0 := by decide
              refine D_ite (fun c108 => ?_) (fun c108 => ?_)
              · have kc108 := tq_eq (x := (1 : Int32)) (y := (0 : Int32)) (a := 1) (by decide) (b := 0) (by decide) c108
                exfalso
                exact (by clear hx4 hx5 hN7 hN53 hN n10 kc9 n51 n88 kc87 n90 kc89 n91 n99 n102 n103 kc101; omega)
              · skip
                refine D_lt (fun y109 ey109 => ?_)
                have hy109 : y109.toInt = (x2 + r92).toInt := by rw [ey109]
                refine D_ck (okI_of (by clear hx5 hN7 hN53 hN n10 kc9 n51 n90 kc89 n91 n99 n102 n103 kc101 hy109; omega) (by clear hx5 hN7 hN53 hN n10 kc9 n51 n90 kc89 n91 n99 n102 n103 kc101 hy109; omega)) ?_
                refine D_lt (fun T_110 eT_110 => ?_)
                have hT_110 : iR BT T_110 := by rw [eT_110]; exact iR_setU p97 rfl
                have kT_0_0_t111 : T_110 0 0 = zT_0_0 := by rw [eT_110]; exact k100
                refine D_bd (t_X6_above T_110 x5 hT_110 ⟨(by clear hx4 hN7 hN53 hN n51 n88 kc87 n90 kc89 n91 n99 n102 n103 kc101 hy109; omega), (by clear hx4 hN7 hN53 hN n51 n88 kc87 n90 kc89 n91 n99 n102 n103 kc101 hy109; omega)⟩) (fun r112 eq114 hq113 => ?_)
                have n115 := i_rng r112
                refine D_lt (fun T_116 eT_116 => ?_)
                have hT_116 : iR BT T_116 := by rw [eT_116]; exact iR_setU hT_110 rfl
                have kT_0_0_t117 : T_116 0 0 = zT_0_0 := by rw [eT_116]; exact kT_0_0_t111
                have l2 : (2 : Int32).toInt = 2 := by decide
                refine D_bd (t_X6_takeAway T_116 P x5 (2 : Int32) hT_116 hP ⟨(by clear hx4 hN7 hN53 hN n51 n88 kc87 n90 kc89 n91 n99 n102 n103 kc101 hy109 n115; omega), (by clear hx4 hN7 hN53 hN n51 n88 kc87 n90 kc89 n91 n99 n102 n103 kc101 hy109 n115; omega)⟩) (fun T_118 eq120 hq119 => ?_)
                obtain ⟨p121, p122⟩ : (iR BT T_118) ∧ (T_118 0 0 = (T_116 0 0)) := hq119
                have k123 : T_118 0 0 = zT_0_0 := p122.trans kT_0_0_t117
                have n125 : (x5 + 1).toInt = x5.toInt + 1 := i_addK rfl (by decide) (by clear hx4 hN7 hN53 hN n51 n88 kc87 n90 kc89 n91 n99 n102 n103 kc101 hy109 n115; omega) (by clear hx4 hN7 hN53 hN n51 n88 kc87 n90 kc89 n91 n99 n102 n103 kc101 hy109 n115; omega)
                refine D_lt (fun y124 ey124 => ?_)
                have hy124 : y124.toInt = (x5 + 1 : Int32).toInt := by rw [ey124]
                exact hk53 y109 (1 : Int32) y124 T_118 L_94 k123 p121 ⟨(by clear hx4 hN7 hN53 hN n51 n88 kc87 n90 kc89 n91 n99 n102 n103 kc101 hy109 n115; omega), (by clear hx4 hN7 hN53 hN n51 n88 kc87 n90 kc89 n91 n99 n102 n103 kc101 hy109 n115; omega)⟩ (by clear hx4 hN7 n51 n88 kc87 n90 kc89 n91 n99 n102 n103 kc101 hy109 n115; omega)
          · skip
            have n127 : (x5 + 1).toInt = x5.toInt + 1 := i_addK rfl (by decide) (by clear hx4 hN7 hN53 hN n51 n88 kc87 n90; omega) (by clear hx4 hN7 hN53 hN n51 n88 kc87 n90; omega)
            refine D_lt (fun y126 ey126 => ?_)
            have hy126 : y126.toInt = (x5 + 1 : Int32).toInt := by rw [ey126]
            have n128 := i_rng x2
            exact hk53 x2 x3 y126 T L dT_0_0 hT ⟨(by clear hx4 hN7 hN53 hN n51 n88 kc87 n90 n128; omega), (by clear hx4 hN7 hN53 hN n51 n88 kc87 n90 n128; omega)⟩ (by clear hx4 hN7 n51 n88 kc87 n90 n128; omega)
        · skip
          have n130 : (x5 + 1).toInt = x5.toInt + 1 := i_addK rfl (by decide) (by clear hx4 hN7 hN53 hN n51 n88; omega) (by clear hx4 hN7 hN53 hN n51 n88; omega)
          refine D_lt (fun y129 ey129 => ?_)
          have hy129 : y129.toInt = (x5 + 1 : Int32).toInt := by rw [ey129]
          have n131 := i_rng x2
          exact hk53 x2 x3 y129 T L dT_0_0 hT ⟨(by clear hx4 hN7 hN53 hN n51 n88 n131; omega), (by clear hx4 hN7 hN53 hN n51 n88 n131; omega)⟩ (by clear hx4 hN7 n51 n88 n131; omega)
set_option maxHeartbeats 1000000 in
set_option maxRecDepth 100000 in
theorem tl_X6_takeDown_L7 (zT_0_0 : Int32) (P : Tr) (x1 : Int32) (hP : iR BP P)   (N : Nat) : ∀ (x2 : Int32) (x3 : Int32) (x4 : Int32) (T : Tr) (L : Lo), T 0 0 = zT_0_0 → iR BT T → 0 ≤ x4.toInt ∧ x4.toInt ≤ 1000 → 1000 - x4.toInt < (N : Int) → D (lpF (fun _ _ _ _ _ => none) (fB_X6_takeDown_L7 P x1) N x2 x3 x4 T L) (fun (q : Int32 × Tr × Lo) => (iR BT (q.2.1)) ∧ ((q.2.1) 0 0 = zT_0_0)) := by
  induction N with
  | zero =>
    intro x2 x3 x4 T L dT_0_0 hT hx4 hN
    exfalso
    omega
  | succ N7 ih =>
    intro x2 x3 x4 T L dT_0_0 hT hx4 hN
    have hk7 : ∀ (x2 : Int32) (x3 : Int32) (x4 : Int32) (T : Tr) (L : Lo), T 0 0 = zT_0_0 → iR BT T → 0 ≤ x4.toInt ∧ x4.toInt ≤ 1000 → 1000 - x4.toInt < (N7 : Int) → D (lpF (fun _ _ _ _ _ => none) (fB_X6_takeDown_L7 P x1) N7 x2 x3 x4 T L) (fun (q : Int32 × Tr × Lo) => (iR BT (q.2.1)) ∧ ((q.2.1) 0 0 = zT_0_0)) := ih
    show D (fB_X6_takeDown_L7 P x1 (lpF (fun _ _ _ _ _ => none) (fB_X6_takeDown_L7 P x1) N7) x2 x3 x4 T L) _
    generalize lpF (fun _ _ _ _ _ => none) (fB_X6_takeDown_L7 P x1) N7 = k7 at hk7 ⊢
    have hN7 : 1000 - x4.toInt < (N7 : Int) + 1 := by omega
    clear ih
    unfold fB_X6_takeDown_L7
    have n2 : 0 ≤ (P 0 1).toInt ∧ (P 0 1).toInt ≤ 6 := hP 0 1
    refine D_ite (fun c1 => ?_) (fun c1 => ?_)
    · have kc1 := tq_le (x := (P 0 1)) (y := x4) rfl rfl c1
      have n3 := i_rng x2
      exact D_some (show (iR BT T) ∧ (T 0 0 = zT_0_0) from ⟨hT, dT_0_0⟩)
    · have kc1 := tq_len (x := (P 0 1)) (y := x4) rfl rfl c1
      refine D_ck (okI_of (by omega) (by omega)) ?_
      have n5 := i_rng (T 11 x4.toNatClampNeg)
      refine D_ite (fun c4 => ?_) (fun c4 => ?_)
      · have kc4 := tq_eq (x := (T 11 x4.toNatClampNeg)) (y := (1 : Int32)) rfl (b := 1) (by decide) c4
        have n7 : 0 ≤ (P 12 x4.toNatClampNeg).toInt ∧ (P 12 x4.toNatClampNeg).toInt ≤ 20 := hP 12 x4.toNatClampNeg
        have n8 : 0 ≤ (T 0 0).toInt ∧ (T 0 0).toInt ≤ 21 := hT 0 0
        refine D_ite (fun c6 => ?_) (fun c6 => ?_)
        · have kc6 := tq_le (x := (P 12 x4.toNatClampNeg)) (y := (T 0 0)) rfl rfl c6
          have n132 := i_rng x2
          have n133 := i_rng x3
          have l0 : (0 : Int32).toInt = 0 := by decide
          have n134 := i_rng x1
          exact tl_X6_takeDown_L53 zT_0_0 P x1 x4 N7 hP ⟨(by clear hN7 hN n5 kc4 n7 n8 kc6 n132 n133 n134; omega), (by clear hN7 hN n5 kc4 n7 n8 kc6 n132 n133 n134; omega)⟩ hN7 k7 hk7 2000 x2 x3 (0 : Int32) T L dT_0_0 hT ⟨(by clear hx4 hN7 hN n2 kc1 n5 kc4 n7 n8 kc6 n132 n133 n134; omega), (by clear hx4 hN7 hN n2 kc1 n5 kc4 n7 n8 kc6 n132 n133 n134; omega)⟩ (by clear hx4 hN7 hN n2 kc1 n5 kc4 n7 n8 kc6 n132 n133 n134; omega)
        · have kc6 := tq_len (x := (P 12 x4.toNatClampNeg)) (y := (T 0 0)) rfl rfl c6
          have n136 : (x4 + 1).toInt = x4.toInt + 1 := i_addK rfl (by decide) (by clear hN7 hN n5 kc4 n7 n8 kc6; omega) (by clear hN7 hN n5 kc4 n7 n8 kc6; omega)
          refine D_lt (fun y135 ey135 => ?_)
          have hy135 : y135.toInt = (x4 + 1 : Int32).toInt := by rw [ey135]
          have n137 := i_rng x2
          have n138 := i_rng x3
          exact hk7 x2 x3 y135 T L dT_0_0 hT ⟨(by clear hN7 hN n5 kc4 n7 n8 kc6 n137 n138; omega), (by clear hN7 hN n5 kc4 n7 n8 kc6 n137 n138; omega)⟩ (by clear n5 kc4 n7 n8 kc6 n137 n138; omega)
      · skip
        have n140 : (x4 + 1).toInt = x4.toInt + 1 := i_addK rfl (by decide) (by clear hN7 hN n5; omega) (by clear hN7 hN n5; omega)
        refine D_lt (fun y139 ey139 => ?_)
        have hy139 : y139.toInt = (x4 + 1 : Int32).toInt := by rw [ey139]
        have n141 := i_rng x2
        have n142 := i_rng x3
        exact hk7 x2 x3 y139 T L dT_0_0 hT ⟨(by clear hN7 hN n5 n141 n142; omega), (by clear hN7 hN n5 n141 n142; omega)⟩ (by clear n5 n141 n142; omega)
set_option maxHeartbeats 1000000 in
set_option maxRecDepth 100000 in
theorem t_X6_takeDown (T : Tr) (P : Tr) (L : Lo) (x1 : Int32) (hT : iR BT T) (hP : iR BP P) : D (f_X6_takeDown T P L x1) (fun (q : Int32 × Tr × Lo) => (iR BT (q.2.1)) ∧ ((q.2.1) 0 0 = (T 0 0))) := by
  unfold f_X6_takeDown
  have l0 : (0 : Int32).toInt = 0 := by decide
  have l1 : (1 : Int32).toInt = 1 := by decide
  have n143 := i_rng x1
  exact tl_X6_takeDown_L7 (T 0 0) P x1 hP   2000 (0 : Int32) (1 : Int32) (0 : Int32) T L rfl hT ⟨(by omega), (by omega)⟩ (by omega)
set_option maxHeartbeats 1000000 in
set_option maxRecDepth 100000 in
theorem t_X6_stealPercent (T : Tr) (P : Tr) (L : Lo) (x1 : Int32) (hT : iR BT T) (hP : iR BP P) (hx1 : 0 ≤ x1.toInt ∧ x1.toInt ≤ 9) : D (f_X6_stealPercent T P L x1) (fun (q : Int32 × Tr × Lo) => (iR BT (q.2.1)) ∧ ((q.2.1) 0 0 = (T 0 0))) := by
  unfold f_X6_stealPercent
  refine D_ck (okI_of (by omega) (by omega)) ?_
  have n1 : 0 ≤ (P 14 x1.toNatClampNeg).toInt ∧ (P 14 x1.toNatClampNeg).toInt ≤ 5 := hP 14 x1.toNatClampNeg
  refine D_ck (okI_of (by omega) (by omega)) ?_
  have l2 : (2 : Int32).toInt = 2 := by decide
  have n2 := i_rng (T 10 (P 14 x1.toNatClampNeg).toNatClampNeg)
  refine D_bd3 (t_X6_worked T P L (2 : Int32) x1 (T 10 (P 14 x1.toNatClampNeg).toNatClampNeg) hT hP ⟨(by clear hx1 n1 n2; omega), (by clear hx1 n1 n2; omega)⟩ ⟨(by omega), (by omega)⟩) (fun r3 T_4 L_5 eq7 hq6 => ?_)
  refine D_lte (y := r3) rfl ?_
  refine D_lte (y := T_4) rfl ?_
  refine D_lte (y := L_5) rfl ?_
  obtain ⟨p8, p9⟩ : (iR BT T_4) ∧ (T_4 0 0 = (T 0 0)) := hq6
  have k10 : T_4 0 0 = (T 0 0) := p9
  refine D_ite (fun c11 => ?_) (fun c11 => ?_)
  · skip
    have l10 : (10 : Int32).toInt = 10 := by decide
    exact D_some (show (iR BT T_4) ∧ (T_4 0 0 = (T 0 0)) from ⟨p8, k10⟩)
  · skip
    have l100 : (100 : Int32).toInt = 100 := by decide
    refine D_bd (t_X6_within r3 (100 : Int32) ) (fun r12 eq14 hq13 => ?_)
    have n15 := i_rng r12
    exact D_some (show (iR BT T_4) ∧ (T_4 0 0 = (T 0 0)) from ⟨p8, k10⟩)
set_option maxHeartbeats 1000000 in
set_option maxRecDepth 100000 in
theorem tl_X6_stealAway_L2 (zT_0_0 : Int32) (P : Tr) (hP : iR BP P)   (N : Nat) : ∀ (x1 : Int32) (T : Tr) (L : Lo), T 0 0 = zT_0_0 → iR BT T → 0 ≤ x1.toInt ∧ x1.toInt ≤ 1000 → 1000 - x1.toInt < (N : Int) → D (lpF (fun _ _ _ => none) (fB_X6_stealAway_L2 P) N x1 T L) (fun (q : Tr × Lo) => (iR BT (q.1)) ∧ ((q.1) 0 0 = zT_0_0)) := by
  induction N with
  | zero =>
    intro x1 T L dT_0_0 hT hx1 hN
    exfalso
    omega
  | succ N2 ih =>
    intro x1 T L dT_0_0 hT hx1 hN
    have hk2 : ∀ (x1 : Int32) (T : Tr) (L : Lo), T 0 0 = zT_0_0 → iR BT T → 0 ≤ x1.toInt ∧ x1.toInt ≤ 1000 → 1000 - x1.toInt < (N2 : Int) → D (lpF (fun _ _ _ => none) (fB_X6_stealAway_L2 P) N2 x1 T L) (fun (q : Tr × Lo) => (iR BT (q.1)) ∧ ((q.1) 0 0 = zT_0_0)) := ih
    show D (fB_X6_stealAway_L2 P (lpF (fun _ _ _ => none) (fB_X6_stealAway_L2 P) N2) x1 T L) _
    generalize lpF (fun _ _ _ => none) (fB_X6_stealAway_L2 P) N2 = k2 at hk2 ⊢
    have hN2 : 1000 - x1.toInt < (N2 : Int) + 1 := by omega
    clear ih
    unfold fB_X6_stealAway_L2
    have n2 : 0 ≤ (P 0 2).toInt ∧ (P 0 2).toInt ≤ 10 := hP 0 2
    refine D_ite (fun c1 => ?_) (fun c1 => ?_)
    · have kc1 := tq_le (x := (P 0 2)) (y := x1) rfl rfl c1
      exact D_some (show (iR BT T) ∧ (T 0 0 = zT_0_0) from ⟨hT, dT_0_0⟩)
    · have kc1 := tq_len (x := (P 0 2)) (y := x1) rfl rfl c1
      have n4 := i_rng (T 0 7)
      refine D_ite (fun c3 => ?_) (fun c3 => ?_)
      · have kc3 := tq_eq (x := (T 0 7)) (y := (0 : Int32)) rfl (b := 0) (by decide) c3
        exact D_some (show (iR BT T) ∧ (T 0 0 = zT_0_0) from ⟨hT, dT_0_0⟩)
      · skip
        refine D_ck (okI_of (by clear hN2 hN n4; omega) (by clear hN2 hN n4; omega)) ?_
        refine D_lt (fun y5 ey5 => ?_)
        have n6 : (-1) ≤ (T 15 x1.toNatClampNeg).toInt ∧ (T 15 x1.toNatClampNeg).toInt ≤ 4 := hT 15 x1.toNatClampNeg
        have hy5 : y5.toInt = (T 15 x1.toNatClampNeg).toInt := by rw [ey5]
        refine D_ite (fun c7 => ?_) (fun c7 => ?_)
        · have kc7 := tq_lt (x := y5) (y := (0 : Int32)) rfl (b := 0) (by decide) c7
          have n9 : (x1 + 1).toInt = x1.toInt + 1 := i_addK rfl (by decide) (by clear hN2 hN n4 n6 hy5 kc7; omega) (by clear hN2 hN n4 n6 hy5 kc7; omega)
          refine D_lt (fun y8 ey8 => ?_)
          have hy8 : y8.toInt = (x1 + 1 : Int32).toInt := by rw [ey8]
          exact hk2 y8 T L dT_0_0 hT ⟨(by clear hN2 hN n4 n6 hy5 kc7; omega), (by clear hN2 hN n4 n6 hy5 kc7; omega)⟩ (by clear n4 n6 hy5 kc7; omega)
        · have kc7 := tq_ltn (x := y5) (y := (0 : Int32)) rfl (b := 0) (by decide) c7
          refine D_ck (okI_of (by clear hx1 hN2 hN n2 kc1 n4; omega) (by clear hx1 hN2 hN n2 kc1 n4; omega)) ?_
          have n11 := i_rng (P 8 y5.toNatClampNeg)
          refine D_ite (fun c10 => ?_) (fun c10 => ?_)
          · have kc10 := tq_eq (x := (P 8 y5.toNatClampNeg)) (y := (4 : Int32)) rfl (b := 4) (by decide) c10
            refine D_bd3 (t_X6_stealPercent T P L x1 hT hP ⟨(by clear hN2 hN n4 n6 hy5 kc7 n11 kc10; omega), (by clear hN2 hN n4 n6 hy5 kc7 n11 kc10; omega)⟩) (fun r12 T_13 L_14 eq16 hq15 => ?_)
            refine D_lte (y := r12) rfl ?_
            refine D_lte (y := T_13) rfl ?_
            refine D_lte (y := L_14) rfl ?_
            obtain ⟨p17, p18⟩ : (iR BT T_13) ∧ (T_13 0 0 = (T 0 0)) := hq15
            have n19 := i_rng r12
            have k20 : T_13 0 0 = zT_0_0 := p18.trans dT_0_0
            refine D_bd2 (t_X6_happens T_13 r12 p17) (fun r21 T_22 eq24 hq23 => ?_)
            refine D_lte (y := r21) rfl ?_
            refine D_lte (y := T_22) rfl ?_
            obtain ⟨p25, p26, p27⟩ : (0 ≤ r21.toInt ∧ r21.toInt ≤ 1) ∧ (iR BT T_22) ∧ (T_22 0 0 = (T_13 0 0)) := hq23
            have k28 : T_22 0 0 = zT_0_0 := p27.trans k20
            refine D_ite (fun c29 => ?_) (fun c29 => ?_)
            · have kc29 := tq_eq (x := r21) (y := (0 : Int32)) rfl (b := 0) (by decide) c29
              have n31 : (x1 + 1).toInt = x1.toInt + 1 := i_addK rfl (by decide) (by clear hN2 hN n4 n6 hy5 kc7 n11 kc10 n19 p25 kc29; omega) (by clear hN2 hN n4 n6 hy5 kc7 n11 kc10 n19 p25 kc29; omega)
              refine D_lt (fun y30 ey30 => ?_)
              have hy30 : y30.toInt = (x1 + 1 : Int32).toInt := by rw [ey30]
              exact hk2 y30 T_22 L_14 k28 p26 ⟨(by clear hN2 hN n4 n6 hy5 kc7 n11 kc10 n19 p25 kc29; omega), (by clear hN2 hN n4 n6 hy5 kc7 n11 kc10 n19 p25 kc29; omega)⟩ (by clear n4 n6 hy5 kc7 n11 kc10 n19 p25 kc29; omega)
            · have kc290 := tq_eqn (x := r21) (y := (0 : Int32)) rfl (b := 0) (by decide) c29
              have kc29 : 1 ≤ r21.toInt := (by clear hx1 hN2 hN n2 kc1 n4 n6 hy5 kc7 n11 kc10 n19; omega)
              clear kc290
              have l4 : (4 : Int32).toInt = 4 := by decide
              refine D_bd (t_X6_takeAway T_22 P x1 (4 : Int32) p26 hP ⟨(by clear hN2 hN n4 n6 hy5 kc7 n11 kc10 n19 p25 kc29; omega), (by clear hN2 hN n4 n6 hy5 kc7 n11 kc10 n19 p25 kc29; omega)⟩) (fun T_32 eq34 hq33 => ?_)
              obtain ⟨p35, p36⟩ : (iR BT T_32) ∧ (T_32 0 0 = (T_22 0 0)) := hq33
              have k37 : T_32 0 0 = zT_0_0 := p36.trans k28
              have n39 : (x1 + 1).toInt = x1.toInt + 1 := i_addK rfl (by decide) (by clear hN2 hN n4 n6 hy5 kc7 n11 kc10 n19 p25 kc29; omega) (by clear hN2 hN n4 n6 hy5 kc7 n11 kc10 n19 p25 kc29; omega)
              refine D_lt (fun y38 ey38 => ?_)
              have hy38 : y38.toInt = (x1 + 1 : Int32).toInt := by rw [ey38]
              exact hk2 y38 T_32 L_14 k37 p35 ⟨(by clear hN2 hN n4 n6 hy5 kc7 n11 kc10 n19 p25 kc29; omega), (by clear hN2 hN n4 n6 hy5 kc7 n11 kc10 n19 p25 kc29; omega)⟩ (by clear n4 n6 hy5 kc7 n11 kc10 n19 p25 kc29; omega)
          · skip
            have n41 : (x1 + 1).toInt = x1.toInt + 1 := i_addK rfl (by decide) (by clear hN2 hN n4 n6 hy5 kc7 n11; omega) (by clear hN2 hN n4 n6 hy5 kc7 n11; omega)
            refine D_lt (fun y40 ey40 => ?_)
            have hy40 : y40.toInt = (x1 + 1 : Int32).toInt := by rw [ey40]
            exact hk2 y40 T L dT_0_0 hT ⟨(by clear hN2 hN n4 n6 hy5 kc7 n11; omega), (by clear hN2 hN n4 n6 hy5 kc7 n11; omega)⟩ (by clear n4 n6 hy5 kc7 n11; omega)
set_option maxHeartbeats 1000000 in
set_option maxRecDepth 100000 in
theorem t_X6_stealAway (T : Tr) (P : Tr) (L : Lo) (hT : iR BT T) (hP : iR BP P) : D (f_X6_stealAway T P L) (fun (q : Tr × Lo) => (iR BT (q.1)) ∧ ((q.1) 0 0 = (T 0 0))) := by
  unfold f_X6_stealAway
  have l0 : (0 : Int32).toInt = 0 := by decide
  exact tl_X6_stealAway_L2 (T 0 0) P hP   2000 (0 : Int32) T L rfl hT ⟨(by omega), (by omega)⟩ (by omega)
set_option maxHeartbeats 1000000 in
set_option maxRecDepth 100000 in
theorem t_X6_wayOn (T : Tr) (P : Tr) (L : Lo) (hT : iR BT T) (hP : iR BP P) (hs : (T 0 0).toInt ≤ 20) : D (f_X6_wayOn T P L) (fun (q : Tr × Lo) => (iR BT (q.1)) ∧ (((q.1) 0 0).toInt = (T 0 0).toInt + 1)) := by
  unfold f_X6_wayOn
  refine D_bd3 (t_X6_fallOff T P L hT hP) (fun r1 T_2 L_3 eq5 hq4 => ?_)
  refine D_lte (y := r1) rfl ?_
  refine D_lte (y := T_2) rfl ?_
  refine D_lte (y := L_3) rfl ?_
  obtain ⟨p6, p7⟩ : (iR BT T_2) ∧ (T_2 0 0 = (T 0 0)) := hq4
  have n8 := i_rng r1
  have k9 : T_2 0 0 = (T 0 0) := p7
  refine D_bd2 (t_X6_stealAway T_2 P L_3 p6 hP) (fun T_10 L_11 eq13 hq12 => ?_)
  refine D_lte (y := T_10) rfl ?_
  refine D_lte (y := L_11) rfl ?_
  obtain ⟨p14, p15⟩ : (iR BT T_10) ∧ (T_10 0 0 = (T_2 0 0)) := hq12
  have k16 : T_10 0 0 = (T 0 0) := p15.trans k9
  have n18 : 0 ≤ (T_10 0 0).toInt ∧ (T_10 0 0).toInt ≤ 21 := p14 0 0
  have n19 : ((T_10 0 0) + 1).toInt = (T_10 0 0).toInt + 1 := i_addK rfl (by decide) (by omega) (by omega)
  have n20 : 0 ≤ (T 0 0).toInt ∧ (T 0 0).toInt ≤ 21 := hT 0 0
  have kz21 : (T_10 0 0).toInt = (T 0 0).toInt := congrArg Int32.toInt k16
  refine D_lt (fun T_17 eT_17 => ?_)
  have hT_17 : iR BT T_17 := by rw [eT_17]; exact iR_set p14 (show (0 : Int) ≤ _ from (by omega)) (show _ ≤ (21 : Int) from (by omega))
  have n23 : (T_17 0 0).toInt = ((T_10 0 0) + 1).toInt := by rw [eT_17]; rfl
  have hz : (T_17 0 0).toInt = (T 0 0).toInt + 1 := by rw [eT_17]; show (T_10 0 0 + 1).toInt = _; omega
  exact D_some (show (iR BT T_17) ∧ ((T_17 0 0).toInt = (T 0 0).toInt + 1) from ⟨hT_17, hz⟩)
set_option maxHeartbeats 1000000 in
set_option maxRecDepth 100000 in
theorem t_X6_passStop (T : Tr) (P : Tr) (L : Lo) (hT : iR BT T) (hP : iR BP P) : D (f_X6_passStop T P L) (fun (q : Tr × Lo) => (iR BT (q.1))) := by
  unfold f_X6_passStop
  have n2 : 0 ≤ (T 0 0).toInt ∧ (T 0 0).toInt ≤ 21 := hT 0 0
  refine D_ite (fun c1 => ?_) (fun c1 => ?_)
  · have kc1 := tq_lt (x := (20 : Int32)) (y := (T 0 0)) (a := 20) (by decide) rfl c1
    exact D_some (show (iR BT T) from hT)
  · have kc1 := tq_ltn (x := (20 : Int32)) (y := (T 0 0)) (a := 20) (by decide) rfl c1
    refine D_ck (okI_of (by omega) (by omega)) ?_
    have n3 := i_rng (P 18 (T 0 0).toNatClampNeg)
    refine D_bd3 (t_X6_takeDown T P L (P 18 (T 0 0).toNatClampNeg) hT hP) (fun r4 T_5 L_6 eq8 hq7 => ?_)
    refine D_lte (y := r4) rfl ?_
    refine D_lte (y := T_5) rfl ?_
    refine D_lte (y := L_6) rfl ?_
    obtain ⟨p9, p10⟩ : (iR BT T_5) ∧ (T_5 0 0 = (T 0 0)) := hq7
    have n11 := i_rng r4
    have k12 : T_5 0 0 = (T 0 0) := p10
    refine D_bd (t_X6_getIn T_5 P p9 hP) (fun T_13 eq15 hq14 => ?_)
    obtain ⟨p16, p17⟩ : (iR BT T_13) ∧ (T_13 0 0 = (T_5 0 0)) := hq14
    have k18 : T_13 0 0 = (T 0 0) := p17.trans k12
    refine D_bd2 (t_X6_wayOn T_13 P L_6 p16 hP (by rw [k18]; omega)) (fun T_19 L_20 eq22 hq21 => ?_)
    refine D_lte (y := T_19) rfl ?_
    refine D_lte (y := L_20) rfl ?_
    obtain ⟨p23, p24⟩ : (iR BT T_19) ∧ ((T_19 0 0).toInt = (T_13 0 0).toInt + 1) := hq21
    exact D_some (show (iR BT T_19) from p23)
set_option maxHeartbeats 1000000 in
set_option maxRecDepth 100000 in
theorem tl_X6_personsAboard_L4 (T : Tr) (P : Tr) (hT : iR BT T) (hP : iR BP P)   (N : Nat) : ∀ (x1 : Int32) (x2 : Int32), 0 ≤ x2.toInt ∧ x2.toInt ≤ 1000 → 1000 - x2.toInt < (N : Int) → D (lpF (fun _ _ => none) (fB_X6_personsAboard_L4 T P) N x1 x2) (fun (q : Int32) => True) := by
  induction N with
  | zero =>
    intro x1 x2 hx2 hN
    exfalso
    omega
  | succ N4 ih =>
    intro x1 x2 hx2 hN
    have hk4 : ∀ (x1 : Int32) (x2 : Int32), 0 ≤ x2.toInt ∧ x2.toInt ≤ 1000 → 1000 - x2.toInt < (N4 : Int) → D (lpF (fun _ _ => none) (fB_X6_personsAboard_L4 T P) N4 x1 x2) (fun (q : Int32) => True) := ih
    show D (fB_X6_personsAboard_L4 T P (lpF (fun _ _ => none) (fB_X6_personsAboard_L4 T P) N4) x1 x2) _
    generalize lpF (fun _ _ => none) (fB_X6_personsAboard_L4 T P) N4 = k4 at hk4 ⊢
    have hN4 : 1000 - x2.toInt < (N4 : Int) + 1 := by omega
    clear ih
    unfold fB_X6_personsAboard_L4
    have n2 : 0 ≤ (P 0 1).toInt ∧ (P 0 1).toInt ≤ 6 := hP 0 1
    refine D_ite (fun c1 => ?_) (fun c1 => ?_)
    · have kc1 := tq_le (x := (P 0 1)) (y := x2) rfl rfl c1
      have n3 := i_rng x1
      exact D_some trivial
    · have kc1 := tq_len (x := (P 0 1)) (y := x2) rfl rfl c1
      refine D_ck (okI_of (by omega) (by omega)) ?_
      have n5 := i_rng (T 11 x2.toNatClampNeg)
      refine D_ite (fun c4 => ?_) (fun c4 => ?_)
      · have kc4 := tq_eq (x := (T 11 x2.toNatClampNeg)) (y := (1 : Int32)) rfl (b := 1) (by decide) c4
        have n7 := i_rng (x1 + 1)
        refine D_lt (fun y6 ey6 => ?_)
        have hy6 : y6.toInt = (x1 + 1 : Int32).toInt := by rw [ey6]
        have n9 : (x2 + 1).toInt = x2.toInt + 1 := i_addK rfl (by decide) (by clear hN4 hN n5 kc4 n7 hy6; omega) (by clear hN4 hN n5 kc4 n7 hy6; omega)
        refine D_lt (fun y8 ey8 => ?_)
        have hy8 : y8.toInt = (x2 + 1 : Int32).toInt := by rw [ey8]
        exact hk4 y6 y8 ⟨(by clear hN4 hN n5 kc4 n7 hy6; omega), (by clear hN4 hN n5 kc4 n7 hy6; omega)⟩ (by clear n5 kc4 n7 hy6; omega)
      · skip
        have n11 : (x2 + 1).toInt = x2.toInt + 1 := i_addK rfl (by decide) (by clear hN4 hN n5; omega) (by clear hN4 hN n5; omega)
        refine D_lt (fun y10 ey10 => ?_)
        have hy10 : y10.toInt = (x2 + 1 : Int32).toInt := by rw [ey10]
        have n12 := i_rng x1
        exact hk4 x1 y10 ⟨(by clear hN4 hN n5 n12; omega), (by clear hN4 hN n5 n12; omega)⟩ (by omega)
set_option maxHeartbeats 1000000 in
set_option maxRecDepth 100000 in
theorem t_X6_personsAboard (T : Tr) (P : Tr) (hT : iR BT T) (hP : iR BP P) : D (f_X6_personsAboard T P) (fun (q : Int32) => True) := by
  unfold f_X6_personsAboard
  have l0 : (0 : Int32).toInt = 0 := by decide
  exact tl_X6_personsAboard_L4 T P hT hP   2000 (0 : Int32) (0 : Int32) ⟨(by omega), (by omega)⟩ (by omega)
set_option maxHeartbeats 1000000 in
set_option maxRecDepth 100000 in
theorem tl_X6_piecesThatAre_L4 (T : Tr) (P : Tr) (x1 : Int32) (hT : iR BT T) (hP : iR BP P)   (N : Nat) : ∀ (x2 : Int32) (x3 : Int32), 0 ≤ x3.toInt ∧ x3.toInt ≤ 1000 → 1000 - x3.toInt < (N : Int) → D (lpF (fun _ _ => none) (fB_X6_piecesThatAre_L4 T P x1) N x2 x3) (fun (q : Int32) => True) := by
  induction N with
  | zero =>
    intro x2 x3 hx3 hN
    exfalso
    omega
  | succ N4 ih =>
    intro x2 x3 hx3 hN
    have hk4 : ∀ (x2 : Int32) (x3 : Int32), 0 ≤ x3.toInt ∧ x3.toInt ≤ 1000 → 1000 - x3.toInt < (N4 : Int) → D (lpF (fun _ _ => none) (fB_X6_piecesThatAre_L4 T P x1) N4 x2 x3) (fun (q : Int32) => True) := ih
    show D (fB_X6_piecesThatAre_L4 T P x1 (lpF (fun _ _ => none) (fB_X6_piecesThatAre_L4 T P x1) N4) x2 x3) _
    generalize lpF (fun _ _ => none) (fB_X6_piecesThatAre_L4 T P x1) N4 = k4 at hk4 ⊢
    have hN4 : 1000 - x3.toInt < (N4 : Int) + 1 := by omega
    clear ih
    unfold fB_X6_piecesThatAre_L4
    have n2 : 0 ≤ (P 0 2).toInt ∧ (P 0 2).toInt ≤ 10 := hP 0 2
    refine D_ite (fun c1 => ?_) (fun c1 => ?_)
    · have kc1 := tq_le (x := (P 0 2)) (y := x3) rfl rfl c1
      have n3 := i_rng x2
      exact D_some trivial
    · have kc1 := tq_len (x := (P 0 2)) (y := x3) rfl rfl c1
      refine D_ck (okI_of (by omega) (by omega)) ?_
      have n5 := i_rng (T 14 x3.toNatClampNeg)
      have n6 := i_rng x1
      refine D_ite (fun c4 => ?_) (fun c4 => ?_)
      · have kc4 := tq_eq (x := (T 14 x3.toNatClampNeg)) (y := x1) rfl rfl c4
        have n8 := i_rng (x2 + 1)
        refine D_lt (fun y7 ey7 => ?_)
        have hy7 : y7.toInt = (x2 + 1 : Int32).toInt := by rw [ey7]
        have n10 : (x3 + 1).toInt = x3.toInt + 1 := i_addK rfl (by decide) (by clear hN4 hN n5 n6 kc4 n8 hy7; omega) (by clear hN4 hN n5 n6 kc4 n8 hy7; omega)
        refine D_lt (fun y9 ey9 => ?_)
        have hy9 : y9.toInt = (x3 + 1 : Int32).toInt := by rw [ey9]
        exact hk4 y7 y9 ⟨(by clear hN4 hN n5 n6 kc4 n8 hy7; omega), (by clear hN4 hN n5 n6 kc4 n8 hy7; omega)⟩ (by clear n5 n6 kc4 n8 hy7; omega)
      · skip
        have n12 : (x3 + 1).toInt = x3.toInt + 1 := i_addK rfl (by decide) (by clear hN4 hN n5 n6; omega) (by clear hN4 hN n5 n6; omega)
        refine D_lt (fun y11 ey11 => ?_)
        have hy11 : y11.toInt = (x3 + 1 : Int32).toInt := by rw [ey11]
        have n13 := i_rng x2
        exact hk4 x2 y11 ⟨(by clear hN4 hN n5 n6 n13; omega), (by clear hN4 hN n5 n6 n13; omega)⟩ (by clear n5 n6 n13; omega)
set_option maxHeartbeats 1000000 in
set_option maxRecDepth 100000 in
theorem t_X6_piecesThatAre (T : Tr) (P : Tr) (x1 : Int32) (hT : iR BT T) (hP : iR BP P) : D (f_X6_piecesThatAre T P x1) (fun (q : Int32) => True) := by
  unfold f_X6_piecesThatAre
  have l0 : (0 : Int32).toInt = 0 := by decide
  have n14 := i_rng x1
  exact tl_X6_piecesThatAre_L4 T P x1 hT hP   2000 (0 : Int32) (0 : Int32) ⟨(by omega), (by omega)⟩ (by omega)
set_option maxHeartbeats 1000000 in
set_option maxRecDepth 100000 in
theorem tl_X6_runToEnd_L0 (zT_0_0 : Int32) (P : Tr) (hP : iR BP P)   (N : Nat) : ∀ (T : Tr) (L : Lo), iR BT T → 22 - (T 0 0).toInt < (N : Int) → D (lpF (fun _ _ => none) (fB_X6_runToEnd_L0 P) N T L) (fun (q : Tr × Lo) => (iR BT (q.1))) := by
  induction N with
  | zero =>
    intro T L hT hN
    exfalso
    have n46 : 0 ≤ (T 0 0).toInt ∧ (T 0 0).toInt ≤ 21 := hT 0 0
    omega
  | succ N0 ih =>
    intro T L hT hN
    have hk0 : ∀ (T : Tr) (L : Lo), iR BT T → 22 - (T 0 0).toInt < (N0 : Int) → D (lpF (fun _ _ => none) (fB_X6_runToEnd_L0 P) N0 T L) (fun (q : Tr × Lo) => (iR BT (q.1))) := ih
    show D (fB_X6_runToEnd_L0 P (lpF (fun _ _ => none) (fB_X6_runToEnd_L0 P) N0) T L) _
    generalize lpF (fun _ _ => none) (fB_X6_runToEnd_L0 P) N0 = k0 at hk0 ⊢
    have hN0 : 22 - (T 0 0).toInt < (N0 : Int) + 1 := by omega
    clear ih
    unfold fB_X6_runToEnd_L0
    have n2 : 0 ≤ (T 0 0).toInt ∧ (T 0 0).toInt ≤ 21 := hT 0 0
    refine D_ite (fun c1 => ?_) (fun c1 => ?_)
    · have kc1 := tq_lt (x := (20 : Int32)) (y := (T 0 0)) (a := 20) (by decide) rfl c1
      exact D_some (show (iR BT T) from hT)
    · have kc1 := tq_ltn (x := (20 : Int32)) (y := (T 0 0)) (a := 20) (by decide) rfl c1
      refine D_bd (t_X6_isBusy T P hT hP) (fun r3 eq5 hq4 => ?_)
      have p6 : 0 ≤ r3.toInt ∧ r3.toInt ≤ 1 := hq4
      refine D_ite (fun c7 => ?_) (fun c7 => ?_)
      · have kc7 := tq_eq (x := r3) (y := (0 : Int32)) rfl (b := 0) (by decide) c7
        exact D_some (show (iR BT T) from hT)
      · have kc70 := tq_eqn (x := r3) (y := (0 : Int32)) rfl (b := 0) (by decide) c7
        have kc7 : 1 ≤ r3.toInt := (by clear hN0 hN n2 kc1; omega)
        clear kc70
        refine D_ck (okI_of (by clear hN0 hN p6 kc7; omega) (by clear hN0 hN p6 kc7; omega)) ?_
        have n8 := i_rng (P 18 (T 0 0).toNatClampNeg)
        refine D_bd3 (t_X6_takeDown T P L (P 18 (T 0 0).toNatClampNeg) hT hP) (fun r9 T_10 L_11 eq13 hq12 => ?_)
        refine D_lte (y := r9) rfl ?_
        refine D_lte (y := T_10) rfl ?_
        refine D_lte (y := L_11) rfl ?_
        obtain ⟨p14, p15⟩ : (iR BT T_10) ∧ (T_10 0 0 = (T 0 0)) := hq12
        have n16 := i_rng r9
        have k17 : T_10 0 0 = (T 0 0) := p15
        refine D_bd (t_X6_getIn T_10 P p14 hP) (fun T_18 eq20 hq19 => ?_)
        obtain ⟨p21, p22⟩ : (iR BT T_18) ∧ (T_18 0 0 = (T_10 0 0)) := hq19
        have k23 : T_18 0 0 = (T 0 0) := p22.trans k17
        refine D_bd3 (t_X6_fallOff T_18 P L_11 p21 hP) (fun r24 T_25 L_26 eq28 hq27 => ?_)
        refine D_lte (y := r24) rfl ?_
        refine D_lte (y := T_25) rfl ?_
        refine D_lte (y := L_26) rfl ?_
        obtain ⟨p29, p30⟩ : (iR BT T_25) ∧ (T_25 0 0 = (T_18 0 0)) := hq27
        have n31 := i_rng r24
        have k32 : T_25 0 0 = (T 0 0) := p30.trans k23
        refine D_bd2 (t_X6_stealAway T_25 P L_26 p29 hP) (fun T_33 L_34 eq36 hq35 => ?_)
        refine D_lte (y := T_33) rfl ?_
        refine D_lte (y := L_34) rfl ?_
        obtain ⟨p37, p38⟩ : (iR BT T_33) ∧ (T_33 0 0 = (T_25 0 0)) := hq35
        have k39 : T_33 0 0 = (T 0 0) := p38.trans k32
        have n41 : 0 ≤ (T_33 0 0).toInt ∧ (T_33 0 0).toInt ≤ 21 := p37 0 0
        have n42 : ((T_33 0 0) + 1).toInt = (T_33 0 0).toInt + 1 := i_addK rfl (by decide) (by clear hN0 hN n2 kc1 p6 kc7 n8 n16 n31; omega) (by clear hN0 hN n2 kc1 p6 kc7 n8 n16 n31; omega)
        have kz43 : (T_33 0 0).toInt = (T 0 0).toInt := congrArg Int32.toInt k39
        refine D_lt (fun T_40 eT_40 => ?_)
        have hT_40 : iR BT T_40 := by rw [eT_40]; exact iR_set p37 (show (0 : Int) ≤ _ from (by clear hN0 hN p6 kc7 n8 n16 n31; omega)) (show _ ≤ (21 : Int) from (by clear hN0 hN p6 kc7 n8 n16 n31; omega))
        have n45 : (T_40 0 0).toInt = ((T_33 0 0) + 1).toInt := by rw [eT_40]; rfl
        have hz : (T_40 0 0).toInt = (T 0 0).toInt + 1 := by rw [eT_40]; show (T_33 0 0 + 1).toInt = _; omega
        exact hk0 T_40 L_34 hT_40 (by clear p6 kc7 n8 n16 n31; omega)
set_option maxHeartbeats 1000000 in
set_option maxRecDepth 100000 in
theorem t_X6_runToEnd (T : Tr) (P : Tr) (L : Lo) (hT : iR BT T) (hP : iR BP P) : D (f_X6_runToEnd T P L) (fun (q : Tr × Lo) => (iR BT (q.1))) := by
  unfold f_X6_runToEnd
  have n47 : 0 ≤ (T 0 0).toInt ∧ (T 0 0).toInt ≤ 21 := hT 0 0
  exact tl_X6_runToEnd_L0 (T 0 0) P hP   2000 T L hT (by omega)
set_option maxHeartbeats 1000000 in
set_option maxRecDepth 100000 in
theorem t_X6_sendAway (T : Tr) (P : Tr) (x1 : Int32) (hT : iR BT T) (hP : iR BP P) (hx1 : 0 ≤ x1.toInt ∧ x1.toInt ≤ 5) : D (f_X6_sendAway T P x1) (fun (q : Tr) => (iR BT q) ∧ (q 0 0 = (T 0 0))) := by
  unfold f_X6_sendAway
  refine D_ck (okI_of (by omega) (by omega)) ?_
  have n2 := i_rng (T 11 x1.toNatClampNeg)
  refine D_ite (fun c1 => ?_) (fun c1 => ?_)
  · have kc1 := tq_eq (x := (T 11 x1.toNatClampNeg)) (y := (1 : Int32)) rfl (b := 1) (by decide) c1
    have l2 : (2 : Int32).toInt = 2 := by decide
    refine D_bd (t_X6_setFree T P x1 (2 : Int32) hT hP) (fun T_3 eq5 hq4 => ?_)
    obtain ⟨p6, p7⟩ : (iR BT T_3) ∧ (T_3 0 0 = (T 0 0)) := hq4
    have k8 : T_3 0 0 = (T 0 0) := p7
    unfold fJ_X6_sendAway_J16
    refine D_ck (okI_of (by omega) (by omega)) ?_
    refine D_lt (fun T_9 eT_9 => ?_)
    have hT_9 : iR BT T_9 := by rw [eT_9]; exact iR_setU p6 rfl
    have kT_0_0_t10 : T_9 0 0 = (T 0 0) := by rw [eT_9]; exact k8
    exact D_some (show (iR BT T_9) ∧ (T_9 0 0 = (T 0 0)) from ⟨hT_9, kT_0_0_t10⟩)
  · skip
    unfold fJ_X6_sendAway_J16
    refine D_ck (okI_of (by omega) (by omega)) ?_
    refine D_lt (fun T_11 eT_11 => ?_)
    have hT_11 : iR BT T_11 := by rw [eT_11]; exact iR_setU hT rfl
    have kT_0_0_t12 : T_11 0 0 = (T 0 0) := by rw [eT_11]; exact rfl
    exact D_some (show (iR BT T_11) ∧ (T_11 0 0 = (T 0 0)) from ⟨hT_11, kT_0_0_t12⟩)
set_option maxHeartbeats 1000000 in
set_option maxRecDepth 100000 in
theorem tl_X6_strengthenAll_L2 (zT_0_0 : Int32)    (N : Nat) : ∀ (x1 : Int32) (T : Tr), T 0 0 = zT_0_0 → iR BT T → 0 ≤ x1.toInt ∧ x1.toInt ≤ 1000 → 1000 - x1.toInt < (N : Int) → D (lpF (fun _ _ => none) (fB_X6_strengthenAll_L2 ) N x1 T) (fun (q : Tr) => (iR BT q) ∧ (q 0 0 = zT_0_0)) := by
  induction N with
  | zero =>
    intro x1 T dT_0_0 hT hx1 hN
    exfalso
    omega
  | succ N2 ih =>
    intro x1 T dT_0_0 hT hx1 hN
    have hk2 : ∀ (x1 : Int32) (T : Tr), T 0 0 = zT_0_0 → iR BT T → 0 ≤ x1.toInt ∧ x1.toInt ≤ 1000 → 1000 - x1.toInt < (N2 : Int) → D (lpF (fun _ _ => none) (fB_X6_strengthenAll_L2 ) N2 x1 T) (fun (q : Tr) => (iR BT q) ∧ (q 0 0 = zT_0_0)) := ih
    show D (fB_X6_strengthenAll_L2  (lpF (fun _ _ => none) (fB_X6_strengthenAll_L2 ) N2) x1 T) _
    generalize lpF (fun _ _ => none) (fB_X6_strengthenAll_L2 ) N2 = k2 at hk2 ⊢
    have hN2 : 1000 - x1.toInt < (N2 : Int) + 1 := by omega
    clear ih
    unfold fB_X6_strengthenAll_L2
    refine D_ite (fun c1 => ?_) (fun c1 => ?_)
    · have kc1 := tq_le (x := (6 : Int32)) (y := x1) (a := 6) (by decide) rfl c1
      exact D_some (show (iR BT T) ∧ (T 0 0 = zT_0_0) from ⟨hT, dT_0_0⟩)
    · have kc1 := tq_len (x := (6 : Int32)) (y := x1) (a := 6) (by decide) rfl c1
      refine D_ck (okI_of (by omega) (by omega)) ?_
      refine D_lt (fun T_2 eT_2 => ?_)
      have hT_2 : iR BT T_2 := by rw [eT_2]; exact iR_setU hT rfl
      have kT_0_0_t3 : T_2 0 0 = zT_0_0 := by rw [eT_2]; exact dT_0_0
      have n5 : (x1 + 1).toInt = x1.toInt + 1 := i_addK rfl (by decide) (by omega) (by omega)
      refine D_lt (fun y4 ey4 => ?_)
      have hy4 : y4.toInt = (x1 + 1 : Int32).toInt := by rw [ey4]
      exact hk2 y4 T_2 kT_0_0_t3 hT_2 ⟨(by omega), (by omega)⟩ (by omega)
set_option maxHeartbeats 1000000 in
set_option maxRecDepth 100000 in
theorem t_X6_strengthenAll (T : Tr) (hT : iR BT T) : D (f_X6_strengthenAll T) (fun (q : Tr) => (iR BT q) ∧ (q 0 0 = (T 0 0))) := by
  unfold f_X6_strengthenAll
  have l0 : (0 : Int32).toInt = 0 := by decide
  exact tl_X6_strengthenAll_L2 (T 0 0)    2000 (0 : Int32) T rfl hT ⟨(by omega), (by omega)⟩ (by omega)
set_option maxHeartbeats 1000000 in
set_option maxRecDepth 100000 in
theorem tl_X6_turnedLevel_L5 (T : Tr) (P : Tr) (x1 : Int32) (x2 : Int32) (hT : iR BT T) (hP : iR BP P) (hx1 : 0 ≤ x1.toInt ∧ x1.toInt ≤ 4) (hx2 : 0 ≤ x2.toInt ∧ x2.toInt ≤ 9)   (N : Nat) : ∀ (x3 : Int32) (x4 : Int32), 0 ≤ x4.toInt ∧ x4.toInt ≤ 1000 → 1000 - x4.toInt < (N : Int) → D (lpF (fun _ _ => none) (fB_X6_turnedLevel_L5 T P x1 x2) N x3 x4) (fun (q : Int32) => True) := by
  induction N with
  | zero =>
    intro x3 x4 hx4 hN
    exfalso
    omega
  | succ N5 ih =>
    intro x3 x4 hx4 hN
    have hk5 : ∀ (x3 : Int32) (x4 : Int32), 0 ≤ x4.toInt ∧ x4.toInt ≤ 1000 → 1000 - x4.toInt < (N5 : Int) → D (lpF (fun _ _ => none) (fB_X6_turnedLevel_L5 T P x1 x2) N5 x3 x4) (fun (q : Int32) => True) := ih
    show D (fB_X6_turnedLevel_L5 T P x1 x2 (lpF (fun _ _ => none) (fB_X6_turnedLevel_L5 T P x1 x2) N5) x3 x4) _
    generalize lpF (fun _ _ => none) (fB_X6_turnedLevel_L5 T P x1 x2) N5 = k5 at hk5 ⊢
    have hN5 : 1000 - x4.toInt < (N5 : Int) + 1 := by omega
    clear ih
    unfold fB_X6_turnedLevel_L5
    refine D_ck (okI_of (by clear hx2 hx4 hN5 hN; omega) (by clear hx2 hx4 hN5 hN; omega)) ?_
    have n2 : 0 ≤ (T 17 x1.toNatClampNeg).toInt ∧ (T 17 x1.toNatClampNeg).toInt ≤ 10 := hT 17 x1.toNatClampNeg
    refine D_ite (fun c1 => ?_) (fun c1 => ?_)
    · have kc1 := tq_le (x := (T 17 x1.toNatClampNeg)) (y := x4) rfl rfl c1
      have n3 := i_rng x3
      exact D_some trivial
    · have kc1 := tq_len (x := (T 17 x1.toNatClampNeg)) (y := x4) rfl rfl c1
      have n4 := i_mulR (a := x1) (b := (10 : Int32)) 10 (by decide) (by clear hx2 hx4 hN5 hN n2 kc1; omega) (by clear hx2 hx4 hN5 hN n2 kc1; omega)
      have n5 : ((x1 * 10) + x4).toInt = (x1 * 10).toInt + x4.toInt := i_addK rfl rfl (by clear hx2 hN5 hN; omega) (by clear hx2 hN5 hN; omega)
      refine D_ck (okI_of (by clear hx2 hN5 hN; omega) (by clear hx2 hN5 hN; omega)) ?_
      have n6 : 0 ≤ (T 16 ((x1 * 10) + x4).toNatClampNeg).toInt ∧ (T 16 ((x1 * 10) + x4).toNatClampNeg).toInt ≤ 9 := hT 16 (((x1 * 10) + x4).toNatClampNeg)
      refine D_bd (t_X6_goesAbove P x2 (T 16 ((x1 * 10) + x4).toNatClampNeg) hP ⟨(by clear hx1 hx4 hN5 hN n2 kc1 n4 n5 n6; omega), (by clear hx1 hx4 hN5 hN n2 kc1 n4 n5 n6; omega)⟩ ⟨(by clear hx1 hx2 hx4 hN5 hN n2 kc1 n4 n5; omega), (by clear hx1 hx2 hx4 hN5 hN n2 kc1 n4 n5; omega)⟩) (fun r7 eq9 hq8 => ?_)
      have p10 : 0 ≤ r7.toInt ∧ r7.toInt ≤ 1 := hq8
      refine D_ite (fun c11 => ?_) (fun c11 => ?_)
      · have kc11 := tq_eq (x := r7) (y := (0 : Int32)) rfl (b := 0) (by decide) c11
        have n13 : (x4 + 1).toInt = x4.toInt + 1 := i_addK rfl (by decide) (by clear hx2 hN5 hN n6 p10 kc11; omega) (by clear hx2 hN5 hN n6 p10 kc11; omega)
        refine D_lt (fun y12 ey12 => ?_)
        have hy12 : y12.toInt = (x4 + 1 : Int32).toInt := by rw [ey12]
        have n14 := i_rng x3
        exact hk5 x3 y12 ⟨(by clear hx2 hN5 hN n6 p10 kc11 n14; omega), (by clear hx2 hN5 hN n6 p10 kc11 n14; omega)⟩ (by clear hx2 n6 p10 kc11 n14; omega)
      · have kc110 := tq_eqn (x := r7) (y := (0 : Int32)) rfl (b := 0) (by decide) c11
        have kc11 : 1 ≤ r7.toInt := (by clear hx1 hx2 hx4 hN5 hN n2 kc1 n4 n5 n6; omega)
        clear kc110
        have n16 := i_rng (x3 + 1)
        refine D_lt (fun y15 ey15 => ?_)
        have hy15 : y15.toInt = (x3 + 1 : Int32).toInt := by rw [ey15]
        have n18 : (x4 + 1).toInt = x4.toInt + 1 := i_addK rfl (by decide) (by clear hx2 hN5 hN n6 p10 kc11 n16 hy15; omega) (by clear hx2 hN5 hN n6 p10 kc11 n16 hy15; omega)
        refine D_lt (fun y17 ey17 => ?_)
        have hy17 : y17.toInt = (x4 + 1 : Int32).toInt := by rw [ey17]
        exact hk5 y15 y17 ⟨(by clear hx2 hN5 hN n6 p10 kc11 n16 hy15; omega), (by clear hx2 hN5 hN n6 p10 kc11 n16 hy15; omega)⟩ (by clear hx2 n6 p10 kc11 n16 hy15; omega)
set_option maxHeartbeats 1000000 in
set_option maxRecDepth 100000 in
theorem t_X6_turnedLevel (T : Tr) (P : Tr) (x1 : Int32) (x2 : Int32) (hT : iR BT T) (hP : iR BP P) (hx1 : 0 ≤ x1.toInt ∧ x1.toInt ≤ 4) (hx2 : 0 ≤ x2.toInt ∧ x2.toInt ≤ 9) : D (f_X6_turnedLevel T P x1 x2) (fun (q : Int32) => True) := by
  unfold f_X6_turnedLevel
  have l0 : (0 : Int32).toInt = 0 := by decide
  exact tl_X6_turnedLevel_L5 T P x1 x2 hT hP ⟨(by omega), (by omega)⟩ ⟨(by omega), (by omega)⟩   2000 (0 : Int32) (0 : Int32) ⟨(by omega), (by omega)⟩ (by omega)
-- 31.t03
set_option maxHeartbeats 1000000 in
set_option maxRecDepth 100000 in
theorem tl_X6_turnOver_L78 (zT_0_0 : Int32) (P : Tr) (x1 : Int32) (x2 : Int32) (x3 : Int32) (x4 : Int32) (x5 : Int32) (N52 : Nat) (hP : iR BP P) (hx1 : 0 ≤ x1.toInt ∧ x1.toInt ≤ 4) (hx2 : 0 ≤ x2.toInt ∧ x2.toInt ≤ 40) (hx4 : 0 ≤ x4.toInt ∧ x4.toInt ≤ 9) (hx5 : 0 ≤ x5.toInt ∧ x5.toInt ≤ 9) (hN52 : 1000 - x4.toInt < (N52 : Int) + 1) (k52 : Int32 → Tr → Option (Int32 × Tr)) (hk52 : ∀ (x4 : Int32) (T : Tr), T 0 0 = zT_0_0 → iR BT T → 0 ≤ x4.toInt ∧ x4.toInt ≤ 1000 → 1000 - x4.toInt < (N52 : Int) → D (k52 x4 T) (fun (q : Int32 × Tr) => (iR BT (q.2)) ∧ ((q.2) 0 0 = zT_0_0))) (N : Nat) : ∀ (x6 : Int32) (T : Tr), T 0 0 = zT_0_0 → iR BT T → 0 ≤ x6.toInt ∧ x6.toInt ≤ 9 → x6.toInt ≤ x4.toInt → x6.toInt + 1 < (N : Int) → D (lpF (fun _ _ => none) (fB_X6_turnOver_L78 k52 P x1 x2 x3 x4 x5) N x6 T) (fun (q : Int32 × Tr) => (iR BT (q.2)) ∧ ((q.2) 0 0 = zT_0_0)) := by
  induction N with
  | zero =>
    intro x6 T dT_0_0 hT hx6 hle hN
    exfalso
    omega
  | succ N78 ih =>
    intro x6 T dT_0_0 hT hx6 hle hN
    have hk78 : ∀ (x6 : Int32) (T : Tr), T 0 0 = zT_0_0 → iR BT T → 0 ≤ x6.toInt ∧ x6.toInt ≤ 9 → x6.toInt ≤ x4.toInt → x6.toInt + 1 < (N78 : Int) → D (lpF (fun _ _ => none) (fB_X6_turnOver_L78 k52 P x1 x2 x3 x4 x5) N78 x6 T) (fun (q : Int32 × Tr) => (iR BT (q.2)) ∧ ((q.2) 0 0 = zT_0_0)) := ih
    show D (fB_X6_turnOver_L78 k52 P x1 x2 x3 x4 x5 (lpF (fun _ _ => none) (fB_X6_turnOver_L78 k52 P x1 x2 x3 x4 x5) N78) x6 T) _
    generalize lpF (fun _ _ => none) (fB_X6_turnOver_L78 k52 P x1 x2 x3 x4 x5) N78 = k78 at hk78 ⊢
    have hN78 : x6.toInt + 1 < (N78 : Int) + 1 := by omega
    clear ih
    unfold fB_X6_turnOver_L78
    refine D_ite (fun c11 => ?_) (fun c11 => ?_)
    · have kc11 := tq_le (x := x6) (y := (0 : Int32)) rfl (b := 0) (by decide) c11
      unfold fJ_X6_turnOver_J129
      have n12 : (x2 + x6).toInt = x2.toInt + x6.toInt := i_addK rfl rfl (by clear hx1 hx5 hN52 hN78 hN; omega) (by clear hx1 hx5 hN52 hN78 hN; omega)
      refine D_ck (okI_of (by clear hx1 hx5 hN52 hN78 hN; omega) (by clear hx1 hx5 hN52 hN78 hN; omega)) ?_
      refine D_lt (fun T_13 eT_13 => ?_)
      have hT_13 : iR BT T_13 := by rw [eT_13]; exact iR_set hT (show (0 : Int) ≤ _ from (by clear hx1 hx2 hx4 hx6 hle hN52 hN78 hN kc11 n12; omega)) (show _ ≤ (9 : Int) from (by clear hx1 hx2 hx4 hx6 hle hN52 hN78 hN kc11 n12; omega))
      have kT_0_0_t14 : T_13 0 0 = zT_0_0 := by rw [eT_13]; exact dT_0_0
      have n16 : (x4 + 1).toInt = x4.toInt + 1 := i_addK rfl (by decide) (by clear hx1 hx5 hN52 hN78 hN; omega) (by clear hx1 hx5 hN52 hN78 hN; omega)
      refine D_lt (fun y15 ey15 => ?_)
      have hy15 : y15.toInt = (x4 + 1 : Int32).toInt := by rw [ey15]
      exact hk52 y15 T_13 kT_0_0_t14 hT_13 ⟨(by clear hx1 hx5 hN52 hN78 hN; omega), (by clear hx1 hx5 hN52 hN78 hN; omega)⟩ (by clear hx1 hx5 hN78 hN; omega)
    · have kc11 := tq_len (x := x6) (y := (0 : Int32)) rfl (b := 0) (by decide) c11
      have n17 : (x2 + x6).toInt = x2.toInt + x6.toInt := i_addK rfl rfl (by clear hx1 hx5 hN52 hN78 hN; omega) (by clear hx1 hx5 hN52 hN78 hN; omega)
      have n18 : ((x2 + x6) - 1).toInt = (x2 + x6).toInt - 1 := i_subK rfl (by decide) (by clear hx1 hx5 hN52 hN78 hN; omega) (by clear hx1 hx5 hN52 hN78 hN; omega)
      refine D_ck (okI_of (by clear hx1 hx5 hN52 hN78 hN; omega) (by clear hx1 hx5 hN52 hN78 hN; omega)) ?_
      have n19 : 0 ≤ (T 16 ((x2 + x6) - 1).toNatClampNeg).toInt ∧ (T 16 ((x2 + x6) - 1).toNatClampNeg).toInt ≤ 9 := hT 16 (((x2 + x6) - 1).toNatClampNeg)
      refine D_bd (t_X6_goesAbove P (T 16 ((x2 + x6) - 1).toNatClampNeg) x5 hP ⟨(by clear hx1 hx2 hx4 hx5 hx6 hle hN52 hN78 hN kc11 n17 n18; omega), (by clear hx1 hx2 hx4 hx5 hx6 hle hN52 hN78 hN kc11 n17 n18; omega)⟩ ⟨(by clear hx1 hx2 hx4 hx6 hle hN52 hN78 hN kc11 n17 n18 n19; omega), (by clear hx1 hx2 hx4 hx6 hle hN52 hN78 hN kc11 n17 n18 n19; omega)⟩) (fun r20 eq22 hq21 => ?_)
      have p23 : 0 ≤ r20.toInt ∧ r20.toInt ≤ 1 := hq21
      refine D_ite (fun c24 => ?_) (fun c24 => ?_)
      · have kc24 := tq_eq (x := r20) (y := (0 : Int32)) rfl (b := 0) (by decide) c24
        unfold fJ_X6_turnOver_J129
        refine D_ck (okI_of (by clear hx1 hx5 hN52 hN78 hN n19 p23 kc24; omega) (by clear hx1 hx5 hN52 hN78 hN n19 p23 kc24; omega)) ?_
        refine D_lt (fun T_25 eT_25 => ?_)
        have hT_25 : iR BT T_25 := by rw [eT_25]; exact iR_set hT (show (0 : Int) ≤ _ from (by clear hx1 hx2 hx4 hx6 hle hN52 hN78 hN kc11 n17 n18 n19 p23 kc24; omega)) (show _ ≤ (9 : Int) from (by clear hx1 hx2 hx4 hx6 hle hN52 hN78 hN kc11 n17 n18 n19 p23 kc24; omega))
        have kT_0_0_t26 : T_25 0 0 = zT_0_0 := by rw [eT_25]; exact dT_0_0
        have n28 : (x4 + 1).toInt = x4.toInt + 1 := i_addK rfl (by decide) (by clear hx1 hx5 hN52 hN78 hN n19 p23 kc24; omega) (by clear hx1 hx5 hN52 hN78 hN n19 p23 kc24; omega)
        refine D_lt (fun y27 ey27 => ?_)
        have hy27 : y27.toInt = (x4 + 1 : Int32).toInt := by rw [ey27]
        exact hk52 y27 T_25 kT_0_0_t26 hT_25 ⟨(by clear hx1 hx5 hN52 hN78 hN n19 p23 kc24; omega), (by clear hx1 hx5 hN52 hN78 hN n19 p23 kc24; omega)⟩ (by clear hx1 hx5 hN78 hN n19 p23 kc24; omega)
      · have kc240 := tq_eqn (x := r20) (y := (0 : Int32)) rfl (b := 0) (by decide) c24
        have kc24 : 1 ≤ r20.toInt := (by clear hx1 hx2 hx4 hx5 hx6 hle hN52 hN78 hN kc11 n17 n18 n19; omega)
        clear kc240
        refine D_ck (okI_of (by clear hx1 hx5 hN52 hN78 hN n19 p23 kc24; omega) (by clear hx1 hx5 hN52 hN78 hN n19 p23 kc24; omega)) ?_
        refine D_lt (fun T_29 eT_29 => ?_)
        have hT_29 : iR BT T_29 := by rw [eT_29]; exact iR_set hT (show (0 : Int) ≤ _ from (by clear hx1 hx2 hx4 hx5 hx6 hle hN52 hN78 hN kc11 n17 n18 p23 kc24; omega)) (show _ ≤ (9 : Int) from (by clear hx1 hx2 hx4 hx5 hx6 hle hN52 hN78 hN kc11 n17 n18 p23 kc24; omega))
        have kT_0_0_t30 : T_29 0 0 = zT_0_0 := by rw [eT_29]; exact dT_0_0
        have n32 : (x6 + (-1)).toInt = x6.toInt + (-1) := i_addK rfl (by decide) (by clear hx1 hx5 hN52 hN78 hN n19 p23 kc24; omega) (by clear hx1 hx5 hN52 hN78 hN n19 p23 kc24; omega)
        refine D_lt (fun y31 ey31 => ?_)
        have hy31 : y31.toInt = (x6 + (-1) : Int32).toInt := by rw [ey31]
        exact hk78 y31 T_29 kT_0_0_t30 hT_29 ⟨(by clear hx1 hx5 hN52 hN78 hN n19 p23 kc24; omega), (by clear hx1 hx5 hN52 hN78 hN n19 p23 kc24; omega)⟩ (by clear hx1 hx5 hN52 hN78 hN n19 p23 kc24; omega) (by clear hx1 hx5 hN52 n19 p23 kc24; omega)
set_option maxHeartbeats 1000000 in
set_option maxRecDepth 100000 in
theorem tl_X6_turnOver_L52 (zT_0_0 : Int32) (P : Tr) (x1 : Int32) (x2 : Int32) (x3 : Int32) (hP : iR BP P) (hx1 : 0 ≤ x1.toInt ∧ x1.toInt ≤ 4) (hx2 : 0 ≤ x2.toInt ∧ x2.toInt ≤ 40)   (N : Nat) : ∀ (x4 : Int32) (T : Tr), T 0 0 = zT_0_0 → iR BT T → 0 ≤ x4.toInt ∧ x4.toInt ≤ 1000 → 1000 - x4.toInt < (N : Int) → D (lpF (fun _ _ => none) (fB_X6_turnOver_L52 P x1 x2 x3) N x4 T) (fun (q : Int32 × Tr) => (iR BT (q.2)) ∧ ((q.2) 0 0 = zT_0_0)) := by
  induction N with
  | zero =>
    intro x4 T dT_0_0 hT hx4 hN
    exfalso
    omega
  | succ N52 ih =>
    intro x4 T dT_0_0 hT hx4 hN
    have hk52 : ∀ (x4 : Int32) (T : Tr), T 0 0 = zT_0_0 → iR BT T → 0 ≤ x4.toInt ∧ x4.toInt ≤ 1000 → 1000 - x4.toInt < (N52 : Int) → D (lpF (fun _ _ => none) (fB_X6_turnOver_L52 P x1 x2 x3) N52 x4 T) (fun (q : Int32 × Tr) => (iR BT (q.2)) ∧ ((q.2) 0 0 = zT_0_0)) := ih
    show D (fB_X6_turnOver_L52 P x1 x2 x3 (lpF (fun _ _ => none) (fB_X6_turnOver_L52 P x1 x2 x3) N52) x4 T) _
    generalize lpF (fun _ _ => none) (fB_X6_turnOver_L52 P x1 x2 x3) N52 = k52 at hk52 ⊢
    have hN52 : 1000 - x4.toInt < (N52 : Int) + 1 := by omega
    clear ih
    unfold fB_X6_turnOver_L52
    refine D_ck (okI_of (by clear hx2 hx4 hN52 hN; omega) (by clear hx2 hx4 hN52 hN; omega)) ?_
    have n6 : 0 ≤ (T 17 x1.toNatClampNeg).toInt ∧ (T 17 x1.toNatClampNeg).toInt ≤ 10 := hT 17 x1.toNatClampNeg
    refine D_ite (fun c5 => ?_) (fun c5 => ?_)
    · have kc5 := tq_le (x := (T 17 x1.toNatClampNeg)) (y := x4) rfl rfl c5
      have n7 := i_rng x3
      exact D_some (show (iR BT T) ∧ (T 0 0 = zT_0_0) from ⟨hT, dT_0_0⟩)
    · have kc5 := tq_len (x := (T 17 x1.toNatClampNeg)) (y := x4) rfl rfl c5
      have n8 : (x2 + x4).toInt = x2.toInt + x4.toInt := i_addK rfl rfl (by clear hx1 hN52 hN; omega) (by clear hx1 hN52 hN; omega)
      refine D_ck (okI_of (by clear hx1 hN52 hN; omega) (by clear hx1 hN52 hN; omega)) ?_
      refine D_lt (fun y9 ey9 => ?_)
      have n10 : 0 ≤ (T 16 (x2 + x4).toNatClampNeg).toInt ∧ (T 16 (x2 + x4).toNatClampNeg).toInt ≤ 9 := hT 16 ((x2 + x4).toNatClampNeg)
      have hy9 : y9.toInt = (T 16 (x2 + x4).toNatClampNeg).toInt := by rw [ey9]
      have n33 := i_rng x3
      exact tl_X6_turnOver_L78 zT_0_0 P x1 x2 x3 x4 y9 N52 hP ⟨(by clear hx2 hx4 hN52 hN n6 kc5 n8 n10 hy9 n33; omega), (by clear hx2 hx4 hN52 hN n6 kc5 n8 n10 hy9 n33; omega)⟩ ⟨(by clear hx1 hN52 hN n10 hy9 n33; omega), (by clear hx1 hN52 hN n10 hy9 n33; omega)⟩ ⟨(by clear hx1 hN52 hN n10 hy9 n33; omega), (by clear hx1 hN52 hN n10 hy9 n33; omega)⟩ ⟨(by clear hx1 hx2 hx4 hN52 hN n6 kc5 n8 n33; omega), (by clear hx1 hx2 hx4 hN52 hN n6 kc5 n8 n33; omega)⟩ hN52 k52 hk52 2000 x4 T dT_0_0 hT ⟨(by clear hx1 hN52 hN n10 hy9 n33; omega), (by clear hx1 hN52 hN n10 hy9 n33; omega)⟩ (by clear hx1 hN52 hN n10 hy9 n33; omega) (by clear hx1 hN52 hN n10 hy9 n33; omega)
set_option maxHeartbeats 1000000 in
set_option maxRecDepth 100000 in
theorem tl_X6_turnOver_L10 (zT_0_0 : Int32) (T : Tr) (P : Tr) (x1 : Int32) (x2 : Int32) (hT : iR BT T) (hP : iR BP P) (dT_0_0 : T 0 0 = zT_0_0) (hx1 : 0 ≤ x1.toInt ∧ x1.toInt ≤ 4) (hx2 : 0 ≤ x2.toInt ∧ x2.toInt ≤ 40)   (N : Nat) : ∀ (x3 : Int32) (x4 : Int32), 0 ≤ x4.toInt ∧ x4.toInt ≤ 1000 → 1000 - x4.toInt < (N : Int) → D (lpF (fun _ _ => none) (fB_X6_turnOver_L10 T P x1 x2) N x3 x4) (fun (q : Int32 × Tr) => (iR BT (q.2)) ∧ ((q.2) 0 0 = zT_0_0)) := by
  induction N with
  | zero =>
    intro x3 x4 hx4 hN
    exfalso
    omega
  | succ N10 ih =>
    intro x3 x4 hx4 hN
    have hk10 : ∀ (x3 : Int32) (x4 : Int32), 0 ≤ x4.toInt ∧ x4.toInt ≤ 1000 → 1000 - x4.toInt < (N10 : Int) → D (lpF (fun _ _ => none) (fB_X6_turnOver_L10 T P x1 x2) N10 x3 x4) (fun (q : Int32 × Tr) => (iR BT (q.2)) ∧ ((q.2) 0 0 = zT_0_0)) := ih
    show D (fB_X6_turnOver_L10 T P x1 x2 (lpF (fun _ _ => none) (fB_X6_turnOver_L10 T P x1 x2) N10) x3 x4) _
    generalize lpF (fun _ _ => none) (fB_X6_turnOver_L10 T P x1 x2) N10 = k10 at hk10 ⊢
    have hN10 : 1000 - x4.toInt < (N10 : Int) + 1 := by omega
    clear ih
    unfold fB_X6_turnOver_L10
    refine D_ck (okI_of (by clear hx2 hx4 hN10 hN; omega) (by clear hx2 hx4 hN10 hN; omega)) ?_
    have n4 : 0 ≤ (T 17 x1.toNatClampNeg).toInt ∧ (T 17 x1.toNatClampNeg).toInt ≤ 10 := hT 17 x1.toNatClampNeg
    refine D_ite (fun c3 => ?_) (fun c3 => ?_)
    · have kc3 := tq_le (x := (T 17 x1.toNatClampNeg)) (y := x4) rfl rfl c3
      have l1 : (1 : Int32).toInt = 1 := by decide
      have n34 := i_rng x3
      exact tl_X6_turnOver_L52 zT_0_0 P x1 x2 x3 hP ⟨(by clear hx2 hx4 hN10 hN n4 kc3 n34; omega), (by clear hx2 hx4 hN10 hN n4 kc3 n34; omega)⟩ ⟨(by clear hx1 hx4 hN10 hN n4 kc3 n34; omega), (by clear hx1 hx4 hN10 hN n4 kc3 n34; omega)⟩   2000 (1 : Int32) T dT_0_0 hT ⟨(by clear hx1 hx2 hx4 hN10 hN n4 kc3 n34; omega), (by clear hx1 hx2 hx4 hN10 hN n4 kc3 n34; omega)⟩ (by clear hx1 hx2 hx4 hN10 hN n4 kc3 n34; omega)
    · have kc3 := tq_len (x := (T 17 x1.toNatClampNeg)) (y := x4) rfl rfl c3
      have n35 : (x2 + x4).toInt = x2.toInt + x4.toInt := i_addK rfl rfl (by clear hx1 hN10 hN; omega) (by clear hx1 hN10 hN; omega)
      refine D_ck (okI_of (by clear hx1 hN10 hN; omega) (by clear hx1 hN10 hN; omega)) ?_
      have n36 : 0 ≤ (T 16 (x2 + x4).toNatClampNeg).toInt ∧ (T 16 (x2 + x4).toNatClampNeg).toInt ≤ 9 := hT 16 ((x2 + x4).toNatClampNeg)
      refine D_bd (t_X6_turnedLevel T P x1 (T 16 (x2 + x4).toNatClampNeg) hT hP ⟨(by clear hx2 hx4 hN10 hN n4 kc3 n35 n36; omega), (by clear hx2 hx4 hN10 hN n4 kc3 n35 n36; omega)⟩ ⟨(by clear hx1 hx2 hx4 hN10 hN n4 kc3 n35; omega), (by clear hx1 hx2 hx4 hN10 hN n4 kc3 n35; omega)⟩) (fun r37 eq39 hq38 => ?_)
      have n40 := i_rng r37
      refine D_ite (fun c41 => ?_) (fun c41 => ?_)
      · have kc41 := tq_eq (x := r37) (y := x4) rfl rfl c41
        have n43 : (x4 + 1).toInt = x4.toInt + 1 := i_addK rfl (by decide) (by clear hx1 hN10 hN n36; omega) (by clear hx1 hN10 hN n36; omega)
        refine D_lt (fun y42 ey42 => ?_)
        have hy42 : y42.toInt = (x4 + 1 : Int32).toInt := by rw [ey42]
        have n44 := i_rng x3
        exact hk10 x3 y42 ⟨(by clear hx1 hN10 hN n36 n44; omega), (by clear hx1 hN10 hN n36 n44; omega)⟩ (by clear hx1 n36 n44; omega)
      · skip
        have n46 := i_rng (x3 + 1)
        refine D_lt (fun y45 ey45 => ?_)
        have hy45 : y45.toInt = (x3 + 1 : Int32).toInt := by rw [ey45]
        have n48 : (x4 + 1).toInt = x4.toInt + 1 := i_addK rfl (by decide) (by clear hx1 hN10 hN n36 n40 n46 hy45; omega) (by clear hx1 hN10 hN n36 n40 n46 hy45; omega)
        refine D_lt (fun y47 ey47 => ?_)
        have hy47 : y47.toInt = (x4 + 1 : Int32).toInt := by rw [ey47]
        exact hk10 y45 y47 ⟨(by clear hx1 hN10 hN n36 n40 n46 hy45; omega), (by clear hx1 hN10 hN n36 n40 n46 hy45; omega)⟩ (by clear hx1 n36 n40 n46 hy45; omega)
set_option maxHeartbeats 1000000 in
set_option maxRecDepth 100000 in
theorem t_X6_turnOver (T : Tr) (P : Tr) (x1 : Int32) (hT : iR BT T) (hP : iR BP P) (hx1 : 0 ≤ x1.toInt ∧ x1.toInt ≤ 4) : D (f_X6_turnOver T P x1) (fun (q : Int32 × Tr) => (iR BT (q.2)) ∧ ((q.2) 0 0 = (T 0 0))) := by
  unfold f_X6_turnOver
  refine D_lt (fun y1 ey1 => ?_)
  have n2 := i_mulR (a := x1) (b := (10 : Int32)) 10 (by decide) (by omega) (by omega)
  have hy1 : y1.toInt = (x1 * 10).toInt := by rw [ey1]
  have l0 : (0 : Int32).toInt = 0 := by decide
  exact tl_X6_turnOver_L10 (T 0 0) T P x1 y1 hT hP rfl ⟨(by omega), (by omega)⟩ ⟨(by omega), (by omega)⟩   2000 (0 : Int32) (0 : Int32) ⟨(by clear hx1 n2 hy1; omega), (by clear hx1 n2 hy1; omega)⟩ (by clear hx1 n2 hy1; omega)
