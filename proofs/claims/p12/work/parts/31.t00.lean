set_option maxHeartbeats 1000000 in
set_option maxRecDepth 100000 in
theorem tl_X6_level_L13 (T : Tr) (x1 : Int32) (x2 : Int32) (hT : iR BT T) (hx1 : 0 ≤ x1.toInt ∧ x1.toInt ≤ 9) (hx2 : 0 ≤ x2.toInt ∧ x2.toInt ≤ 4) (hx2e : x2 = T 15 x1.toNatClampNeg)   (N : Nat) : ∀ (x3 : Int32), 0 ≤ x3.toInt ∧ x3.toInt ≤ 1000 → 1000 - x3.toInt < (N : Int) → D (lpF (fun _ => none) (fB_X6_level_L13 T x1 x2) N x3) (fun (q : Int32) => ((-1) ≤ q.toInt ∧ q.toInt ≤ 9) ∧ (0 ≤ q.toInt → q.toInt < (T 17 (T 15 x1.toNatClampNeg).toNatClampNeg).toInt) ∧ (0 ≤ q.toInt → 0 ≤ (T 15 x1.toNatClampNeg).toInt)) := by
  induction N with
  | zero =>
    intro x3 hx3 hN
    exfalso
    omega
  | succ N13 ih =>
    intro x3 hx3 hN
    have hk13 : ∀ (x3 : Int32), 0 ≤ x3.toInt ∧ x3.toInt ≤ 1000 → 1000 - x3.toInt < (N13 : Int) → D (lpF (fun _ => none) (fB_X6_level_L13 T x1 x2) N13 x3) (fun (q : Int32) => ((-1) ≤ q.toInt ∧ q.toInt ≤ 9) ∧ (0 ≤ q.toInt → q.toInt < (T 17 (T 15 x1.toNatClampNeg).toNatClampNeg).toInt) ∧ (0 ≤ q.toInt → 0 ≤ (T 15 x1.toNatClampNeg).toInt)) := ih
    show D (fB_X6_level_L13 T x1 x2 (lpF (fun _ => none) (fB_X6_level_L13 T x1 x2) N13) x3) _
    generalize lpF (fun _ => none) (fB_X6_level_L13 T x1 x2) N13 = k13 at hk13 ⊢
    have hN13 : 1000 - x3.toInt < (N13 : Int) + 1 := by omega
    clear ih
    unfold fB_X6_level_L13
    refine D_ck (okI_of (by clear hx1 hx3 hN13 hN; omega) (by clear hx1 hx3 hN13 hN; omega)) ?_
    have n5 : 0 ≤ (T 17 x2.toNatClampNeg).toInt ∧ (T 17 x2.toNatClampNeg).toInt ≤ 10 := hT 17 x2.toNatClampNeg
    refine D_ite (fun c4 => ?_) (fun c4 => ?_)
    · have kc4 := tq_le (x := (T 17 x2.toNatClampNeg)) (y := x3) rfl rfl c4
      have lm1 : ((-1) : Int32).toInt = (-1) := by decide
      exact D_some (show ((-1) ≤ ((-1) : Int32).toInt ∧ ((-1) : Int32).toInt ≤ 9) ∧ (0 ≤ ((-1) : Int32).toInt → ((-1) : Int32).toInt < (T 17 (T 15 x1.toNatClampNeg).toNatClampNeg).toInt) ∧ (0 ≤ ((-1) : Int32).toInt → 0 ≤ (T 15 x1.toNatClampNeg).toInt) from ⟨⟨(by clear hx1 hx2 hx3 hN13 hN n5 kc4; omega), (by clear hx1 hx2 hx3 hN13 hN n5 kc4; omega)⟩, (fun hz => by first | omega | (rw [← hx2e]; omega)), (fun hz => by first | omega | (rw [← hx2e]; omega))⟩)
    · have kc4 := tq_len (x := (T 17 x2.toNatClampNeg)) (y := x3) rfl rfl c4
      have n6 := i_mulR (a := x2) (b := (10 : Int32)) 10 (by decide) (by clear hx1 hx3 hN13 hN n5 kc4; omega) (by clear hx1 hx3 hN13 hN n5 kc4; omega)
      have n7 : ((x2 * 10) + x3).toInt = (x2 * 10).toInt + x3.toInt := i_addK rfl rfl (by clear hx1 hN13 hN; omega) (by clear hx1 hN13 hN; omega)
      refine D_ck (okI_of (by clear hx1 hN13 hN; omega) (by clear hx1 hN13 hN; omega)) ?_
      have n9 : 0 ≤ (T 16 ((x2 * 10) + x3).toNatClampNeg).toInt ∧ (T 16 ((x2 * 10) + x3).toNatClampNeg).toInt ≤ 9 := hT 16 (((x2 * 10) + x3).toNatClampNeg)
      refine D_ite (fun c8 => ?_) (fun c8 => ?_)
      · have kc8 := tq_eq (x := (T 16 ((x2 * 10) + x3).toNatClampNeg)) (y := x1) rfl rfl c8
        exact D_some (show ((-1) ≤ x3.toInt ∧ x3.toInt ≤ 9) ∧ (0 ≤ x3.toInt → x3.toInt < (T 17 (T 15 x1.toNatClampNeg).toNatClampNeg).toInt) ∧ (0 ≤ x3.toInt → 0 ≤ (T 15 x1.toNatClampNeg).toInt) from ⟨⟨(by clear hx1 hN13 hN n9 kc8; omega), (by clear hx1 hN13 hN n9 kc8; omega)⟩, (fun hz => by first | omega | (rw [← hx2e]; omega)), (fun hz => by first | omega | (rw [← hx2e]; omega))⟩)
      · skip
        have n11 : (x3 + 1).toInt = x3.toInt + 1 := i_addK rfl (by decide) (by clear hx1 hN13 hN n9; omega) (by clear hx1 hN13 hN n9; omega)
        refine D_lt (fun y10 ey10 => ?_)
        have hy10 : y10.toInt = (x3 + 1 : Int32).toInt := by rw [ey10]
        exact hk13 y10 ⟨(by clear hx1 hN13 hN n9; omega), (by clear hx1 hN13 hN n9; omega)⟩ (by omega)
set_option maxHeartbeats 1000000 in
set_option maxRecDepth 100000 in
theorem t_X6_level (T : Tr) (x1 : Int32) (hT : iR BT T) (hx1 : 0 ≤ x1.toInt ∧ x1.toInt ≤ 9) : D (f_X6_level T x1) (fun (q : Int32) => ((-1) ≤ q.toInt ∧ q.toInt ≤ 9) ∧ (0 ≤ q.toInt → q.toInt < (T 17 (T 15 x1.toNatClampNeg).toNatClampNeg).toInt) ∧ (0 ≤ q.toInt → 0 ≤ (T 15 x1.toNatClampNeg).toInt)) := by
  unfold f_X6_level
  refine D_ck (okI_of (by omega) (by omega)) ?_
  refine D_lt (fun y1 ey1 => ?_)
  have n2 : (-1) ≤ (T 15 x1.toNatClampNeg).toInt ∧ (T 15 x1.toNatClampNeg).toInt ≤ 4 := hT 15 x1.toNatClampNeg
  have hy1 : y1.toInt = (T 15 x1.toNatClampNeg).toInt := by rw [ey1]
  refine D_ite (fun c3 => ?_) (fun c3 => ?_)
  · have kc3 := tq_lt (x := y1) (y := (0 : Int32)) rfl (b := 0) (by decide) c3
    have lm1 : ((-1) : Int32).toInt = (-1) := by decide
    exact D_some (show ((-1) ≤ ((-1) : Int32).toInt ∧ ((-1) : Int32).toInt ≤ 9) ∧ (0 ≤ ((-1) : Int32).toInt → ((-1) : Int32).toInt < (T 17 (T 15 x1.toNatClampNeg).toNatClampNeg).toInt) ∧ (0 ≤ ((-1) : Int32).toInt → 0 ≤ (T 15 x1.toNatClampNeg).toInt) from ⟨⟨(by clear hx1 n2 hy1 kc3; omega), (by clear hx1 n2 hy1 kc3; omega)⟩, (fun hz => by first | omega | (rw [← hx2e]; omega)), (fun hz => by first | omega | (rw [← hx2e]; omega))⟩)
  · have kc3 := tq_ltn (x := y1) (y := (0 : Int32)) rfl (b := 0) (by decide) c3
    have l0 : (0 : Int32).toInt = 0 := by decide
    exact tl_X6_level_L13 T x1 y1 hT ⟨(by clear n2 hy1 kc3; omega), (by clear n2 hy1 kc3; omega)⟩ ⟨(by omega), (by omega)⟩ ey1   2000 (0 : Int32) ⟨(by clear hx1 n2 hy1 kc3; omega), (by clear hx1 n2 hy1 kc3; omega)⟩ (by clear hx1 n2 hy1 kc3; omega)
set_option maxHeartbeats 1000000 in
set_option maxRecDepth 100000 in
theorem t_X6_above (T : Tr) (x1 : Int32) (hT : iR BT T) (hx1 : 0 ≤ x1.toInt ∧ x1.toInt ≤ 9) : D (f_X6_above T x1) (fun (q : Int32) => True) := by
  unfold f_X6_above
  refine D_ck (okI_of (by omega) (by omega)) ?_
  refine D_lt (fun y1 ey1 => ?_)
  have n2 : (-1) ≤ (T 15 x1.toNatClampNeg).toInt ∧ (T 15 x1.toNatClampNeg).toInt ≤ 4 := hT 15 x1.toNatClampNeg
  have hy1 : y1.toInt = (T 15 x1.toNatClampNeg).toInt := by rw [ey1]
  refine D_ite (fun c3 => ?_) (fun c3 => ?_)
  · have kc3 := tq_le (x := (0 : Int32)) (y := y1) (a := 0) (by decide) rfl c3
    refine D_ck (okI_of (by omega) (by omega)) ?_
    refine D_bd (t_X6_level T x1 hT ⟨(by clear n2 hy1 kc3; omega), (by clear n2 hy1 kc3; omega)⟩) (fun r4 eq6 hq5 => ?_)
    obtain ⟨p7, p8, p9⟩ : ((-1) ≤ r4.toInt ∧ r4.toInt ≤ 9) ∧ (0 ≤ r4.toInt → r4.toInt < (T 17 (T 15 x1.toNatClampNeg).toNatClampNeg).toInt) ∧ (0 ≤ r4.toInt → 0 ≤ (T 15 x1.toNatClampNeg).toInt) := hq5
    have n10 : 0 ≤ (T 17 y1.toNatClampNeg).toInt ∧ (T 17 y1.toNatClampNeg).toInt ≤ 10 := hT 17 y1.toNatClampNeg
    have n11 : ((T 17 y1.toNatClampNeg) - 1).toInt = (T 17 y1.toNatClampNeg).toInt - 1 := i_subK rfl (by decide) (by clear hx1 n2 hy1 kc3 p7 p8 p9; omega) (by clear hx1 n2 hy1 kc3 p7 p8 p9; omega)
    have n12 : (((T 17 y1.toNatClampNeg) - 1) - r4).toInt = ((T 17 y1.toNatClampNeg) - 1).toInt - r4.toInt := i_subK rfl rfl (by omega) (by omega)
    exact D_some trivial
  · have kc3 := tq_len (x := (0 : Int32)) (y := y1) (a := 0) (by decide) rfl c3
    have l0 : (0 : Int32).toInt = 0 := by decide
    exact D_some trivial
set_option maxHeartbeats 1000000 in
set_option maxRecDepth 100000 in
theorem t_X6_top (T : Tr) (x1 : Int32) (hT : iR BT T) (hx1 : 0 ≤ x1.toInt ∧ x1.toInt ≤ 4) : D (f_X6_top T x1) (fun (q : Int32) => ((-1) ≤ q.toInt ∧ q.toInt ≤ 9)) := by
  unfold f_X6_top
  refine D_ck (okI_of (by omega) (by omega)) ?_
  have n2 : 0 ≤ (T 17 x1.toNatClampNeg).toInt ∧ (T 17 x1.toNatClampNeg).toInt ≤ 10 := hT 17 x1.toNatClampNeg
  refine D_ite (fun c1 => ?_) (fun c1 => ?_)
  · have kc1 := tq_eq (x := (T 17 x1.toNatClampNeg)) (y := (0 : Int32)) rfl (b := 0) (by decide) c1
    have lm1 : ((-1) : Int32).toInt = (-1) := by decide
    exact D_some (show ((-1) ≤ ((-1) : Int32).toInt ∧ ((-1) : Int32).toInt ≤ 9) from ⟨(by clear hx1 n2 kc1; omega), (by clear hx1 n2 kc1; omega)⟩)
  · have kc10 := tq_eqn (x := (T 17 x1.toNatClampNeg)) (y := (0 : Int32)) rfl (b := 0) (by decide) c1
    have kc1 : 1 ≤ (T 17 x1.toNatClampNeg).toInt := (by omega)
    clear kc10
    have n3 := i_mulR (a := x1) (b := (10 : Int32)) 10 (by decide) (by omega) (by omega)
    have n4 : ((x1 * 10) + (T 17 x1.toNatClampNeg)).toInt = (x1 * 10).toInt + (T 17 x1.toNatClampNeg).toInt := i_addK rfl rfl (by omega) (by omega)
    have n5 : (((x1 * 10) + (T 17 x1.toNatClampNeg)) - 1).toInt = ((x1 * 10) + (T 17 x1.toNatClampNeg)).toInt - 1 := i_subK rfl (by decide) (by omega) (by omega)
    refine D_ck (okI_of (by omega) (by omega)) ?_
    have n6 : 0 ≤ (T 16 (((x1 * 10) + (T 17 x1.toNatClampNeg)) - 1).toNatClampNeg).toInt ∧ (T 16 (((x1 * 10) + (T 17 x1.toNatClampNeg)) - 1).toNatClampNeg).toInt ≤ 9 := hT 16 ((((x1 * 10) + (T 17 x1.toNatClampNeg)) - 1).toNatClampNeg)
    exact D_some (show ((-1) ≤ (T 16 (((x1 * 10) + (T 17 x1.toNatClampNeg)) - 1).toNatClampNeg).toInt ∧ (T 16 (((x1 * 10) + (T 17 x1.toNatClampNeg)) - 1).toNatClampNeg).toInt ≤ 9) from ⟨(by clear hx1 n2 kc1 n3 n4 n5; omega), (by clear hx1 n2 kc1 n3 n4 n5; omega)⟩)
set_option maxHeartbeats 1000000 in
set_option maxRecDepth 100000 in
theorem t_X6_isRack (P : Tr) (x1 : Int32) (hP : iR BP P) (hx1 : 0 ≤ x1.toInt ∧ x1.toInt ≤ 4) : D (f_X6_isRack P x1) (fun (q : Int32) => (0 ≤ q.toInt ∧ q.toInt ≤ 1)) := by
  unfold f_X6_isRack
  refine D_ck (okI_of (by omega) (by omega)) ?_
  have n2 := i_rng (P 8 x1.toNatClampNeg)
  refine D_ite (fun c1 => ?_) (fun c1 => ?_)
  · have kc1 := tq_eq (x := (P 8 x1.toNatClampNeg)) (y := (0 : Int32)) rfl (b := 0) (by decide) c1
    have l1 : (1 : Int32).toInt = 1 := by decide
    exact D_some (show (0 ≤ (1 : Int32).toInt ∧ (1 : Int32).toInt ≤ 1) from ⟨(by clear hx1 n2 kc1; omega), (by clear hx1 n2 kc1; omega)⟩)
  · skip
    refine D_ite (fun c3 => ?_) (fun c3 => ?_)
    · have kc3 := tq_eq (x := (P 8 x1.toNatClampNeg)) (y := (1 : Int32)) rfl (b := 1) (by decide) c3
      have l1 : (1 : Int32).toInt = 1 := by decide
      exact D_some (show (0 ≤ (1 : Int32).toInt ∧ (1 : Int32).toInt ≤ 1) from ⟨(by clear hx1 n2 kc3; omega), (by clear hx1 n2 kc3; omega)⟩)
    · skip
      have l0 : (0 : Int32).toInt = 0 := by decide
      exact D_some (show (0 ≤ (0 : Int32).toInt ∧ (0 : Int32).toInt ≤ 1) from ⟨(by omega), (by omega)⟩)
set_option maxHeartbeats 1000000 in
set_option maxRecDepth 100000 in
theorem t_X1_joined (x0 : Int32) (x1 : Int64) (x3 : Int64)  : D (f_X1_joined x0 x1 x3) (fun (q : Int64) => True) := by
  unfold f_X1_joined
  have n1 := i_rng x0
  refine D_ite (fun c2 => ?_) (fun c2 => ?_)
  · have kc2 := tq_eq (x := x0) (y := (19 : Int32)) rfl (b := 19) (by decide) c2
    refine D_ite (fun c3 => ?_) (fun c3 => ?_)
    · skip
      refine D_ite (fun c4 => ?_) (fun c4 => ?_)
      · skip
        exact D_some trivial
      · skip
        exact D_some trivial
    · skip
      exact D_some trivial
  · skip
    refine D_ite (fun c5 => ?_) (fun c5 => ?_)
    · have kc5 := tq_eq (x := x0) (y := (20 : Int32)) rfl (b := 20) (by decide) c5
      refine D_ite (fun c6 => ?_) (fun c6 => ?_)
      · skip
        exact D_some trivial
      · skip
        refine D_ite (fun c7 => ?_) (fun c7 => ?_)
        · skip
          exact D_some trivial
        · skip
          exact D_some trivial
    · skip
      refine D_ite (fun c8 => ?_) (fun c8 => ?_)
      · have kc8 := tq_eq (x := x0) (y := (29 : Int32)) rfl (b := 29) (by decide) c8
        refine D_ite (fun c9 => ?_) (fun c9 => ?_)
        · skip
          exact D_some trivial
        · skip
          exact D_some trivial
      · skip
        refine D_ite (fun c10 => ?_) (fun c10 => ?_)
        · have kc10 := tq_eq (x := x0) (y := (30 : Int32)) rfl (b := 30) (by decide) c10
          refine D_ite (fun c11 => ?_) (fun c11 => ?_)
          · skip
            exact D_some trivial
          · skip
            exact D_some trivial
        · skip
          refine D_ite (fun c12 => ?_) (fun c12 => ?_)
          · have kc12 := tq_eq (x := x0) (y := (31 : Int32)) rfl (b := 31) (by decide) c12
            refine D_ite (fun c13 => ?_) (fun c13 => ?_)
            · skip
              exact D_some trivial
            · skip
              exact D_some trivial
          · skip
            refine D_ite (fun c14 => ?_) (fun c14 => ?_)
            · have kc14 := tq_eq (x := x0) (y := (32 : Int32)) rfl (b := 32) (by decide) c14
              refine D_ite (fun c15 => ?_) (fun c15 => ?_)
              · skip
                exact D_some trivial
              · skip
                exact D_some trivial
            · skip
              refine D_ite (fun c16 => ?_) (fun c16 => ?_)
              · have kc16 := tq_eq (x := x0) (y := (33 : Int32)) rfl (b := 33) (by decide) c16
                refine D_ite (fun c17 => ?_) (fun c17 => ?_)
                · skip
                  exact D_some trivial
                · skip
                  exact D_some trivial
              · skip
                refine D_ite (fun c18 => ?_) (fun c18 => ?_)
                · have kc18 := tq_eq (x := x0) (y := (34 : Int32)) rfl (b := 34) (by decide) c18
                  refine D_ite (fun c19 => ?_) (fun c19 => ?_)
                  · skip
                    exact D_some trivial
                  · skip
                    exact D_some trivial
                · skip
                  refine D_ite (fun c20 => ?_) (fun c20 => ?_)
                  · have kc20 := tq_eq (x := x0) (y := (35 : Int32)) rfl (b := 35) (by decide) c20
                    exact D_some trivial
                  · skip
                    refine D_ite (fun c21 => ?_) (fun c21 => ?_)
                    · have kc21 := tq_eq (x := x0) (y := (36 : Int32)) rfl (b := 36) (by decide) c21
                      exact D_some trivial
                    · skip
                      refine D_ite (fun c22 => ?_) (fun c22 => ?_)
                      · have kc22 := tq_eq (x := x0) (y := (37 : Int32)) rfl (b := 37) (by decide) c22
                        refine D_ite (fun c23 => ?_) (fun c23 => ?_)
                        · skip
                          exact D_some trivial
                        · skip
                          refine D_ite (fun c24 => ?_) (fun c24 => ?_)
                          · skip
                            unfold fJ_X1_joined_J231
                            refine D_ck (ok_nel (lg_ne0 (by assumption))) ?_
                            refine D_lt (fun y25 ey25 => ?_)
                            refine D_ite (fun c26 => ?_) (fun c26 => ?_)
                            · skip
                              exact D_some trivial
                            · skip
                              refine D_ite (fun c27 => ?_) (fun c27 => ?_)
                              · skip
                                exact D_some trivial
                              · skip
                                exact D_some trivial
                          · skip
                            unfold fJ_X1_joined_J231
                            refine D_ck (ok_nel (lg_neg0 (by assumption))) ?_
                            refine D_lt (fun y28 ey28 => ?_)
                            refine D_ite (fun c29 => ?_) (fun c29 => ?_)
                            · skip
                              exact D_some trivial
                            · skip
                              refine D_ite (fun c30 => ?_) (fun c30 => ?_)
                              · skip
                                exact D_some trivial
                              · skip
                                exact D_some trivial
                      · skip
                        refine D_ite (fun c31 => ?_) (fun c31 => ?_)
                        · skip
                          exact D_some trivial
                        · skip
                          refine D_ck (ok_nel (lg_ne0 (by assumption))) ?_
                          exact D_some trivial
set_option maxHeartbeats 1000000 in
set_option maxRecDepth 100000 in
theorem tl_X1_value_L4 (j : Nat) (T : Tr) (P : Tr) (hT : iR BT T) (hP : iR BP P) (hj : j < 3)   (N : Nat) : ∀ (x2 : Int32) (x3 : Int32) (L : Lo), 0 ≤ x2.toInt ∧ x2.toInt ≤ 1000 → 0 ≤ x3.toInt ∧ x3.toInt ≤ 1000 → x2.toInt ≤ x3.toInt → 1000 - x3.toInt < (N : Int) → D (lpF (fun _ _ _ => none) (fB_X1_value_L4 j T P) N x2 x3 L) (fun (q : Int64 × Lo) => True) := by
  induction N with
  | zero =>
    intro x2 x3 L hx2 hx3 hdi hN
    exfalso
    omega
  | succ N4 ih =>
    intro x2 x3 L hx2 hx3 hdi hN
    have hk4 : ∀ (x2 : Int32) (x3 : Int32) (L : Lo), 0 ≤ x2.toInt ∧ x2.toInt ≤ 1000 → 0 ≤ x3.toInt ∧ x3.toInt ≤ 1000 → x2.toInt ≤ x3.toInt → 1000 - x3.toInt < (N4 : Int) → D (lpF (fun _ _ _ => none) (fB_X1_value_L4 j T P) N4 x2 x3 L) (fun (q : Int64 × Lo) => True) := ih
    show D (fB_X1_value_L4 j T P (lpF (fun _ _ _ => none) (fB_X1_value_L4 j T P) N4) x2 x3 L) _
    generalize lpF (fun _ _ _ => none) (fB_X1_value_L4 j T P) N4 = k4 at hk4 ⊢
    have hN4 : 1000 - x3.toInt < (N4 : Int) + 1 := by omega
    clear ih
    unfold fB_X1_value_L4
    have n2 : 0 ≤ (P (30 + 3 * j) 1).toInt ∧ (P (30 + 3 * j) 1).toInt ≤ 64 := BP_law hP hj
    refine D_ite (fun c1 => ?_) (fun c1 => ?_)
    · have kc1 := tq_le (x := (P (30 + 3 * j) 1)) (y := x3) rfl rfl c1
      unfold fJ_X1_value_J190
      refine D_ite (fun c3 => ?_) (fun c3 => ?_)
      · have kc3 := tq_eq (x := x2) (y := (1 : Int32)) rfl (b := 1) (by decide) c3
        exact D_some trivial
      · skip
        exact D_some trivial
    · have kc1 := tq_len (x := (P (30 + 3 * j) 1)) (y := x3) rfl rfl c1
      refine D_ck (okI_of (by omega) (by omega)) ?_
      refine D_lt (fun y4 ey4 => ?_)
      have n5 := i_rng (P (31 + 3 * j) x3.toNatClampNeg)
      have hy4 : y4.toInt = (P (31 + 3 * j) x3.toNatClampNeg).toInt := by rw [ey4]
      refine D_lt (fun y6 ey6 => ?_)
      have n7 := i_rng (y4 - 10000)
      have hy6 : y6.toInt = (y4 - 10000).toInt := by rw [ey6]
      refine D_ite (fun c8 => ?_) (fun c8 => ?_)
      · have kc8 := tq_le (x := (0 : Int32)) (y := y6) (a := 0) (by decide) rfl c8
        refine D_ite (fun c9 => ?_) (fun c9 => ?_)
        · have kc9 := tq_lt (x := y6) (y := (22 : Int32)) rfl (b := 22) (by decide) c9
          unfold fJ_X1_value_J82
          refine D_ite (fun c10 => ?_) (fun c10 => ?_)
          · have kc10 := tq_eq (x := y6) (y := (21 : Int32)) rfl (b := 21) (by decide) c10
            refine D_ite (fun c11 => ?_) (fun c11 => ?_)
            · have kc11 := tq_lt (x := x2) (y := (1 : Int32)) rfl (b := 1) (by decide) c11
              unfold fJ_X1_value_J123
              refine D_ite (fun c12 => ?_) (fun c12 => ?_)
              · have kc12 := tq_lt (x := x2) (y := (2 : Int32)) rfl (b := 2) (by decide) c12
                have n14 : (x3 + 1).toInt = x3.toInt + 1 := i_addK rfl (by decide) (by clear hN4 hN n5 hy4 n7 hy6 kc8 kc9 kc10; omega) (by clear hN4 hN n5 hy4 n7 hy6 kc8 kc9 kc10; omega)
                refine D_lt (fun y13 ey13 => ?_)
                have hy13 : y13.toInt = (x3 + 1 : Int32).toInt := by rw [ey13]
                exact hk4 x2 y13 L ⟨(by clear hN4 hN n5 hy4 n7 hy6 kc8 kc9 kc10; omega), (by clear hN4 hN n5 hy4 n7 hy6 kc8 kc9 kc10; omega)⟩ ⟨(by clear hN4 hN n5 hy4 n7 hy6 kc8 kc9 kc10; omega), (by clear hN4 hN n5 hy4 n7 hy6 kc8 kc9 kc10; omega)⟩ (by clear hN4 hN n5 hy4 n7 hy6 kc8 kc9 kc10; omega) (by clear n5 hy4 n7 hy6 kc8 kc9 kc10; omega)
              · have kc12 := tq_ltn (x := x2) (y := (2 : Int32)) rfl (b := 2) (by decide) c12
                exfalso
                exact (by clear hN4 hN n5 hy4 n7 hy6 kc8 kc9 kc10; omega)
            · have kc11 := tq_ltn (x := x2) (y := (1 : Int32)) rfl (b := 1) (by decide) c11
              have n15 : (x2 - 1).toInt = x2.toInt - 1 := i_subK rfl (by decide) (by clear hN4 hN n5 hy4 n7 hy6 kc8 kc9 kc10; omega) (by clear hN4 hN n5 hy4 n7 hy6 kc8 kc9 kc10; omega)
              refine D_ck (okI_of (by clear hN4 hN n5 hy4 n7 hy6 kc8 kc9 kc10; omega) (by clear hN4 hN n5 hy4 n7 hy6 kc8 kc9 kc10; omega)) ?_
              refine D_ite (fun c16 => ?_) (fun c16 => ?_)
              · skip
                unfold fJ_X1_value_J119
                refine D_ck (okI_of (by clear hN4 hN n5 hy4 n7 hy6 kc8 kc9 kc10; omega) (by clear hN4 hN n5 hy4 n7 hy6 kc8 kc9 kc10; omega)) ?_
                refine D_lt (fun L_17 eL_17 => ?_)
                have n19 : (x3 + 1).toInt = x3.toInt + 1 := i_addK rfl (by decide) (by clear hN4 hN n5 hy4 n7 hy6 kc8 kc9 kc10; omega) (by clear hN4 hN n5 hy4 n7 hy6 kc8 kc9 kc10; omega)
                refine D_lt (fun y18 ey18 => ?_)
                have hy18 : y18.toInt = (x3 + 1 : Int32).toInt := by rw [ey18]
                exact hk4 x2 y18 L_17 ⟨(by clear hN4 hN n5 hy4 n7 hy6 kc8 kc9 kc10; omega), (by clear hN4 hN n5 hy4 n7 hy6 kc8 kc9 kc10; omega)⟩ ⟨(by clear hN4 hN n5 hy4 n7 hy6 kc8 kc9 kc10; omega), (by clear hN4 hN n5 hy4 n7 hy6 kc8 kc9 kc10; omega)⟩ (by clear hN4 hN n5 hy4 n7 hy6 kc8 kc9 kc10; omega) (by clear n5 hy4 n7 hy6 kc8 kc9 kc10; omega)
              · skip
                unfold fJ_X1_value_J119
                refine D_ck (okI_of (by clear hN4 hN n5 hy4 n7 hy6 kc8 kc9 kc10; omega) (by clear hN4 hN n5 hy4 n7 hy6 kc8 kc9 kc10; omega)) ?_
                refine D_lt (fun L_20 eL_20 => ?_)
                have n22 : (x3 + 1).toInt = x3.toInt + 1 := i_addK rfl (by decide) (by clear hN4 hN n5 hy4 n7 hy6 kc8 kc9 kc10; omega) (by clear hN4 hN n5 hy4 n7 hy6 kc8 kc9 kc10; omega)
                refine D_lt (fun y21 ey21 => ?_)
                have hy21 : y21.toInt = (x3 + 1 : Int32).toInt := by rw [ey21]
                exact hk4 x2 y21 L_20 ⟨(by clear hN4 hN n5 hy4 n7 hy6 kc8 kc9 kc10; omega), (by clear hN4 hN n5 hy4 n7 hy6 kc8 kc9 kc10; omega)⟩ ⟨(by clear hN4 hN n5 hy4 n7 hy6 kc8 kc9 kc10; omega), (by clear hN4 hN n5 hy4 n7 hy6 kc8 kc9 kc10; omega)⟩ (by clear hN4 hN n5 hy4 n7 hy6 kc8 kc9 kc10; omega) (by clear n5 hy4 n7 hy6 kc8 kc9 kc10; omega)
          · have kc100 := tq_eqn (x := y6) (y := (21 : Int32)) rfl (b := 21) (by decide) c10
            have kc10 : y6.toInt ≤ 20 := (by clear hx2 hx3 hdi hN4 hN n2 kc1 n5 hy4; omega)
            clear kc100
            unfold fJ_X1_value_J123
            refine D_ite (fun c23 => ?_) (fun c23 => ?_)
            · have kc23 := tq_lt (x := x2) (y := (2 : Int32)) rfl (b := 2) (by decide) c23
              have n25 : (x3 + 1).toInt = x3.toInt + 1 := i_addK rfl (by decide) (by clear hN4 hN n5 hy4 n7 hy6 kc8 kc9 kc10; omega) (by clear hN4 hN n5 hy4 n7 hy6 kc8 kc9 kc10; omega)
              refine D_lt (fun y24 ey24 => ?_)
              have hy24 : y24.toInt = (x3 + 1 : Int32).toInt := by rw [ey24]
              exact hk4 x2 y24 L ⟨(by clear hN4 hN n5 hy4 n7 hy6 kc8 kc9 kc10; omega), (by clear hN4 hN n5 hy4 n7 hy6 kc8 kc9 kc10; omega)⟩ ⟨(by clear hN4 hN n5 hy4 n7 hy6 kc8 kc9 kc10; omega), (by clear hN4 hN n5 hy4 n7 hy6 kc8 kc9 kc10; omega)⟩ (by clear hN4 hN n5 hy4 n7 hy6 kc8 kc9 kc10; omega) (by clear n5 hy4 n7 hy6 kc8 kc9 kc10; omega)
            · have kc23 := tq_ltn (x := x2) (y := (2 : Int32)) rfl (b := 2) (by decide) c23
              have n27 : (x2 + (-1)).toInt = x2.toInt + (-1) := i_addK rfl (by decide) (by clear hN4 hN n5 hy4 n7 hy6 kc8 kc9 kc10; omega) (by clear hN4 hN n5 hy4 n7 hy6 kc8 kc9 kc10; omega)
              refine D_lt (fun y26 ey26 => ?_)
              have hy26 : y26.toInt = (x2 + (-1) : Int32).toInt := by rw [ey26]
              have n28 : (y26 - 1).toInt = y26.toInt - 1 := i_subK rfl (by decide) (by clear hN4 hN n5 hy4 n7 hy6 kc8 kc9 kc10; omega) (by clear hN4 hN n5 hy4 n7 hy6 kc8 kc9 kc10; omega)
              refine D_ck (okI_of (by clear hN4 hN n5 hy4 n7 hy6 kc8 kc9 kc10; omega) (by clear hN4 hN n5 hy4 n7 hy6 kc8 kc9 kc10; omega)) ?_
              refine D_ck (okI_of (by clear hN4 hN n5 hy4 n7 hy6 kc8 kc9 kc10; omega) (by clear hN4 hN n5 hy4 n7 hy6 kc8 kc9 kc10; omega)) ?_
              refine D_bd (t_X1_joined y6 (L (32 + 3 * j) (y26 - 1).toNatClampNeg) (L (32 + 3 * j) y26.toNatClampNeg) ) (fun r29 eq31 hq30 => ?_)
              refine D_ite (fun c32 => ?_) (fun c32 => ?_)
              · skip
                exact D_some trivial
              · skip
                refine D_ite (fun c33 => ?_) (fun c33 => ?_)
                · skip
                  refine D_lt (fun L_34 eL_34 => ?_)
                  have n36 : (x3 + 1).toInt = x3.toInt + 1 := i_addK rfl (by decide) (by clear hN4 hN n5 hy4 n7 hy6 kc8 kc9 kc10; omega) (by clear hN4 hN n5 hy4 n7 hy6 kc8 kc9 kc10; omega)
                  refine D_lt (fun y35 ey35 => ?_)
                  have hy35 : y35.toInt = (x3 + 1 : Int32).toInt := by rw [ey35]
                  exact hk4 y26 y35 L_34 ⟨(by clear hN4 hN n5 hy4 n7 hy6 kc8 kc9 kc10; omega), (by clear hN4 hN n5 hy4 n7 hy6 kc8 kc9 kc10; omega)⟩ ⟨(by clear hN4 hN n5 hy4 n7 hy6 kc8 kc9 kc10; omega), (by clear hN4 hN n5 hy4 n7 hy6 kc8 kc9 kc10; omega)⟩ (by clear hN4 hN n5 hy4 n7 hy6 kc8 kc9 kc10; omega) (by clear n5 hy4 n7 hy6 kc8 kc9 kc10; omega)
                · skip
                  exact D_some trivial
        · have kc9 := tq_ltn (x := y6) (y := (22 : Int32)) rfl (b := 22) (by decide) c9
          refine D_ite (fun c37 => ?_) (fun c37 => ?_)
          · have kc37 := tq_lt (x := (28 : Int32)) (y := y6) (a := 28) (by decide) rfl c37
            unfold fJ_X1_value_J82
            refine D_ite (fun c38 => ?_) (fun c38 => ?_)
            · have kc38 := tq_eq (x := y6) (y := (21 : Int32)) rfl (b := 21) (by decide) c38
              exfalso
              exact (by clear hx2 hx3 hdi hN4 hN n2 kc1 n5 hy4; omega)
            · skip
              unfold fJ_X1_value_J123
              refine D_ite (fun c39 => ?_) (fun c39 => ?_)
              · have kc39 := tq_lt (x := x2) (y := (2 : Int32)) rfl (b := 2) (by decide) c39
                have n41 : (x3 + 1).toInt = x3.toInt + 1 := i_addK rfl (by decide) (by clear hN4 hN n5 hy4 n7 hy6 kc8 kc9 kc37; omega) (by clear hN4 hN n5 hy4 n7 hy6 kc8 kc9 kc37; omega)
                refine D_lt (fun y40 ey40 => ?_)
                have hy40 : y40.toInt = (x3 + 1 : Int32).toInt := by rw [ey40]
                exact hk4 x2 y40 L ⟨(by clear hN4 hN n5 hy4 n7 hy6 kc8 kc9 kc37; omega), (by clear hN4 hN n5 hy4 n7 hy6 kc8 kc9 kc37; omega)⟩ ⟨(by clear hN4 hN n5 hy4 n7 hy6 kc8 kc9 kc37; omega), (by clear hN4 hN n5 hy4 n7 hy6 kc8 kc9 kc37; omega)⟩ (by clear hN4 hN n5 hy4 n7 hy6 kc8 kc9 kc37; omega) (by clear n5 hy4 n7 hy6 kc8 kc9 kc37; omega)
              · have kc39 := tq_ltn (x := x2) (y := (2 : Int32)) rfl (b := 2) (by decide) c39
                have n43 : (x2 + (-1)).toInt = x2.toInt + (-1) := i_addK rfl (by decide) (by clear hN4 hN n5 hy4 n7 hy6 kc8 kc9 kc37; omega) (by clear hN4 hN n5 hy4 n7 hy6 kc8 kc9 kc37; omega)
                refine D_lt (fun y42 ey42 => ?_)
                have hy42 : y42.toInt = (x2 + (-1) : Int32).toInt := by rw [ey42]
                have n44 : (y42 - 1).toInt = y42.toInt - 1 := i_subK rfl (by decide) (by clear hN4 hN n5 hy4 n7 hy6 kc8 kc9 kc37; omega) (by clear hN4 hN n5 hy4 n7 hy6 kc8 kc9 kc37; omega)
                refine D_ck (okI_of (by clear hN4 hN n5 hy4 n7 hy6 kc8 kc9 kc37; omega) (by clear hN4 hN n5 hy4 n7 hy6 kc8 kc9 kc37; omega)) ?_
                refine D_ck (okI_of (by clear hN4 hN n5 hy4 n7 hy6 kc8 kc9 kc37; omega) (by clear hN4 hN n5 hy4 n7 hy6 kc8 kc9 kc37; omega)) ?_
                refine D_bd (t_X1_joined y6 (L (32 + 3 * j) (y42 - 1).toNatClampNeg) (L (32 + 3 * j) y42.toNatClampNeg) ) (fun r45 eq47 hq46 => ?_)
                refine D_ite (fun c48 => ?_) (fun c48 => ?_)
                · skip
                  exact D_some trivial
                · skip
                  refine D_ite (fun c49 => ?_) (fun c49 => ?_)
                  · skip
                    refine D_lt (fun L_50 eL_50 => ?_)
                    have n52 : (x3 + 1).toInt = x3.toInt + 1 := i_addK rfl (by decide) (by clear hN4 hN n5 hy4 n7 hy6 kc8 kc9 kc37; omega) (by clear hN4 hN n5 hy4 n7 hy6 kc8 kc9 kc37; omega)
                    refine D_lt (fun y51 ey51 => ?_)
                    have hy51 : y51.toInt = (x3 + 1 : Int32).toInt := by rw [ey51]
                    exact hk4 y42 y51 L_50 ⟨(by clear hN4 hN n5 hy4 n7 hy6 kc8 kc9 kc37; omega), (by clear hN4 hN n5 hy4 n7 hy6 kc8 kc9 kc37; omega)⟩ ⟨(by clear hN4 hN n5 hy4 n7 hy6 kc8 kc9 kc37; omega), (by clear hN4 hN n5 hy4 n7 hy6 kc8 kc9 kc37; omega)⟩ (by clear hN4 hN n5 hy4 n7 hy6 kc8 kc9 kc37; omega) (by clear n5 hy4 n7 hy6 kc8 kc9 kc37; omega)
                  · skip
                    exact D_some trivial
          · have kc37 := tq_ltn (x := (28 : Int32)) (y := y6) (a := 28) (by decide) rfl c37
            have n53 : (y6 - 22).toInt = y6.toInt - 22 := i_subK rfl (by decide) (by clear hx2 hx3 hdi hN4 hN n2 kc1 n5 hy4; omega) (by clear hx2 hx3 hdi hN4 hN n2 kc1 n5 hy4; omega)
            refine D_ck (okI_of (by clear hx2 hx3 hdi hN4 hN n2 kc1 n5 hy4; omega) (by clear hx2 hx3 hdi hN4 hN n2 kc1 n5 hy4; omega)) ?_
            refine D_ck (okI_of (by clear hN4 hN n5 hy4 n7 hy6 kc8 kc9 kc37 n53; omega) (by clear hN4 hN n5 hy4 n7 hy6 kc8 kc9 kc37 n53; omega)) ?_
            refine D_lt (fun L_54 eL_54 => ?_)
            have n56 : (x2 + 1).toInt = x2.toInt + 1 := i_addK rfl (by decide) (by clear hN4 hN n5 hy4 n7 hy6 kc8 kc9 kc37 n53; omega) (by clear hN4 hN n5 hy4 n7 hy6 kc8 kc9 kc37 n53; omega)
            refine D_lt (fun y55 ey55 => ?_)
            have hy55 : y55.toInt = (x2 + 1 : Int32).toInt := by rw [ey55]
            have n58 : (x3 + 1).toInt = x3.toInt + 1 := i_addK rfl (by decide) (by clear hN4 hN n5 hy4 n7 hy6 kc8 kc9 kc37 n53; omega) (by clear hN4 hN n5 hy4 n7 hy6 kc8 kc9 kc37 n53; omega)
            refine D_lt (fun y57 ey57 => ?_)
            have hy57 : y57.toInt = (x3 + 1 : Int32).toInt := by rw [ey57]
            exact hk4 y55 y57 L_54 ⟨(by clear hN4 hN n5 hy4 n7 hy6 kc8 kc9 kc37 n53; omega), (by clear hN4 hN n5 hy4 n7 hy6 kc8 kc9 kc37 n53; omega)⟩ ⟨(by clear hN4 hN n5 hy4 n7 hy6 kc8 kc9 kc37 n53; omega), (by clear hN4 hN n5 hy4 n7 hy6 kc8 kc9 kc37 n53; omega)⟩ (by clear hN4 hN n5 hy4 n7 hy6 kc8 kc9 kc37 n53; omega) (by clear n5 hy4 n7 hy6 kc8 kc9 kc37 n53; omega)
      · have kc8 := tq_len (x := (0 : Int32)) (y := y6) (a := 0) (by decide) rfl c8
        refine D_ck (okI_of (by clear hN4 hN n5 hy4 n7 hy6 kc8; omega) (by clear hN4 hN n5 hy4 n7 hy6 kc8; omega)) ?_
        refine D_lt (fun L_59 eL_59 => ?_)
        have n61 : (x2 + 1).toInt = x2.toInt + 1 := i_addK rfl (by decide) (by clear hN4 hN n5 hy4 n7 hy6 kc8; omega) (by clear hN4 hN n5 hy4 n7 hy6 kc8; omega)
        refine D_lt (fun y60 ey60 => ?_)
        have hy60 : y60.toInt = (x2 + 1 : Int32).toInt := by rw [ey60]
        have n63 : (x3 + 1).toInt = x3.toInt + 1 := i_addK rfl (by decide) (by clear hN4 hN n5 hy4 n7 hy6 kc8; omega) (by clear hN4 hN n5 hy4 n7 hy6 kc8; omega)
        refine D_lt (fun y62 ey62 => ?_)
        have hy62 : y62.toInt = (x3 + 1 : Int32).toInt := by rw [ey62]
        exact hk4 y60 y62 L_59 ⟨(by clear hN4 hN n5 hy4 n7 hy6 kc8; omega), (by clear hN4 hN n5 hy4 n7 hy6 kc8; omega)⟩ ⟨(by clear hN4 hN n5 hy4 n7 hy6 kc8; omega), (by clear hN4 hN n5 hy4 n7 hy6 kc8; omega)⟩ (by clear hN4 hN n5 hy4 n7 hy6 kc8; omega) (by clear n5 hy4 n7 hy6 kc8; omega)
set_option maxHeartbeats 1000000 in
set_option maxRecDepth 100000 in
theorem t_X1_value (j : Nat) (T : Tr) (P : Tr) (L : Lo) (hT : iR BT T) (hP : iR BP P) (hj : j < 3) : D (f_X1_value j T P L) (fun (q : Int64 × Lo) => True) := by
  unfold f_X1_value
  have l0 : (0 : Int32).toInt = 0 := by decide
  exact tl_X1_value_L4 j T P hT hP hj   2000 (0 : Int32) (0 : Int32) L ⟨(by omega), (by omega)⟩ ⟨(by omega), (by omega)⟩ (by omega) (by omega)
set_option maxHeartbeats 1000000 in
set_option maxRecDepth 100000 in
theorem t_X6_worked (T : Tr) (P : Tr) (L : Lo) (x1 : Int32) (x2 : Int32) (x3 : Int32) (hT : iR BT T) (hP : iR BP P) (hx1 : 0 ≤ x1.toInt ∧ x1.toInt ≤ 2) (hx2 : 0 ≤ x2.toInt ∧ x2.toInt ≤ 9) : D (f_X6_worked T P L x1 x2 x3) (fun (q : Int64 × Tr × Lo) => (iR BT (q.2.1)) ∧ ((q.2.1) 0 0 = (T 0 0))) := by
  unfold f_X6_worked
  refine D_ck (okI_of (by omega) (by omega)) ?_
  refine D_lt (fun y1 ey1 => ?_)
  have n2 : (-1) ≤ (T 15 x2.toNatClampNeg).toInt ∧ (T 15 x2.toNatClampNeg).toInt ≤ 4 := hT 15 x2.toNatClampNeg
  have hy1 : y1.toInt = (T 15 x2.toNatClampNeg).toInt := by rw [ey1]
  refine D_ck (okI_of (by clear hx2 n2 hy1; omega) (by clear hx2 n2 hy1; omega)) ?_
  have w3 : x1.toNatClampNeg < 3 := i_n (by clear hx2 n2 hy1; omega) (by clear hx2 n2 hy1; omega)
  have n5 : 0 ≤ (P (30 + 3 * x1.toNatClampNeg) 1).toInt ∧ (P (30 + 3 * x1.toNatClampNeg) 1).toInt ≤ 64 := BP_law hP w3
  refine D_ite (fun c4 => ?_) (fun c4 => ?_)
  · have kc4 := tq_eq (x := (P (30 + 3 * x1.toNatClampNeg) 1)) (y := (0 : Int32)) rfl (b := 0) (by decide) c4
    exact D_some (show (iR BT T) ∧ (T 0 0 = (T 0 0)) from ⟨hT, rfl⟩)
  · have kc40 := tq_eqn (x := (P (30 + 3 * x1.toNatClampNeg) 1)) (y := (0 : Int32)) rfl (b := 0) (by decide) c4
    have kc4 : 1 ≤ (P (30 + 3 * x1.toNatClampNeg) 1).toInt := (by clear hx1 hx2 n2 hy1; omega)
    clear kc40
    refine D_ite (fun c6 => ?_) (fun c6 => ?_)
    · have kc6 := tq_le (x := (0 : Int32)) (y := y1) (a := 0) (by decide) rfl c6
      refine D_lt (fun T_7 eT_7 => ?_)
      have hT_7 : iR BT T_7 := by rw [eT_7]; exact iR_setU hT rfl
      have kT_0_0_t8 : T_7 0 0 = (T 0 0) := by rw [eT_7]; exact rfl
      refine D_lt (fun T_9 eT_9 => ?_)
      have hT_9 : iR BT T_9 := by rw [eT_9]; exact iR_setU hT_7 rfl
      have kT_0_0_t10 : T_9 0 0 = (T 0 0) := by rw [eT_9]; exact kT_0_0_t8
      refine D_ck (okI_of (by clear hx1 hx2 n5 kc4; omega) (by clear hx1 hx2 n5 kc4; omega)) ?_
      refine D_bd (t_X6_level T_9 x2 hT_9 ⟨(by clear hx1 n2 hy1 n5 kc4 kc6; omega), (by clear hx1 n2 hy1 n5 kc4 kc6; omega)⟩) (fun r11 eq13 hq12 => ?_)
      obtain ⟨p14, p15, p16⟩ : ((-1) ≤ r11.toInt ∧ r11.toInt ≤ 9) ∧ (0 ≤ r11.toInt → r11.toInt < (T_9 17 (T_9 15 x2.toNatClampNeg).toNatClampNeg).toInt) ∧ (0 ≤ r11.toInt → 0 ≤ (T_9 15 x2.toNatClampNeg).toInt) := hq12
      refine D_lt (fun T_17 eT_17 => ?_)
      have hT_17 : iR BT T_17 := by rw [eT_17]; exact iR_setU hT_9 rfl
      have kT_0_0_t18 : T_17 0 0 = (T 0 0) := by rw [eT_17]; exact kT_0_0_t10
      refine D_lt (fun T_19 eT_19 => ?_)
      have hT_19 : iR BT T_19 := by rw [eT_19]; exact iR_setU hT_17 rfl
      have kT_0_0_t20 : T_19 0 0 = (T 0 0) := by rw [eT_19]; exact kT_0_0_t18
      refine D_lt (fun T_21 eT_21 => ?_)
      have hT_21 : iR BT T_21 := by rw [eT_21]; exact iR_setU hT_19 rfl
      have kT_0_0_t22 : T_21 0 0 = (T 0 0) := by rw [eT_21]; exact kT_0_0_t20
      refine D_lt (fun T_23 eT_23 => ?_)
      have hT_23 : iR BT T_23 := by rw [eT_23]; exact iR_setU hT_21 rfl
      have kT_0_0_t24 : T_23 0 0 = (T 0 0) := by rw [eT_23]; exact kT_0_0_t22
      refine D_lt (fun T_25 eT_25 => ?_)
      have hT_25 : iR BT T_25 := by rw [eT_25]; exact iR_setU hT_23 rfl
      have kT_0_0_t26 : T_25 0 0 = (T 0 0) := by rw [eT_25]; exact kT_0_0_t24
      refine D_bd2 (t_X1_value x1.toNatClampNeg T_25 P L hT_25 hP w3) (fun r27 L_28 eq30 hq29 => ?_)
      refine D_lte (y := r27) rfl ?_
      refine D_lte (y := L_28) rfl ?_
      exact D_some (show (iR BT T_25) ∧ (T_25 0 0 = (T 0 0)) from ⟨hT_25, kT_0_0_t26⟩)
    · have kc6 := tq_len (x := (0 : Int32)) (y := y1) (a := 0) (by decide) rfl c6
      exact D_some (show (iR BT T) ∧ (T 0 0 = (T 0 0)) from ⟨hT, rfl⟩)
set_option maxHeartbeats 1000000 in
set_option maxRecDepth 100000 in
theorem t_X6_within (x0 : Int64) (x2 : Int32)  : D (f_X6_within x0 x2) (fun (q : Int32) => True) := by
  unfold f_X6_within
  refine D_ite (fun c1 => ?_) (fun c1 => ?_)
  · skip
    refine D_ite (fun c2 => ?_) (fun c2 => ?_)
    · skip
      have n3 := i_rng x0.toInt32
      exact D_some trivial
    · skip
      have n4 := i_rng x2
      exact D_some trivial
  · skip
    have l0 : (0 : Int32).toInt = 0 := by decide
    exact D_some trivial
set_option maxHeartbeats 1000000 in
set_option maxRecDepth 100000 in
theorem t_X6_fallPercent (T : Tr) (P : Tr) (L : Lo) (x1 : Int32) (hT : iR BT T) (hP : iR BP P) (hx1 : 0 ≤ x1.toInt ∧ x1.toInt ≤ 9) : D (f_X6_fallPercent T P L x1) (fun (q : Int32 × Tr × Lo) => (iR BT (q.2.1)) ∧ ((q.2.1) 0 0 = (T 0 0))) := by
  unfold f_X6_fallPercent
  refine D_ck (okI_of (by omega) (by omega)) ?_
  have n1 : 0 ≤ (P 14 x1.toNatClampNeg).toInt ∧ (P 14 x1.toNatClampNeg).toInt ≤ 5 := hP 14 x1.toNatClampNeg
  refine D_ck (okI_of (by omega) (by omega)) ?_
  have l1 : (1 : Int32).toInt = 1 := by decide
  have n2 := i_rng (T 10 (P 14 x1.toNatClampNeg).toNatClampNeg)
  refine D_bd3 (t_X6_worked T P L (1 : Int32) x1 (T 10 (P 14 x1.toNatClampNeg).toNatClampNeg) hT hP ⟨(by clear hx1 n1 n2; omega), (by clear hx1 n1 n2; omega)⟩ ⟨(by omega), (by omega)⟩) (fun r3 T_4 L_5 eq7 hq6 => ?_)
  refine D_lte (y := r3) rfl ?_
  refine D_lte (y := T_4) rfl ?_
  refine D_lte (y := L_5) rfl ?_
  obtain ⟨p8, p9⟩ : (iR BT T_4) ∧ (T_4 0 0 = (T 0 0)) := hq6
  have k10 : T_4 0 0 = (T 0 0) := p9
  refine D_ite (fun c11 => ?_) (fun c11 => ?_)
  · skip
    refine D_bd (t_X6_level T_4 x1 p8 ⟨(by omega), (by omega)⟩) (fun r12 eq14 hq13 => ?_)
    obtain ⟨p15, p16, p17⟩ : ((-1) ≤ r12.toInt ∧ r12.toInt ≤ 9) ∧ (0 ≤ r12.toInt → r12.toInt < (T_4 17 (T_4 15 x1.toNatClampNeg).toNatClampNeg).toInt) ∧ (0 ≤ r12.toInt → 0 ≤ (T_4 15 x1.toNatClampNeg).toInt) := hq13
    unfold fJ_X6_fallPercent_J57
    have l100 : (100 : Int32).toInt = 100 := by decide
    refine D_bd (t_X6_within ((((T_4 0 4) + ((10 : Int32) * r12)) - (P 15 x1.toNatClampNeg)).toInt64) (100 : Int32) ) (fun r18 eq20 hq19 => ?_)
    have n21 := i_rng r18
    exact D_some (show (iR BT T_4) ∧ (T_4 0 0 = (T 0 0)) from ⟨p8, k10⟩)
  · skip
    unfold fJ_X6_fallPercent_J57
    have l100 : (100 : Int32).toInt = 100 := by decide
    refine D_bd (t_X6_within r3 (100 : Int32) ) (fun r22 eq24 hq23 => ?_)
    have n25 := i_rng r22
    exact D_some (show (iR BT T_4) ∧ (T_4 0 0 = (T 0 0)) from ⟨p8, k10⟩)
set_option maxHeartbeats 1000000 in
set_option maxRecDepth 100000 in
theorem t_X6_happens (T : Tr) (x1 : Int32) (hT : iR BT T) : D (f_X6_happens T x1) (fun (q : Int32 × Tr) => (0 ≤ (q.1).toInt ∧ (q.1).toInt ≤ 1) ∧ (iR BT (q.2)) ∧ ((q.2) 0 0 = (T 0 0))) := by
  unfold f_X6_happens
  have n2 := i_rng (T 0 5)
  refine D_ite (fun c1 => ?_) (fun c1 => ?_)
  · have kc1 := tq_eq (x := (T 0 5)) (y := (0 : Int32)) rfl (b := 0) (by decide) c1
    have n4 := i_rng x1
    refine D_ite (fun c3 => ?_) (fun c3 => ?_)
    · have kc3 := tq_lt (x := x1) (y := (50 : Int32)) rfl (b := 50) (by decide) c3
      have l0 : (0 : Int32).toInt = 0 := by decide
      exact D_some (show (0 ≤ (0 : Int32).toInt ∧ (0 : Int32).toInt ≤ 1) ∧ (iR BT T) ∧ (T 0 0 = (T 0 0)) from ⟨⟨(by clear n2 kc1 n4 kc3; omega), (by clear n2 kc1 n4 kc3; omega)⟩, hT, rfl⟩)
    · have kc3 := tq_ltn (x := x1) (y := (50 : Int32)) rfl (b := 50) (by decide) c3
      have l1 : (1 : Int32).toInt = 1 := by decide
      exact D_some (show (0 ≤ (1 : Int32).toInt ∧ (1 : Int32).toInt ≤ 1) ∧ (iR BT T) ∧ (T 0 0 = (T 0 0)) from ⟨⟨(by clear n2 kc1 n4 kc3; omega), (by clear n2 kc1 n4 kc3; omega)⟩, hT, rfl⟩)
  · skip
    refine D_lt (fun T_5 eT_5 => ?_)
    have hT_5 : iR BT T_5 := by rw [eT_5]; exact iR_setU hT rfl
    have kT_0_0_t6 : T_5 0 0 = (T 0 0) := by rw [eT_5]; exact rfl
    have n7 : (T_5 0 5).toInt = (T 0 5).toInt := by rw [eT_5]; rfl
    have n9 := i_rng x1
    have n10 := i_rng ((((T_5 0 2).toUInt32 >>> ((16 : Int32).toUInt32 &&& Int32.toUInt32 31)).toInt32) - (((T_5 0 2).toUInt32 >>> ((16 : Int32).toUInt32 &&& Int32.toUInt32 31)).toInt32) / 100 * 100)
    refine D_ite (fun c8 => ?_) (fun c8 => ?_)
    · have kc8 := tq_le (x := x1) (y := ((((T_5 0 2).toUInt32 >>> ((16 : Int32).toUInt32 &&& Int32.toUInt32 31)).toInt32) - (((T_5 0 2).toUInt32 >>> ((16 : Int32).toUInt32 &&& Int32.toUInt32 31)).toInt32) / 100 * 100)) rfl rfl c8
      have l0 : (0 : Int32).toInt = 0 := by decide
      exact D_some (show (0 ≤ (0 : Int32).toInt ∧ (0 : Int32).toInt ≤ 1) ∧ (iR BT T_5) ∧ (T_5 0 0 = (T 0 0)) from ⟨⟨(by clear n2 n7 n9 n10 kc8; omega), (by clear n2 n7 n9 n10 kc8; omega)⟩, hT_5, kT_0_0_t6⟩)
    · have kc8 := tq_len (x := x1) (y := ((((T_5 0 2).toUInt32 >>> ((16 : Int32).toUInt32 &&& Int32.toUInt32 31)).toInt32) - (((T_5 0 2).toUInt32 >>> ((16 : Int32).toUInt32 &&& Int32.toUInt32 31)).toInt32) / 100 * 100)) rfl rfl c8
      have l1 : (1 : Int32).toInt = 1 := by decide
      exact D_some (show (0 ≤ (1 : Int32).toInt ∧ (1 : Int32).toInt ≤ 1) ∧ (iR BT T_5) ∧ (T_5 0 0 = (T 0 0)) from ⟨⟨(by clear n2 n7 n9 n10 kc8; omega), (by clear n2 n7 n9 n10 kc8; omega)⟩, hT_5, kT_0_0_t6⟩)
set_option maxHeartbeats 1000000 in
set_option maxRecDepth 100000 in
theorem tl_X6_takeAway_L22 (zT_0_0 : Int32) (P : Tr) (x1 : Int32) (x2 : Int32) (x4 : Int32) (hP : iR BP P) (hx1 : 0 ≤ x1.toInt ∧ x1.toInt ≤ 9) (hx4 : 0 ≤ x4.toInt ∧ x4.toInt ≤ 4)   (N : Nat) : ∀ (x5 : Int32) (T : Tr), T 0 0 = zT_0_0 → iR BT T → 0 ≤ x5.toInt ∧ x5.toInt ≤ 1000 → x5.toInt + 1 ≤ (T 17 x4.toNatClampNeg).toInt → 1000 - x5.toInt < (N : Int) → D (lpF (fun _ _ => none) (fB_X6_takeAway_L22 P x1 x2 x4) N x5 T) (fun (q : Tr) => (iR BT q) ∧ (q 0 0 = zT_0_0)) := by
  induction N with
  | zero =>
    intro x5 T dT_0_0 hT hx5 hlv hN
    exfalso
    omega
  | succ N22 ih =>
    intro x5 T dT_0_0 hT hx5 hlv hN
    have hk22 : ∀ (x5 : Int32) (T : Tr), T 0 0 = zT_0_0 → iR BT T → 0 ≤ x5.toInt ∧ x5.toInt ≤ 1000 → x5.toInt + 1 ≤ (T 17 x4.toNatClampNeg).toInt → 1000 - x5.toInt < (N22 : Int) → D (lpF (fun _ _ => none) (fB_X6_takeAway_L22 P x1 x2 x4) N22 x5 T) (fun (q : Tr) => (iR BT q) ∧ (q 0 0 = zT_0_0)) := ih
    show D (fB_X6_takeAway_L22 P x1 x2 x4 (lpF (fun _ _ => none) (fB_X6_takeAway_L22 P x1 x2 x4) N22) x5 T) _
    generalize lpF (fun _ _ => none) (fB_X6_takeAway_L22 P x1 x2 x4) N22 = k22 at hk22 ⊢
    have hN22 : 1000 - x5.toInt < (N22 : Int) + 1 := by omega
    clear ih
    unfold fB_X6_takeAway_L22
    refine D_ck (okI_of (by clear hx1 hx5 hlv hN22 hN; omega) (by clear hx1 hx5 hlv hN22 hN; omega)) ?_
    have n11 : (x5 + 1).toInt = x5.toInt + 1 := i_addK rfl (by decide) (by clear hx1 hx4 hN22 hN; omega) (by clear hx1 hx4 hN22 hN; omega)
    have n12 : 0 ≤ (T 17 x4.toNatClampNeg).toInt ∧ (T 17 x4.toNatClampNeg).toInt ≤ 10 := hT 17 x4.toNatClampNeg
    refine D_ite (fun c10 => ?_) (fun c10 => ?_)
    · have kc10 := tq_le (x := (T 17 x4.toNatClampNeg)) (y := (x5 + 1)) rfl rfl c10
      unfold fJ_X6_takeAway_J70
      refine D_ck (okI_of (by clear hx1 hx5 hlv hN22 hN n11 n12 kc10; omega) (by clear hx1 hx5 hlv hN22 hN n11 n12 kc10; omega)) ?_
      have n14 : ((T 17 x4.toNatClampNeg) - 1).toInt = (T 17 x4.toNatClampNeg).toInt - 1 := i_subK rfl (by decide) (by clear hx1 hx4 hN22 hN; omega) (by clear hx1 hx4 hN22 hN; omega)
      refine D_lt (fun T_13 eT_13 => ?_)
      have hT_13 : iR BT T_13 := by rw [eT_13]; exact iR_set hT (show (0 : Int) ≤ _ from (by clear hx1 hx4 hN22 hN; omega)) (show _ ≤ (10 : Int) from (by clear hx1 hx4 hN22 hN; omega))
      have kT_0_0_t15 : T_13 0 0 = zT_0_0 := by rw [eT_13]; exact dT_0_0
      refine D_ck (okI_of (by clear hx4 hx5 hlv hN22 hN n11 n12 kc10 n14; omega) (by clear hx4 hx5 hlv hN22 hN n11 n12 kc10 n14; omega)) ?_
      refine D_lt (fun T_16 eT_16 => ?_)
      have hT_16 : iR BT T_16 := by rw [eT_16]; exact iR_setU hT_13 rfl
      have kT_0_0_t17 : T_16 0 0 = zT_0_0 := by rw [eT_16]; exact kT_0_0_t15
      have lm1 : ((-1) : Int32).toInt = (-1) := by decide
      refine D_lt (fun T_18 eT_18 => ?_)
      have hT_18 : iR BT T_18 := by rw [eT_18]; exact iR_set hT_16 (show ((-1) : Int) ≤ _ from (by clear hx1 hx4 hx5 hlv hN22 hN n11 n12 kc10 n14; omega)) (show _ ≤ (4 : Int) from (by clear hx1 hx4 hx5 hlv hN22 hN n11 n12 kc10 n14; omega))
      have kT_0_0_t19 : T_18 0 0 = zT_0_0 := by rw [eT_18]; exact kT_0_0_t17
      refine D_lt (fun T_20 eT_20 => ?_)
      have hT_20 : iR BT T_20 := by rw [eT_20]; exact iR_setU hT_18 rfl
      have kT_0_0_t21 : T_20 0 0 = zT_0_0 := by rw [eT_20]; exact kT_0_0_t19
      exact D_some (show (iR BT T_20) ∧ (T_20 0 0 = zT_0_0) from ⟨hT_20, kT_0_0_t21⟩)
    · have kc10 := tq_len (x := (T 17 x4.toNatClampNeg)) (y := (x5 + 1)) rfl rfl c10
      have n22 := i_mulR (a := x4) (b := (10 : Int32)) 10 (by decide) (by clear hx1 hx5 hlv hN22 hN n11 n12 kc10; omega) (by clear hx1 hx5 hlv hN22 hN n11 n12 kc10; omega)
      have n23 : ((x4 * 10) + x5).toInt = (x4 * 10).toInt + x5.toInt := i_addK rfl rfl (by clear hx1 hN22 hN; omega) (by clear hx1 hN22 hN; omega)
      have n24 : (((x4 * 10) + x5) + 1).toInt = ((x4 * 10) + x5).toInt + 1 := i_addK rfl (by decide) (by clear hx1 hN22 hN; omega) (by clear hx1 hN22 hN; omega)
      refine D_ck (okI_of (by clear hx1 hN22 hN; omega) (by clear hx1 hN22 hN; omega)) ?_
      refine D_ck (okI_of (by clear hx1 hN22 hN; omega) (by clear hx1 hN22 hN; omega)) ?_
      have n26 : 0 ≤ (T 16 (((x4 * 10) + x5) + 1).toNatClampNeg).toInt ∧ (T 16 (((x4 * 10) + x5) + 1).toNatClampNeg).toInt ≤ 9 := hT 16 ((((x4 * 10) + x5) + 1).toNatClampNeg)
      refine D_lt (fun T_25 eT_25 => ?_)
      have hT_25 : iR BT T_25 := by rw [eT_25]; exact iR_set hT (show (0 : Int) ≤ _ from (by clear hx1 hx4 hx5 hlv hN22 hN n11 n12 kc10 n22 n23 n24; omega)) (show _ ≤ (9 : Int) from (by clear hx1 hx4 hx5 hlv hN22 hN n11 n12 kc10 n22 n23 n24; omega))
      have kT_0_0_t27 : T_25 0 0 = zT_0_0 := by rw [eT_25]; exact dT_0_0
      refine D_lt (fun y28 ey28 => ?_)
      have hy28 : y28.toInt = (x5 + 1 : Int32).toInt := by rw [ey28]
      exact hk22 y28 T_25 kT_0_0_t27 hT_25 ⟨(by clear hx1 hN22 hN n26; omega), (by clear hx1 hN22 hN n26; omega)⟩ (show y28.toInt + 1 ≤ (T_25 17 x4.toNatClampNeg).toInt by rw [eT_25]; show y28.toInt + 1 ≤ (T 17 x4.toNatClampNeg).toInt; omega) (by omega)
set_option maxHeartbeats 1000000 in
set_option maxRecDepth 100000 in
theorem t_X6_takeAway (T : Tr) (P : Tr) (x1 : Int32) (x2 : Int32) (hT : iR BT T) (hP : iR BP P) (hx1 : 0 ≤ x1.toInt ∧ x1.toInt ≤ 9) : D (f_X6_takeAway T P x1 x2) (fun (q : Tr) => (iR BT q) ∧ (q 0 0 = (T 0 0))) := by
  unfold f_X6_takeAway
  refine D_bd (t_X6_level T x1 hT ⟨(by omega), (by omega)⟩) (fun r1 eq3 hq2 => ?_)
  obtain ⟨p4, p5, p6⟩ : ((-1) ≤ r1.toInt ∧ r1.toInt ≤ 9) ∧ (0 ≤ r1.toInt → r1.toInt < (T 17 (T 15 x1.toNatClampNeg).toNatClampNeg).toInt) ∧ (0 ≤ r1.toInt → 0 ≤ (T 15 x1.toNatClampNeg).toInt) := hq2
  refine D_ite (fun c7 => ?_) (fun c7 => ?_)
  · have kc7 := tq_le (x := (0 : Int32)) (y := r1) (a := 0) (by decide) rfl c7
    refine D_ck (okI_of (by clear p4 p5 p6 kc7; omega) (by clear p4 p5 p6 kc7; omega)) ?_
    refine D_lt (fun y8 ey8 => ?_)
    have n9 : (-1) ≤ (T 15 x1.toNatClampNeg).toInt ∧ (T 15 x1.toNatClampNeg).toInt ≤ 4 := hT 15 x1.toNatClampNeg
    have hy8 : y8.toInt = (T 15 x1.toNatClampNeg).toInt := by rw [ey8]
    have n29 := i_rng x2
    exact tl_X6_takeAway_L22 (T 0 0) P x1 x2 y8 hP ⟨(by clear p4 p5 p6 kc7 n9 hy8 n29; omega), (by clear p4 p5 p6 kc7 n9 hy8 n29; omega)⟩ ⟨(by omega), (by omega)⟩   2000 r1 T rfl hT ⟨(by omega), (by omega)⟩ (by rw [ey8]; omega) (by omega)
  · have kc7 := tq_len (x := (0 : Int32)) (y := r1) (a := 0) (by decide) rfl c7
    exact D_some (show (iR BT T) ∧ (T 0 0 = (T 0 0)) from ⟨hT, rfl⟩)
set_option maxHeartbeats 1000000 in
set_option maxRecDepth 100000 in
theorem tl_X6_fallOff_L4 (zT_0_0 : Int32) (P : Tr) (hP : iR BP P)   (N : Nat) : ∀ (x1 : Int32) (x2 : Int32) (T : Tr) (L : Lo), T 0 0 = zT_0_0 → iR BT T → 0 ≤ x2.toInt ∧ x2.toInt ≤ 1000 → 1000 - x2.toInt < (N : Int) → D (lpF (fun _ _ _ _ => none) (fB_X6_fallOff_L4 P) N x1 x2 T L) (fun (q : Int32 × Tr × Lo) => (iR BT (q.2.1)) ∧ ((q.2.1) 0 0 = zT_0_0)) := by
  induction N with
  | zero =>
    intro x1 x2 T L dT_0_0 hT hx2 hN
    exfalso
    omega
  | succ N4 ih =>
    intro x1 x2 T L dT_0_0 hT hx2 hN
    have hk4 : ∀ (x1 : Int32) (x2 : Int32) (T : Tr) (L : Lo), T 0 0 = zT_0_0 → iR BT T → 0 ≤ x2.toInt ∧ x2.toInt ≤ 1000 → 1000 - x2.toInt < (N4 : Int) → D (lpF (fun _ _ _ _ => none) (fB_X6_fallOff_L4 P) N4 x1 x2 T L) (fun (q : Int32 × Tr × Lo) => (iR BT (q.2.1)) ∧ ((q.2.1) 0 0 = zT_0_0)) := ih
    show D (fB_X6_fallOff_L4 P (lpF (fun _ _ _ _ => none) (fB_X6_fallOff_L4 P) N4) x1 x2 T L) _
    generalize lpF (fun _ _ _ _ => none) (fB_X6_fallOff_L4 P) N4 = k4 at hk4 ⊢
    have hN4 : 1000 - x2.toInt < (N4 : Int) + 1 := by omega
    clear ih
    unfold fB_X6_fallOff_L4
    have n2 : 0 ≤ (P 0 0).toInt ∧ (P 0 0).toInt ≤ 5 := hP 0 0
    refine D_ite (fun c1 => ?_) (fun c1 => ?_)
    · have kc1 := tq_le (x := (P 0 0)) (y := x2) rfl rfl c1
      have n3 := i_rng x1
      exact D_some (show (iR BT T) ∧ (T 0 0 = zT_0_0) from ⟨hT, dT_0_0⟩)
    · have kc1 := tq_len (x := (P 0 0)) (y := x2) rfl rfl c1
      have n5 := i_rng (T 0 6)
      refine D_ite (fun c4 => ?_) (fun c4 => ?_)
      · have kc4 := tq_eq (x := (T 0 6)) (y := (0 : Int32)) rfl (b := 0) (by decide) c4
        have n6 := i_rng x1
        exact D_some (show (iR BT T) ∧ (T 0 0 = zT_0_0) from ⟨hT, dT_0_0⟩)
      · skip
        refine D_bd (t_X6_top T x2 hT ⟨(by clear hN4 hN n5; omega), (by clear hN4 hN n5; omega)⟩) (fun r7 eq9 hq8 => ?_)
        have p10 : (-1) ≤ r7.toInt ∧ r7.toInt ≤ 9 := hq8
        refine D_ite (fun c11 => ?_) (fun c11 => ?_)
        · have kc11 := tq_lt (x := r7) (y := (0 : Int32)) rfl (b := 0) (by decide) c11
          have n13 : (x2 + 1).toInt = x2.toInt + 1 := i_addK rfl (by decide) (by clear hN4 hN n5 p10 kc11; omega) (by clear hN4 hN n5 p10 kc11; omega)
          refine D_lt (fun y12 ey12 => ?_)
          have hy12 : y12.toInt = (x2 + 1 : Int32).toInt := by rw [ey12]
          have n14 := i_rng x1
          exact hk4 x1 y12 T L dT_0_0 hT ⟨(by clear hN4 hN n5 p10 kc11 n14; omega), (by clear hN4 hN n5 p10 kc11 n14; omega)⟩ (by clear n5 p10 kc11 n14; omega)
        · have kc11 := tq_ltn (x := r7) (y := (0 : Int32)) rfl (b := 0) (by decide) c11
          refine D_bd (t_X6_isRack P x2 hP ⟨(by clear hN4 hN n5 p10 kc11; omega), (by clear hN4 hN n5 p10 kc11; omega)⟩) (fun r15 eq17 hq16 => ?_)
          have p18 : 0 ≤ r15.toInt ∧ r15.toInt ≤ 1 := hq16
          refine D_ite (fun c19 => ?_) (fun c19 => ?_)
          · have kc19 := tq_eq (x := r15) (y := (0 : Int32)) rfl (b := 0) (by decide) c19
            have n21 : (x2 + 1).toInt = x2.toInt + 1 := i_addK rfl (by decide) (by clear hN4 hN n5 p10 kc11 p18 kc19; omega) (by clear hN4 hN n5 p10 kc11 p18 kc19; omega)
            refine D_lt (fun y20 ey20 => ?_)
            have hy20 : y20.toInt = (x2 + 1 : Int32).toInt := by rw [ey20]
            have n22 := i_rng x1
            exact hk4 x1 y20 T L dT_0_0 hT ⟨(by clear hN4 hN n5 p10 kc11 p18 kc19 n22; omega), (by clear hN4 hN n5 p10 kc11 p18 kc19 n22; omega)⟩ (by clear n5 p10 kc11 p18 kc19 n22; omega)
          · have kc190 := tq_eqn (x := r15) (y := (0 : Int32)) rfl (b := 0) (by decide) c19
            have kc19 : 1 ≤ r15.toInt := (by clear hx2 hN4 hN n2 kc1 n5 p10 kc11; omega)
            clear kc190
            refine D_bd3 (t_X6_fallPercent T P L r7 hT hP ⟨(by clear hx2 hN4 hN n2 kc1 n5 p18 kc19; omega), (by clear hx2 hN4 hN n2 kc1 n5 p18 kc19; omega)⟩) (fun r23 T_24 L_25 eq27 hq26 => ?_)
            refine D_lte (y := r23) rfl ?_
            refine D_lte (y := T_24) rfl ?_
            refine D_lte (y := L_25) rfl ?_
            obtain ⟨p28, p29⟩ : (iR BT T_24) ∧ (T_24 0 0 = (T 0 0)) := hq26
            have n30 := i_rng r23
            have k31 : T_24 0 0 = zT_0_0 := p29.trans dT_0_0
            refine D_bd2 (t_X6_happens T_24 r23 p28) (fun r32 T_33 eq35 hq34 => ?_)
            refine D_lte (y := r32) rfl ?_
            refine D_lte (y := T_33) rfl ?_
            obtain ⟨p36, p37, p38⟩ : (0 ≤ r32.toInt ∧ r32.toInt ≤ 1) ∧ (iR BT T_33) ∧ (T_33 0 0 = (T_24 0 0)) := hq34
            have k39 : T_33 0 0 = zT_0_0 := p38.trans k31
            refine D_ite (fun c40 => ?_) (fun c40 => ?_)
            · have kc40 := tq_eq (x := r32) (y := (0 : Int32)) rfl (b := 0) (by decide) c40
              have n42 : (x2 + 1).toInt = x2.toInt + 1 := i_addK rfl (by decide) (by clear hN4 hN n5 p10 kc11 p18 kc19 n30 p36 kc40; omega) (by clear hN4 hN n5 p10 kc11 p18 kc19 n30 p36 kc40; omega)
              refine D_lt (fun y41 ey41 => ?_)
              have hy41 : y41.toInt = (x2 + 1 : Int32).toInt := by rw [ey41]
              have n43 := i_rng x1
              exact hk4 x1 y41 T_33 L_25 k39 p37 ⟨(by clear hN4 hN n5 p10 kc11 p18 kc19 n30 p36 kc40 n43; omega), (by clear hN4 hN n5 p10 kc11 p18 kc19 n30 p36 kc40 n43; omega)⟩ (by clear n5 p10 kc11 p18 kc19 n30 p36 kc40 n43; omega)
            · have kc400 := tq_eqn (x := r32) (y := (0 : Int32)) rfl (b := 0) (by decide) c40
              have kc40 : 1 ≤ r32.toInt := (by clear hx2 hN4 hN n2 kc1 n5 p10 kc11 p18 kc19 n30; omega)
              clear kc400
              have l3 : (3 : Int32).toInt = 3 := by decide
              refine D_bd (t_X6_takeAway T_33 P r7 (3 : Int32) p37 hP ⟨(by clear hx2 hN4 hN n2 kc1 n5 p18 kc19 n30 p36 kc40; omega), (by clear hx2 hN4 hN n2 kc1 n5 p18 kc19 n30 p36 kc40; omega)⟩) (fun T_44 eq46 hq45 => ?_)
              obtain ⟨p47, p48⟩ : (iR BT T_44) ∧ (T_44 0 0 = (T_33 0 0)) := hq45
              have k49 : T_44 0 0 = zT_0_0 := p48.trans k39
              refine D_lt (fun y50 ey50 => ?_)
              have n51 := i_rng (x1 ||| ((1 : Int32) <<< (r7 &&& 31)))
              have hy50 : y50.toInt = (x1 ||| ((1 : Int32) <<< (r7 &&& 31))).toInt := by rw [ey50]
              have n53 : (x2 + 1).toInt = x2.toInt + 1 := i_addK rfl (by decide) (by clear hN4 hN n5 p10 kc11 p18 kc19 n30 p36 kc40 n51 hy50; omega) (by clear hN4 hN n5 p10 kc11 p18 kc19 n30 p36 kc40 n51 hy50; omega)
              refine D_lt (fun y52 ey52 => ?_)
              have hy52 : y52.toInt = (x2 + 1 : Int32).toInt := by rw [ey52]
              exact hk4 y50 y52 T_44 L_25 k49 p47 ⟨(by clear hN4 hN n5 p10 kc11 p18 kc19 n30 p36 kc40 n51 hy50; omega), (by clear hN4 hN n5 p10 kc11 p18 kc19 n30 p36 kc40 n51 hy50; omega)⟩ (by clear n5 p10 kc11 p18 kc19 n30 p36 kc40 n51 hy50; omega)
set_option maxHeartbeats 1000000 in
set_option maxRecDepth 100000 in
theorem t_X6_fallOff (T : Tr) (P : Tr) (L : Lo) (hT : iR BT T) (hP : iR BP P) : D (f_X6_fallOff T P L) (fun (q : Int32 × Tr × Lo) => (iR BT (q.2.1)) ∧ ((q.2.1) 0 0 = (T 0 0))) := by
  unfold f_X6_fallOff
  have l0 : (0 : Int32).toInt = 0 := by decide
  exact tl_X6_fallOff_L4 (T 0 0) P hP   2000 (0 : Int32) (0 : Int32) T L rfl hT ⟨(by omega), (by omega)⟩ (by omega)
set_option maxHeartbeats 1000000 in
set_option maxRecDepth 100000 in
theorem tl_X6_firstLate_L2 (T : Tr) (P : Tr) (hT : iR BT T) (hP : iR BP P)   (N : Nat) : ∀ (x1 : Int32), 0 ≤ x1.toInt ∧ x1.toInt ≤ 1000 → 1000 - x1.toInt < (N : Int) → D (lpF (fun _ => none) (fB_X6_firstLate_L2 T P) N x1) (fun (q : Int32) => ((-1) ≤ q.toInt ∧ q.toInt ≤ 5)) := by
  induction N with
  | zero =>
    intro x1 hx1 hN
    exfalso
    omega
  | succ N2 ih =>
    intro x1 hx1 hN
    have hk2 : ∀ (x1 : Int32), 0 ≤ x1.toInt ∧ x1.toInt ≤ 1000 → 1000 - x1.toInt < (N2 : Int) → D (lpF (fun _ => none) (fB_X6_firstLate_L2 T P) N2 x1) (fun (q : Int32) => ((-1) ≤ q.toInt ∧ q.toInt ≤ 5)) := ih
    show D (fB_X6_firstLate_L2 T P (lpF (fun _ => none) (fB_X6_firstLate_L2 T P) N2) x1) _
    generalize lpF (fun _ => none) (fB_X6_firstLate_L2 T P) N2 = k2 at hk2 ⊢
    have hN2 : 1000 - x1.toInt < (N2 : Int) + 1 := by omega
    clear ih
    unfold fB_X6_firstLate_L2
    have n2 : 0 ≤ (P 0 1).toInt ∧ (P 0 1).toInt ≤ 6 := hP 0 1
    refine D_ite (fun c1 => ?_) (fun c1 => ?_)
    · have kc1 := tq_le (x := (P 0 1)) (y := x1) rfl rfl c1
      have lm1 : ((-1) : Int32).toInt = (-1) := by decide
      exact D_some (show ((-1) ≤ ((-1) : Int32).toInt ∧ ((-1) : Int32).toInt ≤ 5) from ⟨(by clear hx1 hN2 hN n2 kc1; omega), (by clear hx1 hN2 hN n2 kc1; omega)⟩)
    · have kc1 := tq_len (x := (P 0 1)) (y := x1) rfl rfl c1
      refine D_ck (okI_of (by omega) (by omega)) ?_
      have n4 := i_rng (T 11 x1.toNatClampNeg)
      refine D_ite (fun c3 => ?_) (fun c3 => ?_)
      · have kc3 := tq_eq (x := (T 11 x1.toNatClampNeg)) (y := (1 : Int32)) rfl (b := 1) (by decide) c3
        have n6 : 0 ≤ (P 12 x1.toNatClampNeg).toInt ∧ (P 12 x1.toNatClampNeg).toInt ≤ 20 := hP 12 x1.toNatClampNeg
        have n7 : 0 ≤ (T 0 0).toInt ∧ (T 0 0).toInt ≤ 21 := hT 0 0
        refine D_ite (fun c5 => ?_) (fun c5 => ?_)
        · have kc5 := tq_eq (x := (P 12 x1.toNatClampNeg)) (y := (T 0 0)) rfl rfl c5
          exact D_some (show ((-1) ≤ x1.toInt ∧ x1.toInt ≤ 5) from ⟨(by clear hN2 hN n4 kc3 n6 n7 kc5; omega), (by clear hN2 hN n4 kc3 n6 n7 kc5; omega)⟩)
        · skip
          have n9 : (x1 + 1).toInt = x1.toInt + 1 := i_addK rfl (by decide) (by clear hN2 hN n4 kc3 n6 n7; omega) (by clear hN2 hN n4 kc3 n6 n7; omega)
          refine D_lt (fun y8 ey8 => ?_)
          have hy8 : y8.toInt = (x1 + 1 : Int32).toInt := by rw [ey8]
          exact hk2 y8 ⟨(by clear hN2 hN n4 kc3 n6 n7; omega), (by clear hN2 hN n4 kc3 n6 n7; omega)⟩ (by clear n4 kc3 n6 n7; omega)
      · skip
        have n11 : (x1 + 1).toInt = x1.toInt + 1 := i_addK rfl (by decide) (by clear hN2 hN n4; omega) (by clear hN2 hN n4; omega)
        refine D_lt (fun y10 ey10 => ?_)
        have hy10 : y10.toInt = (x1 + 1 : Int32).toInt := by rw [ey10]
        exact hk2 y10 ⟨(by clear hN2 hN n4; omega), (by clear hN2 hN n4; omega)⟩ (by omega)
set_option maxHeartbeats 1000000 in
set_option maxRecDepth 100000 in
theorem t_X6_firstLate (T : Tr) (P : Tr) (hT : iR BT T) (hP : iR BP P) : D (f_X6_firstLate T P) (fun (q : Int32) => ((-1) ≤ q.toInt ∧ q.toInt ≤ 5)) := by
  unfold f_X6_firstLate
  have l0 : (0 : Int32).toInt = 0 := by decide
  exact tl_X6_firstLate_L2 T P hT hP   2000 (0 : Int32) ⟨(by omega), (by omega)⟩ (by omega)
set_option maxHeartbeats 1000000 in
set_option maxRecDepth 100000 in
theorem t_X6_hasRoom (T : Tr) (P : Tr) (x1 : Int32) (x2 : Int32) (hT : iR BT T) (hP : iR BP P) (hx1 : 0 ≤ x1.toInt ∧ x1.toInt ≤ 4) (hx2 : 0 ≤ x2.toInt ∧ x2.toInt ≤ 9) : D (f_X6_hasRoom T P x1 x2) (fun (q : Int32) => (0 ≤ q.toInt ∧ q.toInt ≤ 1)) := by
  unfold f_X6_hasRoom
  refine D_ck (okI_of (by omega) (by omega)) ?_
  refine D_ck (okI_of (by omega) (by omega)) ?_
  have n2 := i_rng ((T 18 x1.toNatClampNeg) + (P 15 x2.toNatClampNeg))
  have n3 := i_rng (P 9 x1.toNatClampNeg)
  refine D_ite (fun c1 => ?_) (fun c1 => ?_)
  · have kc1 := tq_lt (x := (P 9 x1.toNatClampNeg)) (y := ((T 18 x1.toNatClampNeg) + (P 15 x2.toNatClampNeg))) rfl rfl c1
    have l0 : (0 : Int32).toInt = 0 := by decide
    exact D_some (show (0 ≤ (0 : Int32).toInt ∧ (0 : Int32).toInt ≤ 1) from ⟨(by clear hx1 hx2 n2 n3 kc1; omega), (by clear hx1 hx2 n2 n3 kc1; omega)⟩)
  · have kc1 := tq_ltn (x := (P 9 x1.toNatClampNeg)) (y := ((T 18 x1.toNatClampNeg) + (P 15 x2.toNatClampNeg))) rfl rfl c1
    have l1 : (1 : Int32).toInt = 1 := by decide
    exact D_some (show (0 ≤ (1 : Int32).toInt ∧ (1 : Int32).toInt ≤ 1) from ⟨(by clear hx1 hx2 n2 n3 kc1; omega), (by clear hx1 hx2 n2 n3 kc1; omega)⟩)
