set_option maxHeartbeats 1000000 in
set_option maxRecDepth 100000 in
theorem t_X8_ableOf (S : Tr) (x1 : Int32) (x2 : Int32) (hS : iR BM S) (hx1 : 0 ≤ x1.toInt ∧ x1.toInt ≤ 1) (hx2 : 0 ≤ x2.toInt ∧ x2.toInt ≤ 5) : D (f_X8_ableOf S x1 x2) (fun (q : Int32) => (1 ≤ (S 58 (((6 : Int32) * x1) + x2).toNatClampNeg).toInt → 1 ≤ q.toInt)) := by
  unfold f_X8_ableOf
  have n2 : 0 ≤ (S 0 69).toInt ∧ (S 0 69).toInt ≤ 1 := hS 0 69
  refine D_ite (fun c1 => ?_) (fun c1 => ?_)
  · have kc1 := tq_eq (x := (S 0 69)) (y := (0 : Int32)) rfl (b := 0) (by decide) c1
    have n3 := i_mulL (a := (6 : Int32)) (b := x1) 6 (by decide) (by clear hx2 n2 kc1; omega) (by clear hx2 n2 kc1; omega)
    have n4 : (((6 : Int32) * x1) + x2).toInt = ((6 : Int32) * x1).toInt + x2.toInt := i_addK rfl rfl (by omega) (by omega)
    refine D_ck (okI_of (by omega) (by omega)) ?_
    have n5 := i_rng (S 58 (((6 : Int32) * x1) + x2).toNatClampNeg)
    exact D_some (show (1 ≤ (S 58 (((6 : Int32) * x1) + x2).toNatClampNeg).toInt → 1 ≤ (S 58 (((6 : Int32) * x1) + x2).toNatClampNeg).toInt) from (fun hz => hz))
  · have kc10 := tq_eqn (x := (S 0 69)) (y := (0 : Int32)) rfl (b := 0) (by decide) c1
    have kc1 : 1 ≤ (S 0 69).toInt := (by omega)
    clear kc10
    have l99 : (99 : Int32).toInt = 99 := by decide
    exact D_some (show (1 ≤ (S 58 (((6 : Int32) * x1) + x2).toNatClampNeg).toInt → 1 ≤ (99 : Int32).toInt) from (fun hz => by decide))
set_option maxHeartbeats 1000000 in
set_option maxRecDepth 100000 in
theorem t_X8_aboveOf (S : Tr) (x1 : Int32) (x2 : Int32) (hS : iR BM S) (hx1 : 0 ≤ x1.toInt ∧ x1.toInt ≤ 1) (hx2 : 0 ≤ x2.toInt ∧ x2.toInt ≤ 9) (hg : gS x1.toNatClampNeg S) : D (f_X8_aboveOf S x1 x2) (fun (q : Int32) => True) := by
  unfold f_X8_aboveOf
  have n1 := i_mulL (a := (10 : Int32)) (b := x1) 10 (by decide) (by omega) (by omega)
  have n2 : (((10 : Int32) * x1) + x2).toInt = ((10 : Int32) * x1).toInt + x2.toInt := i_addK rfl rfl (by omega) (by omega)
  refine D_ck (okI_of (by omega) (by omega)) ?_
  have n4 : (-1) ≤ (S 54 (((10 : Int32) * x1) + x2).toNatClampNeg).toInt ∧ (S 54 (((10 : Int32) * x1) + x2).toNatClampNeg).toInt ≤ 4 := hS 54 ((((10 : Int32) * x1) + x2).toNatClampNeg)
  refine D_ite (fun c3 => ?_) (fun c3 => ?_)
  · have kc3 := tq_le (x := (0 : Int32)) (y := (S 54 (((10 : Int32) * x1) + x2).toNatClampNeg)) (a := 0) (by decide) rfl c3
    have n5 := i_mulL (a := (5 : Int32)) (b := x1) 5 (by decide) (by omega) (by omega)
    have n6 : (((5 : Int32) * x1) + (S 54 (((10 : Int32) * x1) + x2).toNatClampNeg)).toInt = ((5 : Int32) * x1).toInt + (S 54 (((10 : Int32) * x1) + x2).toNatClampNeg).toInt := i_addK rfl rfl (by omega) (by omega)
    refine D_ck (okI_of (by omega) (by omega)) ?_
    refine D_bd (t_X8_belowOf S x1 x2 hS ⟨(by omega), (by omega)⟩ ⟨(by omega), (by omega)⟩ (by first | assumption | exact (by clear hx1 hx2 n1 n2 n4 kc3 n5 n6; omega)) (by first | assumption | exact (by omega))) (fun r7 eq9 hq8 => ?_)
    obtain ⟨p10, p11, p12⟩ : (0 ≤ r7.toInt ∧ r7.toInt ≤ 9) ∧ (r7.toInt < (S 56 (((5 : Int32) * x1) + (S 54 (((10 : Int32) * x1) + x2).toNatClampNeg)).toNatClampNeg).toInt) ∧ (S 55 (50 * x1.toNatClampNeg + 10 * (S 54 (((10 : Int32) * x1) + x2).toNatClampNeg).toNatClampNeg + r7.toNatClampNeg) = x2) := hq8
    have n13 : 0 ≤ (S 56 (((5 : Int32) * x1) + (S 54 (((10 : Int32) * x1) + x2).toNatClampNeg)).toNatClampNeg).toInt ∧ (S 56 (((5 : Int32) * x1) + (S 54 (((10 : Int32) * x1) + x2).toNatClampNeg)).toNatClampNeg).toInt ≤ 10 := hS 56 ((((5 : Int32) * x1) + (S 54 (((10 : Int32) * x1) + x2).toNatClampNeg)).toNatClampNeg)
    have n14 : ((S 56 (((5 : Int32) * x1) + (S 54 (((10 : Int32) * x1) + x2).toNatClampNeg)).toNatClampNeg) - 1).toInt = (S 56 (((5 : Int32) * x1) + (S 54 (((10 : Int32) * x1) + x2).toNatClampNeg)).toNatClampNeg).toInt - 1 := i_subK rfl (by decide) (by clear hx1 hx2 n1 n2 n4 kc3 n5 n6; omega) (by clear hx1 hx2 n1 n2 n4 kc3 n5 n6; omega)
    have n15 : (((S 56 (((5 : Int32) * x1) + (S 54 (((10 : Int32) * x1) + x2).toNatClampNeg)).toNatClampNeg) - 1) - r7).toInt = ((S 56 (((5 : Int32) * x1) + (S 54 (((10 : Int32) * x1) + x2).toNatClampNeg)).toNatClampNeg) - 1).toInt - r7.toInt := i_subK rfl rfl (by clear hx1 hx2 n1 n2 n4 kc3 n5 n6; omega) (by clear hx1 hx2 n1 n2 n4 kc3 n5 n6; omega)
    exact D_some trivial
  · have kc3 := tq_len (x := (0 : Int32)) (y := (S 54 (((10 : Int32) * x1) + x2).toNatClampNeg)) (a := 0) (by decide) rfl c3
    have l0 : (0 : Int32).toInt = 0 := by decide
    exact D_some trivial
set_option maxHeartbeats 1000000 in
set_option maxRecDepth 100000 in
theorem t_X8_isPiece (S : Tr) (x1 : Int32) (hS : iR BM S) : D (f_X8_isPiece S x1) (fun (q : Int32) => (0 ≤ q.toInt ∧ q.toInt ≤ 1) ∧ (q.toInt = 1 → 0 ≤ x1.toInt ∧ x1.toInt < (S 0 14).toInt)) := by
  unfold f_X8_isPiece
  have n1 : 0 ≤ (S 0 14).toInt ∧ (S 0 14).toInt ≤ 10 := hS 0 14
  have n3 := i_rng x1
  refine D_ite (fun c2 => ?_) (fun c2 => ?_)
  · have kc2 := tq_lt (x := x1) (y := (0 : Int32)) rfl (b := 0) (by decide) c2
    have l0 : (0 : Int32).toInt = 0 := by decide
    exact D_some (show (0 ≤ (0 : Int32).toInt ∧ (0 : Int32).toInt ≤ 1) ∧ ((0 : Int32).toInt = 1 → 0 ≤ x1.toInt ∧ x1.toInt < (S 0 14).toInt) from ⟨⟨(by clear n1 n3 kc2; omega), (by clear n1 n3 kc2; omega)⟩, (by omega)⟩)
  · have kc2 := tq_ltn (x := x1) (y := (0 : Int32)) rfl (b := 0) (by decide) c2
    refine D_ite (fun c4 => ?_) (fun c4 => ?_)
    · have kc4 := tq_le (x := (S 0 14)) (y := x1) rfl rfl c4
      have l0 : (0 : Int32).toInt = 0 := by decide
      exact D_some (show (0 ≤ (0 : Int32).toInt ∧ (0 : Int32).toInt ≤ 1) ∧ ((0 : Int32).toInt = 1 → 0 ≤ x1.toInt ∧ x1.toInt < (S 0 14).toInt) from ⟨⟨(by clear n1 n3 kc2 kc4; omega), (by clear n1 n3 kc2 kc4; omega)⟩, (by omega)⟩)
    · have kc4 := tq_len (x := (S 0 14)) (y := x1) rfl rfl c4
      have l1 : (1 : Int32).toInt = 1 := by decide
      exact D_some (show (0 ≤ (1 : Int32).toInt ∧ (1 : Int32).toInt ≤ 1) ∧ ((1 : Int32).toInt = 1 → 0 ≤ x1.toInt ∧ x1.toInt < (S 0 14).toInt) from ⟨⟨(by clear n1 n3 kc2 kc4; omega), (by clear n1 n3 kc2 kc4; omega)⟩, (by omega)⟩)
set_option maxHeartbeats 1000000 in
set_option maxRecDepth 100000 in
theorem t_X8_isComing (S : Tr) (x1 : Int32) (hS : iR BM S) (hx1 : 0 ≤ x1.toInt ∧ x1.toInt ≤ 9) : D (f_X8_isComing S x1) (fun (q : Int32) => (0 ≤ q.toInt ∧ q.toInt ≤ 1) ∧ (q.toInt = 1 → (S 53 x1.toNatClampNeg).toInt = 0)) := by
  unfold f_X8_isComing
  refine D_ck (okI_of (by omega) (by omega)) ?_
  have n2 : 0 ≤ (S 53 x1.toNatClampNeg).toInt ∧ (S 53 x1.toNatClampNeg).toInt ≤ 5 := hS 53 x1.toNatClampNeg
  refine D_ite (fun c1 => ?_) (fun c1 => ?_)
  · have kc1 := tq_eq (x := (S 53 x1.toNatClampNeg)) (y := (0 : Int32)) rfl (b := 0) (by decide) c1
    have n3 : 0 ≤ (S 30 x1.toNatClampNeg).toInt ∧ (S 30 x1.toNatClampNeg).toInt ≤ 5 := hS 30 x1.toNatClampNeg
    refine D_ck (okI_of (by clear hx1 n2 kc1; omega) (by clear hx1 n2 kc1; omega)) ?_
    have n5 := i_rng (S 57 (S 30 x1.toNatClampNeg).toNatClampNeg)
    have n6 : 0 ≤ (S 62 0).toInt ∧ (S 62 0).toInt ≤ 21 := hS 62 0
    refine D_ite (fun c4 => ?_) (fun c4 => ?_)
    · have kc4 := tq_eq (x := (S 57 (S 30 x1.toNatClampNeg).toNatClampNeg)) (y := (S 62 0)) rfl rfl c4
      have n8 := i_rng (S 59 (S 30 x1.toNatClampNeg).toNatClampNeg)
      refine D_ite (fun c7 => ?_) (fun c7 => ?_)
      · have kc7 := tq_eq (x := (S 59 (S 30 x1.toNatClampNeg).toNatClampNeg)) (y := (0 : Int32)) rfl (b := 0) (by decide) c7
        have l1 : (1 : Int32).toInt = 1 := by decide
        exact D_some (show (0 ≤ (1 : Int32).toInt ∧ (1 : Int32).toInt ≤ 1) ∧ ((1 : Int32).toInt = 1 → (S 53 x1.toNatClampNeg).toInt = 0) from ⟨⟨(by clear hx1 n2 kc1 n3 n5 n6 kc4 n8 kc7; omega), (by clear hx1 n2 kc1 n3 n5 n6 kc4 n8 kc7; omega)⟩, (by clear hx1 n3 n5 n6 kc4 n8 kc7; omega)⟩)
      · skip
        have l0 : (0 : Int32).toInt = 0 := by decide
        exact D_some (show (0 ≤ (0 : Int32).toInt ∧ (0 : Int32).toInt ≤ 1) ∧ ((0 : Int32).toInt = 1 → (S 53 x1.toNatClampNeg).toInt = 0) from ⟨⟨(by clear hx1 n2 kc1 n3 n5 n6 kc4 n8; omega), (by clear hx1 n2 kc1 n3 n5 n6 kc4 n8; omega)⟩, (by clear hx1 n3 n5 n6 kc4 n8; omega)⟩)
    · skip
      have l0 : (0 : Int32).toInt = 0 := by decide
      exact D_some (show (0 ≤ (0 : Int32).toInt ∧ (0 : Int32).toInt ≤ 1) ∧ ((0 : Int32).toInt = 1 → (S 53 x1.toNatClampNeg).toInt = 0) from ⟨⟨(by clear hx1 n2 kc1 n3 n5 n6; omega), (by clear hx1 n2 kc1 n3 n5 n6; omega)⟩, (by clear hx1 n3 n5 n6; omega)⟩)
  · have kc10 := tq_eqn (x := (S 53 x1.toNatClampNeg)) (y := (0 : Int32)) rfl (b := 0) (by decide) c1
    have kc1 : 1 ≤ (S 53 x1.toNatClampNeg).toInt := (by omega)
    clear kc10
    have l0 : (0 : Int32).toInt = 0 := by decide
    exact D_some (show (0 ≤ (0 : Int32).toInt ∧ (0 : Int32).toInt ≤ 1) ∧ ((0 : Int32).toInt = 1 → (S 53 x1.toNatClampNeg).toInt = 0) from ⟨⟨(by clear hx1 n2 kc1; omega), (by clear hx1 n2 kc1; omega)⟩, (by omega)⟩)
set_option maxHeartbeats 1000000 in
set_option maxRecDepth 100000 in
theorem t_X8_areTwo (S : Tr) (x1 : Int32) (x2 : Int32) (hS : iR BM S) : D (f_X8_areTwo S x1 x2) (fun (q : Int32) => (0 ≤ q.toInt ∧ q.toInt ≤ 1) ∧ (q.toInt = 1 → 0 ≤ x1.toInt ∧ x1.toInt < (S 0 14).toInt ∧ 0 ≤ x2.toInt ∧ x2.toInt < (S 0 14).toInt ∧ (S 62 0).toInt ≤ 20 ∧ 1 ≤ (S 0 12).toInt)) := by
  unfold f_X8_areTwo
  have n1 : 0 ≤ (S 0 14).toInt ∧ (S 0 14).toInt ≤ 10 := hS 0 14
  have n2 : 0 ≤ (S 0 12).toInt ∧ (S 0 12).toInt ≤ 5 := hS 0 12
  have n3 := i_rng x1
  refine D_bd (t_X8_isPiece S x1 hS) (fun r4 eq6 hq5 => ?_)
  obtain ⟨p7, p8⟩ : (0 ≤ r4.toInt ∧ r4.toInt ≤ 1) ∧ (r4.toInt = 1 → 0 ≤ x1.toInt ∧ x1.toInt < (S 0 14).toInt) := hq5
  refine D_ite (fun c9 => ?_) (fun c9 => ?_)
  · have kc9 := tq_eq (x := r4) (y := (0 : Int32)) rfl (b := 0) (by decide) c9
    have l0 : (0 : Int32).toInt = 0 := by decide
    exact D_some (show (0 ≤ (0 : Int32).toInt ∧ (0 : Int32).toInt ≤ 1) ∧ ((0 : Int32).toInt = 1 → 0 ≤ x1.toInt ∧ x1.toInt < (S 0 14).toInt ∧ 0 ≤ x2.toInt ∧ x2.toInt < (S 0 14).toInt ∧ (S 62 0).toInt ≤ 20 ∧ 1 ≤ (S 0 12).toInt) from ⟨⟨(by clear n1 n2 n3 p7 p8 kc9; omega), (by clear n1 n2 n3 p7 p8 kc9; omega)⟩, (by omega)⟩)
  · have kc90 := tq_eqn (x := r4) (y := (0 : Int32)) rfl (b := 0) (by decide) c9
    have kc9 : 1 ≤ r4.toInt := (by omega)
    clear kc90
    have n10 := i_rng x2
    refine D_bd (t_X8_isPiece S x2 hS) (fun r11 eq13 hq12 => ?_)
    obtain ⟨p14, p15⟩ : (0 ≤ r11.toInt ∧ r11.toInt ≤ 1) ∧ (r11.toInt = 1 → 0 ≤ x2.toInt ∧ x2.toInt < (S 0 14).toInt) := hq12
    refine D_ite (fun c16 => ?_) (fun c16 => ?_)
    · have kc16 := tq_eq (x := r11) (y := (0 : Int32)) rfl (b := 0) (by decide) c16
      have l0 : (0 : Int32).toInt = 0 := by decide
      exact D_some (show (0 ≤ (0 : Int32).toInt ∧ (0 : Int32).toInt ≤ 1) ∧ ((0 : Int32).toInt = 1 → 0 ≤ x1.toInt ∧ x1.toInt < (S 0 14).toInt ∧ 0 ≤ x2.toInt ∧ x2.toInt < (S 0 14).toInt ∧ (S 62 0).toInt ≤ 20 ∧ 1 ≤ (S 0 12).toInt) from ⟨⟨(by clear n1 n2 n3 p7 p8 kc9 n10 p14 p15 kc16; omega), (by clear n1 n2 n3 p7 p8 kc9 n10 p14 p15 kc16; omega)⟩, (by omega)⟩)
    · have kc160 := tq_eqn (x := r11) (y := (0 : Int32)) rfl (b := 0) (by decide) c16
      have kc16 : 1 ≤ r11.toInt := (by omega)
      clear kc160
      refine D_ite (fun c17 => ?_) (fun c17 => ?_)
      · have kc17 := tq_eq (x := x1) (y := x2) rfl rfl c17
        have l0 : (0 : Int32).toInt = 0 := by decide
        exact D_some (show (0 ≤ (0 : Int32).toInt ∧ (0 : Int32).toInt ≤ 1) ∧ ((0 : Int32).toInt = 1 → 0 ≤ x1.toInt ∧ x1.toInt < (S 0 14).toInt ∧ 0 ≤ x2.toInt ∧ x2.toInt < (S 0 14).toInt ∧ (S 62 0).toInt ≤ 20 ∧ 1 ≤ (S 0 12).toInt) from ⟨⟨(by clear n1 n2 n3 p7 p8 kc9 n10 p14 p15 kc16 kc17; omega), (by clear n1 n2 n3 p7 p8 kc9 n10 p14 p15 kc16 kc17; omega)⟩, (by omega)⟩)
      · skip
        refine D_ck (okI_of (by omega) (by omega)) ?_
        refine D_ck (okI_of (by omega) (by omega)) ?_
        have n19 : 0 ≤ (S 30 x1.toNatClampNeg).toInt ∧ (S 30 x1.toNatClampNeg).toInt ≤ 5 := hS 30 x1.toNatClampNeg
        have n20 : 0 ≤ (S 30 x2.toNatClampNeg).toInt ∧ (S 30 x2.toNatClampNeg).toInt ≤ 5 := hS 30 x2.toNatClampNeg
        refine D_ite (fun c18 => ?_) (fun c18 => ?_)
        · have kc18 := tq_eq (x := (S 30 x1.toNatClampNeg)) (y := (S 30 x2.toNatClampNeg)) rfl rfl c18
          have l0 : (0 : Int32).toInt = 0 := by decide
          exact D_some (show (0 ≤ (0 : Int32).toInt ∧ (0 : Int32).toInt ≤ 1) ∧ ((0 : Int32).toInt = 1 → 0 ≤ x1.toInt ∧ x1.toInt < (S 0 14).toInt ∧ 0 ≤ x2.toInt ∧ x2.toInt < (S 0 14).toInt ∧ (S 62 0).toInt ≤ 20 ∧ 1 ≤ (S 0 12).toInt) from ⟨⟨(by clear n1 n2 n3 p7 p8 kc9 n10 p14 p15 kc16 n19 n20 kc18; omega), (by clear n1 n2 n3 p7 p8 kc9 n10 p14 p15 kc16 n19 n20 kc18; omega)⟩, (by clear n19 n20 kc18; omega)⟩)
        · skip
          have n22 : 0 ≤ (S 62 0).toInt ∧ (S 62 0).toInt ≤ 21 := hS 62 0
          refine D_ite (fun c21 => ?_) (fun c21 => ?_)
          · have kc21 := tq_le (x := (21 : Int32)) (y := (S 62 0)) (a := 21) (by decide) rfl c21
            have l0 : (0 : Int32).toInt = 0 := by decide
            exact D_some (show (0 ≤ (0 : Int32).toInt ∧ (0 : Int32).toInt ≤ 1) ∧ ((0 : Int32).toInt = 1 → 0 ≤ x1.toInt ∧ x1.toInt < (S 0 14).toInt ∧ 0 ≤ x2.toInt ∧ x2.toInt < (S 0 14).toInt ∧ (S 62 0).toInt ≤ 20 ∧ 1 ≤ (S 0 12).toInt) from ⟨⟨(by clear n1 n2 n3 p7 p8 kc9 n10 p14 p15 kc16 n19 n20 n22 kc21; omega), (by clear n1 n2 n3 p7 p8 kc9 n10 p14 p15 kc16 n19 n20 n22 kc21; omega)⟩, (by omega)⟩)
          · have kc21 := tq_len (x := (21 : Int32)) (y := (S 62 0)) (a := 21) (by decide) rfl c21
            refine D_bd (t_X8_isComing S x1 hS ⟨(by clear n2 n19 n20 n22 kc21; omega), (by clear n2 n19 n20 n22 kc21; omega)⟩) (fun r23 eq25 hq24 => ?_)
            obtain ⟨p26, p27⟩ : (0 ≤ r23.toInt ∧ r23.toInt ≤ 1) ∧ (r23.toInt = 1 → (S 53 x1.toNatClampNeg).toInt = 0) := hq24
            refine D_ite (fun c28 => ?_) (fun c28 => ?_)
            · have kc28 := tq_eq (x := r23) (y := (0 : Int32)) rfl (b := 0) (by decide) c28
              have l0 : (0 : Int32).toInt = 0 := by decide
              exact D_some (show (0 ≤ (0 : Int32).toInt ∧ (0 : Int32).toInt ≤ 1) ∧ ((0 : Int32).toInt = 1 → 0 ≤ x1.toInt ∧ x1.toInt < (S 0 14).toInt ∧ 0 ≤ x2.toInt ∧ x2.toInt < (S 0 14).toInt ∧ (S 62 0).toInt ≤ 20 ∧ 1 ≤ (S 0 12).toInt) from ⟨⟨(by clear n1 n2 n3 p7 p8 kc9 n10 p14 p15 kc16 n19 n20 n22 kc21 p26 p27 kc28; omega), (by clear n1 n2 n3 p7 p8 kc9 n10 p14 p15 kc16 n19 n20 n22 kc21 p26 p27 kc28; omega)⟩, (by clear n19 n20 p26 p27 kc28; omega)⟩)
            · have kc280 := tq_eqn (x := r23) (y := (0 : Int32)) rfl (b := 0) (by decide) c28
              have kc28 : 1 ≤ r23.toInt := (by clear n1 n2 n3 p7 p8 kc9 n10 p14 p15 kc16 n19 n20 n22 kc21; omega)
              clear kc280
              refine D_bd (t_X8_isComing S x2 hS ⟨(by clear n2 n19 n20 n22 kc21 p26 p27 kc28; omega), (by clear n2 n19 n20 n22 kc21 p26 p27 kc28; omega)⟩) (fun r29 eq31 hq30 => ?_)
              obtain ⟨p32, p33⟩ : (0 ≤ r29.toInt ∧ r29.toInt ≤ 1) ∧ (r29.toInt = 1 → (S 53 x2.toNatClampNeg).toInt = 0) := hq30
              refine D_ite (fun c34 => ?_) (fun c34 => ?_)
              · have kc34 := tq_eq (x := r29) (y := (0 : Int32)) rfl (b := 0) (by decide) c34
                have l0 : (0 : Int32).toInt = 0 := by decide
                exact D_some (show (0 ≤ (0 : Int32).toInt ∧ (0 : Int32).toInt ≤ 1) ∧ ((0 : Int32).toInt = 1 → 0 ≤ x1.toInt ∧ x1.toInt < (S 0 14).toInt ∧ 0 ≤ x2.toInt ∧ x2.toInt < (S 0 14).toInt ∧ (S 62 0).toInt ≤ 20 ∧ 1 ≤ (S 0 12).toInt) from ⟨⟨(by clear n1 n2 n3 p7 p8 kc9 n10 p14 p15 kc16 n19 n20 n22 kc21 p26 p27 kc28 p32 p33 kc34; omega), (by clear n1 n2 n3 p7 p8 kc9 n10 p14 p15 kc16 n19 n20 n22 kc21 p26 p27 kc28 p32 p33 kc34; omega)⟩, (by clear n19 n20 p26 p27 kc28 p32 p33 kc34; omega)⟩)
              · have kc340 := tq_eqn (x := r29) (y := (0 : Int32)) rfl (b := 0) (by decide) c34
                have kc34 : 1 ≤ r29.toInt := (by clear n1 n2 n3 p7 p8 kc9 n10 p14 p15 kc16 n19 n20 n22 kc21 p26 p27 kc28; omega)
                clear kc340
                refine D_ite (fun c35 => ?_) (fun c35 => ?_)
                · have kc35 := tq_le (x := (S 0 12)) (y := (0 : Int32)) rfl (b := 0) (by decide) c35
                  have l0 : (0 : Int32).toInt = 0 := by decide
                  exact D_some (show (0 ≤ (0 : Int32).toInt ∧ (0 : Int32).toInt ≤ 1) ∧ ((0 : Int32).toInt = 1 → 0 ≤ x1.toInt ∧ x1.toInt < (S 0 14).toInt ∧ 0 ≤ x2.toInt ∧ x2.toInt < (S 0 14).toInt ∧ (S 62 0).toInt ≤ 20 ∧ 1 ≤ (S 0 12).toInt) from ⟨⟨(by clear n1 n2 n3 p7 p8 kc9 n10 p14 p15 kc16 n19 n20 n22 kc21 p26 p27 kc28 p32 p33 kc34 kc35; omega), (by clear n1 n2 n3 p7 p8 kc9 n10 p14 p15 kc16 n19 n20 n22 kc21 p26 p27 kc28 p32 p33 kc34 kc35; omega)⟩, (by clear n19 n20 p26 p27 kc28 p32 p33 kc34; omega)⟩)
                · have kc35 := tq_len (x := (S 0 12)) (y := (0 : Int32)) rfl (b := 0) (by decide) c35
                  have l1 : (1 : Int32).toInt = 1 := by decide
                  exact D_some (show (0 ≤ (1 : Int32).toInt ∧ (1 : Int32).toInt ≤ 1) ∧ ((1 : Int32).toInt = 1 → 0 ≤ x1.toInt ∧ x1.toInt < (S 0 14).toInt ∧ 0 ≤ x2.toInt ∧ x2.toInt < (S 0 14).toInt ∧ (S 62 0).toInt ≤ 20 ∧ 1 ≤ (S 0 12).toInt) from ⟨⟨(by clear n1 n2 n3 p7 p8 kc9 n10 p14 p15 kc16 n19 n20 n22 kc21 p26 p27 kc28 p32 p33 kc34 kc35; omega), (by clear n1 n2 n3 p7 p8 kc9 n10 p14 p15 kc16 n19 n20 n22 kc21 p26 p27 kc28 p32 p33 kc34 kc35; omega)⟩, (by clear n19 n20 p26 p27 kc28 p32 p33 kc34; omega)⟩)
set_option maxHeartbeats 1000000 in
set_option maxRecDepth 100000 in
theorem tl_X8_plainTried_L42 (zaT : Tr)    (N : Nat) : ∀ (x1 : Int32) (S : Tr), aT zaT S → iR BM S → 0 ≤ x1.toInt ∧ x1.toInt ≤ 1000 → 1000 - x1.toInt < (N : Int) → D (lpF (fun _ _ => none) (fB_X8_plainTried_L42 ) N x1 S) (fun (q : Tr) => (iR BM q) ∧ (aT zaT q)) := by
  induction N with
  | zero =>
    intro x1 S daT hS hx1 hN
    exfalso
    omega
  | succ N42 ih =>
    intro x1 S daT hS hx1 hN
    have hk42 : ∀ (x1 : Int32) (S : Tr), aT zaT S → iR BM S → 0 ≤ x1.toInt ∧ x1.toInt ≤ 1000 → 1000 - x1.toInt < (N42 : Int) → D (lpF (fun _ _ => none) (fB_X8_plainTried_L42 ) N42 x1 S) (fun (q : Tr) => (iR BM q) ∧ (aT zaT q)) := ih
    show D (fB_X8_plainTried_L42  (lpF (fun _ _ => none) (fB_X8_plainTried_L42 ) N42) x1 S) _
    generalize lpF (fun _ _ => none) (fB_X8_plainTried_L42 ) N42 = k42 at hk42 ⊢
    have hN42 : 1000 - x1.toInt < (N42 : Int) + 1 := by omega
    clear ih
    unfold fB_X8_plainTried_L42
    refine D_ite (fun c44 => ?_) (fun c44 => ?_)
    · have kc44 := tq_le (x := (10 : Int32)) (y := x1) (a := 10) (by decide) rfl c44
      exact D_some (show (iR BM S) ∧ (aT zaT S) from ⟨hS, daT⟩)
    · have kc44 := tq_len (x := (10 : Int32)) (y := x1) (a := 10) (by decide) rfl c44
      refine D_ck (okI_of (by omega) (by omega)) ?_
      have lm1 : ((-1) : Int32).toInt = (-1) := by decide
      refine D_lt (fun S_45 eS_45 => ?_)
      have hS_45 : iR BM S_45 := by rw [eS_45]; exact iR_set hS (show ((-1) : Int) ≤ _ from (by clear hx1 hN42 hN kc44; omega)) (show _ ≤ (4 : Int) from (by clear hx1 hN42 hN kc44; omega))
      have kaT_t46 : aT zaT S_45 := (by rw [eS_45]; exact aT_set daT rfl)
      have n48 : (x1 + 1).toInt = x1.toInt + 1 := i_addK rfl (by decide) (by omega) (by omega)
      refine D_lt (fun y47 ey47 => ?_)
      have hy47 : y47.toInt = (x1 + 1 : Int32).toInt := by rw [ey47]
      exact hk42 y47 S_45 kaT_t46 hS_45 ⟨(by omega), (by omega)⟩ (by omega)
set_option maxHeartbeats 1000000 in
set_option maxRecDepth 100000 in
theorem t_X8_plainTried (S : Tr) (hS : iR BM S) : D (f_X8_plainTried S) (fun (q : Tr) => (iR BM q) ∧ (aT S q)) := by
  unfold f_X8_plainTried
  refine D_lt (fun S_1 eS_1 => ?_)
  have hS_1 : iR BM S_1 := by rw [eS_1]; exact iR_setU hS rfl
  have kaT_t2 : aT S S_1 := (by rw [eS_1]; exact aT_set aT_rfl rfl)
  have n3 := i_rng (S 23 0)
  have n4 : (S_1 0 64).toInt = (S 23 0).toInt := by rw [eS_1]; rfl
  have l0 : (0 : Int32).toInt = 0 := by decide
  refine D_lt (fun S_5 eS_5 => ?_)
  have hS_5 : iR BM S_5 := by rw [eS_5]; exact iR_set hS_1 (show (0 : Int) ≤ _ from (by omega)) (show _ ≤ (1 : Int) from (by omega))
  have kaT_t6 : aT S S_5 := (by rw [eS_5]; exact aT_set kaT_t2 rfl)
  have n7 : (S_5 0 64).toInt = (S_1 0 64).toInt := by rw [eS_5]; rfl
  have n8 : (S_5 0 65).toInt = (0 : Int32).toInt := by rw [eS_5]; rfl
  refine D_lt (fun S_9 eS_9 => ?_)
  have hS_9 : iR BM S_9 := by rw [eS_9]; exact iR_set hS_5 (show (0 : Int) ≤ _ from (by clear n3 n4 n7 n8; omega)) (show _ ≤ (1 : Int) from (by clear n3 n4 n7 n8; omega))
  have kaT_t10 : aT S S_9 := (by rw [eS_9]; exact aT_set kaT_t6 rfl)
  have n11 : (S_9 0 64).toInt = (S_5 0 64).toInt := by rw [eS_9]; rfl
  have n12 : (S_9 0 65).toInt = (S_5 0 65).toInt := by rw [eS_9]; rfl
  have n13 : (S_9 0 66).toInt = (0 : Int32).toInt := by rw [eS_9]; rfl
  refine D_lt (fun S_14 eS_14 => ?_)
  have hS_14 : iR BM S_14 := by rw [eS_14]; exact iR_set hS_9 (show (0 : Int) ≤ _ from (by clear n3 n4 n7 n8 n11 n12 n13; omega)) (show _ ≤ (1 : Int) from (by clear n3 n4 n7 n8 n11 n12 n13; omega))
  have kaT_t15 : aT S S_14 := (by rw [eS_14]; exact aT_set kaT_t10 rfl)
  have n16 : (S_14 0 66).toInt = (S_9 0 66).toInt := by rw [eS_14]; rfl
  have n17 : (S_14 0 64).toInt = (S_9 0 64).toInt := by rw [eS_14]; rfl
  have n18 : (S_14 0 65).toInt = (S_9 0 65).toInt := by rw [eS_14]; rfl
  have n19 : (S_14 0 67).toInt = (0 : Int32).toInt := by rw [eS_14]; rfl
  refine D_lt (fun S_20 eS_20 => ?_)
  have hS_20 : iR BM S_20 := by rw [eS_20]; exact iR_set hS_14 (show (0 : Int) ≤ _ from (by clear n3 n4 n7 n8 n11 n12 n13 n16 n17 n18 n19; omega)) (show _ ≤ (1 : Int) from (by clear n3 n4 n7 n8 n11 n12 n13 n16 n17 n18 n19; omega))
  have kaT_t21 : aT S S_20 := (by rw [eS_20]; exact aT_set kaT_t15 rfl)
  have n22 : (S_20 0 66).toInt = (S_14 0 66).toInt := by rw [eS_20]; rfl
  have n23 : (S_20 0 64).toInt = (S_14 0 64).toInt := by rw [eS_20]; rfl
  have n24 : (S_20 0 67).toInt = (S_14 0 67).toInt := by rw [eS_20]; rfl
  have n25 : (S_20 0 65).toInt = (S_14 0 65).toInt := by rw [eS_20]; rfl
  have n26 : (S_20 0 68).toInt = (0 : Int32).toInt := by rw [eS_20]; rfl
  refine D_lt (fun S_27 eS_27 => ?_)
  have hS_27 : iR BM S_27 := by rw [eS_27]; exact iR_set hS_20 (show (0 : Int) ≤ _ from (by clear n3 n4 n7 n8 n11 n12 n13 n16 n17 n18 n19 n22 n23 n24 n25 n26; omega)) (show _ ≤ (1 : Int) from (by clear n3 n4 n7 n8 n11 n12 n13 n16 n17 n18 n19 n22 n23 n24 n25 n26; omega))
  have kaT_t28 : aT S S_27 := (by rw [eS_27]; exact aT_set kaT_t21 rfl)
  have n29 : (S_27 0 66).toInt = (S_20 0 66).toInt := by rw [eS_27]; rfl
  have n30 : (S_27 0 65).toInt = (S_20 0 65).toInt := by rw [eS_27]; rfl
  have n31 : (S_27 0 67).toInt = (S_20 0 67).toInt := by rw [eS_27]; rfl
  have n32 : (S_27 0 68).toInt = (S_20 0 68).toInt := by rw [eS_27]; rfl
  have n33 : (S_27 0 64).toInt = (S_20 0 64).toInt := by rw [eS_27]; rfl
  have n34 : (S_27 0 69).toInt = (0 : Int32).toInt := by rw [eS_27]; rfl
  refine D_lt (fun S_35 eS_35 => ?_)
  have hS_35 : iR BM S_35 := by rw [eS_35]; exact iR_set hS_27 (show (0 : Int) ≤ _ from (by clear n3 n4 n7 n8 n11 n12 n13 n16 n17 n18 n19 n22 n23 n24 n25 n26 n29 n30 n31 n32 n33 n34; omega)) (show _ ≤ (1 : Int) from (by clear n3 n4 n7 n8 n11 n12 n13 n16 n17 n18 n19 n22 n23 n24 n25 n26 n29 n30 n31 n32 n33 n34; omega))
  have kaT_t36 : aT S S_35 := (by rw [eS_35]; exact aT_set kaT_t28 rfl)
  have n37 : (S_35 0 64).toInt = (S_27 0 64).toInt := by rw [eS_35]; rfl
  have n38 : (S_35 0 67).toInt = (S_27 0 67).toInt := by rw [eS_35]; rfl
  have n39 : (S_35 0 69).toInt = (S_27 0 69).toInt := by rw [eS_35]; rfl
  have n40 : (S_35 0 65).toInt = (S_27 0 65).toInt := by rw [eS_35]; rfl
  have n41 : (S_35 0 68).toInt = (S_27 0 68).toInt := by rw [eS_35]; rfl
  have n42 : (S_35 0 66).toInt = (S_27 0 66).toInt := by rw [eS_35]; rfl
  have n43 : (S_35 0 70).toInt = (0 : Int32).toInt := by rw [eS_35]; rfl
  exact tl_X8_plainTried_L42 S    2000 (0 : Int32) S_35 kaT_t36 hS_35 ⟨(by clear n3 n4 n7 n8 n11 n12 n13 n16 n17 n18 n19 n22 n23 n24 n25 n26 n29 n30 n31 n32 n33 n34 n37 n38 n39 n40 n41 n42 n43; omega), (by clear n3 n4 n7 n8 n11 n12 n13 n16 n17 n18 n19 n22 n23 n24 n25 n26 n29 n30 n31 n32 n33 n34 n37 n38 n39 n40 n41 n42 n43; omega)⟩ (by clear n3 n4 n7 n8 n11 n12 n13 n16 n17 n18 n19 n22 n23 n24 n25 n26 n29 n30 n31 n32 n33 n34 n37 n38 n39 n40 n41 n42 n43; omega)
set_option maxHeartbeats 1000000 in
set_option maxRecDepth 100000 in
theorem tl_X8_layTried_L102 (zaG : Tr) (hgz : gI 0 zaG) (hpz : pI zaG) (hSz : iR BM zaG)   (N : Nat) : ∀ (x1 : Int32) (S : Tr), aG 1 zaG S → iR BM S → 0 ≤ x1.toInt ∧ x1.toInt ≤ 1000 → (∀ j : Nat, j < 10 → S 53 (10 + j) = zaG 53 j) → (∀ j : Nat, j < 10 → S 54 (10 + j) = zaG 54 j) → (∀ j : Nat, j < 50 → S 55 (50 + j) = zaG 55 j) → (∀ j : Nat, j < 5 → S 56 (5 + j) = zaG 56 j) → (∀ j : Nat, (j : Int) < x1.toInt → S 57 (6 + j) = zaG 57 j) → (∀ j : Nat, (j : Int) < x1.toInt → S 58 (6 + j) = zaG 58 j) → (∀ j : Nat, (j : Int) < x1.toInt → S 59 (6 + j) = zaG 59 j) → (∀ j : Nat, (j : Int) < x1.toInt → S 60 (6 + j) = zaG 60 j) → 1000 - x1.toInt < (N : Int) → D (lpF (fun _ _ => none) (fB_X8_layTried_L102 ) N x1 S) (fun (q : Tr) => (iR BM q) ∧ (aG 1 zaG q) ∧ (gI 1 q) ∧ (pI q) ∧ (q 62 1 = zaG 62 0) ∧ (q 61 1 = zaG 61 0)) := by
  induction N with
  | zero =>
    intro x1 S daG hS hx1 hc53 hc54 hc55 hc56 hc57 hc58 hc59 hc60 hN
    exfalso
    omega
  | succ N102 ih =>
    intro x1 S daG hS hx1 hc53 hc54 hc55 hc56 hc57 hc58 hc59 hc60 hN
    have hk102 : ∀ (x1 : Int32) (S : Tr), aG 1 zaG S → iR BM S → 0 ≤ x1.toInt ∧ x1.toInt ≤ 1000 → (∀ j : Nat, j < 10 → S 53 (10 + j) = zaG 53 j) → (∀ j : Nat, j < 10 → S 54 (10 + j) = zaG 54 j) → (∀ j : Nat, j < 50 → S 55 (50 + j) = zaG 55 j) → (∀ j : Nat, j < 5 → S 56 (5 + j) = zaG 56 j) → (∀ j : Nat, (j : Int) < x1.toInt → S 57 (6 + j) = zaG 57 j) → (∀ j : Nat, (j : Int) < x1.toInt → S 58 (6 + j) = zaG 58 j) → (∀ j : Nat, (j : Int) < x1.toInt → S 59 (6 + j) = zaG 59 j) → (∀ j : Nat, (j : Int) < x1.toInt → S 60 (6 + j) = zaG 60 j) → 1000 - x1.toInt < (N102 : Int) → D (lpF (fun _ _ => none) (fB_X8_layTried_L102 ) N102 x1 S) (fun (q : Tr) => (iR BM q) ∧ (aG 1 zaG q) ∧ (gI 1 q) ∧ (pI q) ∧ (q 62 1 = zaG 62 0) ∧ (q 61 1 = zaG 61 0)) := ih
    show D (fB_X8_layTried_L102  (lpF (fun _ _ => none) (fB_X8_layTried_L102 ) N102) x1 S) _
    generalize lpF (fun _ _ => none) (fB_X8_layTried_L102 ) N102 = k102 at hk102 ⊢
    have hN102 : 1000 - x1.toInt < (N102 : Int) + 1 := by omega
    clear ih
    unfold fB_X8_layTried_L102
    refine D_ite (fun c4 => ?_) (fun c4 => ?_)
    · have kc4 := tq_le (x := (6 : Int32)) (y := x1) (a := 6) (by decide) rfl c4
      unfold fJ_X8_layTried_J174
      refine D_lt (fun S_5 eS_5 => ?_)
      have hS_5 : iR BM S_5 := by rw [eS_5]; exact iR_setU hS rfl
      have kaG_t6 : aG 1 zaG S_5 := (by rw [eS_5]; exact aG_set daG (Wb_61 (inB_of (by decide) (by decide))))
      have n8 : 0 ≤ (S_5 62 0).toInt ∧ (S_5 62 0).toInt ≤ 21 := hS_5 62 0
      refine D_lt (fun S_7 eS_7 => ?_)
      have hS_7 : iR BM S_7 := by rw [eS_7]; exact iR_set hS_5 (show (0 : Int) ≤ _ from (by clear hx1 hc57 hc58 hc59 hc60 hN102 hN kc4; omega)) (show _ ≤ (21 : Int) from (by clear hx1 hc57 hc58 hc59 hc60 hN102 hN kc4; omega))
      have kaG_t9 : aG 1 zaG S_7 := (by rw [eS_7]; exact aG_set kaG_t6 (Wb_62 (inB_of (by decide) (by decide))))
      have n10 : (S_7 62 0).toInt = (S_5 62 0).toInt := by rw [eS_7]; rfl
      refine D_lt (fun S_11 eS_11 => ?_)
      have hS_11 : iR BM S_11 := by rw [eS_11]; exact iR_setU hS_7 rfl
      have kaG_t12 : aG 1 zaG S_11 := (by rw [eS_11]; exact aG_set kaG_t9 (Wb_63 (inB_of (by decide) (by decide))))
      have n13 : (S_11 62 0).toInt = (S_7 62 0).toInt := by rw [eS_11]; rfl
      refine D_bd (t_X8_plainTried S_11 hS_11) (fun S_14 eq16 hq15 => ?_)
      obtain ⟨p17, p18⟩ : (iR BM S_14) ∧ (aT S_11 S_14) := hq15
      have k19 : aG 1 zaG S_14 := aG_tr kaG_t12 (aT_G p18)
      have n20 : (S_14 62 0).toInt = (S_11 62 0).toInt := congrArg Int32.toInt (p18 62 _ rfl)
      exact D_some (show (iR BM S_14) ∧ (aG 1 zaG S_14) ∧ (gI 1 S_14) ∧ (pI S_14) ∧ (S_14 62 1 = zaG 62 0) ∧ (S_14 61 1 = zaG 61 0) from ⟨p17, k19, (gI_lay hgz (fun j hj => (p18 53 _ rfl).trans (by rw [eS_11, eS_7, eS_5]; exact hc53 j hj)) (fun j hj => (p18 54 _ rfl).trans (by rw [eS_11, eS_7, eS_5]; exact hc54 j hj)) (fun j hj => (p18 55 _ rfl).trans (by rw [eS_11, eS_7, eS_5]; exact hc55 j hj)) (fun j hj => (p18 56 _ rfl).trans (by rw [eS_11, eS_7, eS_5]; exact hc56 j hj)) (fun j hj => (p18 58 _ rfl).trans (by rw [eS_11, eS_7, eS_5]; exact hc58 j (by omega))) (k19 0 13 rfl) (k19 0 14 rfl) hSz), (pI_aG hpz k19), ((p18 62 1 rfl).trans (by rw [eS_11, eS_7, eS_5]; exact daG 62 0 rfl)), ((p18 61 1 rfl).trans (by rw [eS_11, eS_7, eS_5]; exact daG 61 0 rfl))⟩)
    · have kc4 := tq_len (x := (6 : Int32)) (y := x1) (a := 6) (by decide) rfl c4
      refine D_ck (okI_of (by omega) (by omega)) ?_
      have n21 : ((6 : Int32) + x1).toInt = 6 + x1.toInt := i_addK (by decide) rfl (by omega) (by omega)
      refine D_ck (okI_of (by omega) (by omega)) ?_
      refine D_lt (fun S_22 eS_22 => ?_)
      have hS_22 : iR BM S_22 := by rw [eS_22]; exact iR_setU hS rfl
      have kaG_t23 : aG 1 zaG S_22 := (by rw [eS_22]; exact aG_set daG (Wb_57 (inB_of (by simp only [i_cl]; omega) (by simp only [i_cl]; omega))))
      refine D_lt (fun S_24 eS_24 => ?_)
      have hS_24 : iR BM S_24 := by rw [eS_24]; exact iR_setU hS_22 rfl
      have kaG_t25 : aG 1 zaG S_24 := (by rw [eS_24]; exact aG_set kaG_t23 (Wb_58 (inB_of (by simp only [i_cl]; omega) (by simp only [i_cl]; omega))))
      refine D_lt (fun S_26 eS_26 => ?_)
      have hS_26 : iR BM S_26 := by rw [eS_26]; exact iR_setU hS_24 rfl
      have kaG_t27 : aG 1 zaG S_26 := (by rw [eS_26]; exact aG_set kaG_t25 (Wb_59 (inB_of (by simp only [i_cl]; omega) (by simp only [i_cl]; omega))))
      refine D_lt (fun S_28 eS_28 => ?_)
      have hS_28 : iR BM S_28 := by rw [eS_28]; exact iR_setU hS_26 rfl
      have kaG_t29 : aG 1 zaG S_28 := (by rw [eS_28]; exact aG_set kaG_t27 (Wb_60 (inB_of (by simp only [i_cl]; omega) (by simp only [i_cl]; omega))))
      have n31 : (x1 + 1).toInt = x1.toInt + 1 := i_addK rfl (by decide) (by omega) (by omega)
      refine D_lt (fun y30 ey30 => ?_)
      have hy30 : y30.toInt = (x1 + 1 : Int32).toInt := by rw [ey30]
      exact hk102 y30 S_28 kaG_t29 hS_28 ⟨(by omega), (by omega)⟩ (by rw [eS_28, eS_26, eS_24, eS_22]; exact hc53) (by rw [eS_28, eS_26, eS_24, eS_22]; exact hc54) (by rw [eS_28, eS_26, eS_24, eS_22]; exact hc55) (by rw [eS_28, eS_26, eS_24, eS_22]; exact hc56) (cp_s (g := zaG 57) (x := x1) (v := S 57 x1.toNatClampNeg) (i := ((6 : Int32) + x1).toNatClampNeg) hc57 (by omega) (by simp only [i_cl]; omega) (daG 57 _ (Wb_lo (n := 6) (by decide) (by simp only [i_cl]; omega))) (by rw [eS_28, eS_26, eS_24, eS_22]; rfl) (by omega)) (cp_s (g := zaG 58) (x := x1) (v := S 58 x1.toNatClampNeg) (i := ((6 : Int32) + x1).toNatClampNeg) hc58 (by omega) (by simp only [i_cl]; omega) (daG 58 _ (Wb_lo (n := 6) (by decide) (by simp only [i_cl]; omega))) (by rw [eS_28, eS_26, eS_24, eS_22]; rfl) (by omega)) (cp_s (g := zaG 59) (x := x1) (v := S 59 x1.toNatClampNeg) (i := ((6 : Int32) + x1).toNatClampNeg) hc59 (by omega) (by simp only [i_cl]; omega) (daG 59 _ (Wb_lo (n := 6) (by decide) (by simp only [i_cl]; omega))) (by rw [eS_28, eS_26, eS_24, eS_22]; rfl) (by omega)) (cp_s (g := zaG 60) (x := x1) (v := S 60 x1.toNatClampNeg) (i := ((6 : Int32) + x1).toNatClampNeg) hc60 (by omega) (by simp only [i_cl]; omega) (daG 60 _ (Wb_lo (n := 6) (by decide) (by simp only [i_cl]; omega))) (by rw [eS_28, eS_26, eS_24, eS_22]; rfl) (by omega)) (by omega)
set_option maxHeartbeats 1000000 in
set_option maxRecDepth 100000 in
theorem tl_X8_layTried_L75 (zaG : Tr) (hgz : gI 0 zaG) (hpz : pI zaG) (hSz : iR BM zaG)   (N : Nat) : ∀ (x1 : Int32) (S : Tr), aG 1 zaG S → iR BM S → 0 ≤ x1.toInt ∧ x1.toInt ≤ 1000 → (∀ j : Nat, j < 10 → S 53 (10 + j) = zaG 53 j) → (∀ j : Nat, j < 10 → S 54 (10 + j) = zaG 54 j) → (∀ j : Nat, j < 50 → S 55 (50 + j) = zaG 55 j) → (∀ j : Nat, (j : Int) < x1.toInt → S 56 (5 + j) = zaG 56 j) → 1000 - x1.toInt < (N : Int) → D (lpF (fun _ _ => none) (fB_X8_layTried_L75 ) N x1 S) (fun (q : Tr) => (iR BM q) ∧ (aG 1 zaG q) ∧ (gI 1 q) ∧ (pI q) ∧ (q 62 1 = zaG 62 0) ∧ (q 61 1 = zaG 61 0)) := by
  induction N with
  | zero =>
    intro x1 S daG hS hx1 hc53 hc54 hc55 hc56 hN
    exfalso
    omega
  | succ N75 ih =>
    intro x1 S daG hS hx1 hc53 hc54 hc55 hc56 hN
    have hk75 : ∀ (x1 : Int32) (S : Tr), aG 1 zaG S → iR BM S → 0 ≤ x1.toInt ∧ x1.toInt ≤ 1000 → (∀ j : Nat, j < 10 → S 53 (10 + j) = zaG 53 j) → (∀ j : Nat, j < 10 → S 54 (10 + j) = zaG 54 j) → (∀ j : Nat, j < 50 → S 55 (50 + j) = zaG 55 j) → (∀ j : Nat, (j : Int) < x1.toInt → S 56 (5 + j) = zaG 56 j) → 1000 - x1.toInt < (N75 : Int) → D (lpF (fun _ _ => none) (fB_X8_layTried_L75 ) N75 x1 S) (fun (q : Tr) => (iR BM q) ∧ (aG 1 zaG q) ∧ (gI 1 q) ∧ (pI q) ∧ (q 62 1 = zaG 62 0) ∧ (q 61 1 = zaG 61 0)) := ih
    show D (fB_X8_layTried_L75  (lpF (fun _ _ => none) (fB_X8_layTried_L75 ) N75) x1 S) _
    generalize lpF (fun _ _ => none) (fB_X8_layTried_L75 ) N75 = k75 at hk75 ⊢
    have hN75 : 1000 - x1.toInt < (N75 : Int) + 1 := by omega
    clear ih
    unfold fB_X8_layTried_L75
    refine D_ite (fun c3 => ?_) (fun c3 => ?_)
    · have kc3 := tq_le (x := (5 : Int32)) (y := x1) (a := 5) (by decide) rfl c3
      have l0 : (0 : Int32).toInt = 0 := by decide
      exact tl_X8_layTried_L102 zaG hgz hpz hSz   2000 (0 : Int32) S daG hS ⟨(by clear hx1 hc56 hN75 hN kc3; omega), (by clear hx1 hc56 hN75 hN kc3; omega)⟩ hc53 hc54 hc55 (fun j hj => hc56 j (by omega)) (fun j hj => absurd hj (by show ¬ (j : Int) < 0; omega)) (fun j hj => absurd hj (by show ¬ (j : Int) < 0; omega)) (fun j hj => absurd hj (by show ¬ (j : Int) < 0; omega)) (fun j hj => absurd hj (by show ¬ (j : Int) < 0; omega)) (by clear hx1 hc56 hN75 hN kc3; omega)
    · have kc3 := tq_len (x := (5 : Int32)) (y := x1) (a := 5) (by decide) rfl c3
      refine D_ck (okI_of (by omega) (by omega)) ?_
      have n32 : ((5 : Int32) + x1).toInt = 5 + x1.toInt := i_addK (by decide) rfl (by omega) (by omega)
      refine D_ck (okI_of (by omega) (by omega)) ?_
      have n34 : 0 ≤ (S 56 x1.toNatClampNeg).toInt ∧ (S 56 x1.toNatClampNeg).toInt ≤ 10 := hS 56 x1.toNatClampNeg
      refine D_lt (fun S_33 eS_33 => ?_)
      have hS_33 : iR BM S_33 := by rw [eS_33]; exact iR_set hS (show (0 : Int) ≤ _ from (by clear hx1 hc56 hN75 hN kc3 n32; omega)) (show _ ≤ (10 : Int) from (by clear hx1 hc56 hN75 hN kc3 n32; omega))
      have kaG_t35 : aG 1 zaG S_33 := (by rw [eS_33]; exact aG_set daG (Wb_56 (inB_of (by clear hN75 hN n34; simp only [i_cl]; omega) (by clear hN75 hN n34; simp only [i_cl]; omega))))
      have n37 : (x1 + 1).toInt = x1.toInt + 1 := i_addK rfl (by decide) (by clear hN75 hN n34; omega) (by clear hN75 hN n34; omega)
      refine D_lt (fun y36 ey36 => ?_)
      have hy36 : y36.toInt = (x1 + 1 : Int32).toInt := by rw [ey36]
      exact hk75 y36 S_33 kaG_t35 hS_33 ⟨(by clear hN75 hN n34; omega), (by clear hN75 hN n34; omega)⟩ (by rw [eS_33]; exact hc53) (by rw [eS_33]; exact hc54) (by rw [eS_33]; exact hc55) (cp_s (g := zaG 56) (x := x1) (v := S 56 x1.toNatClampNeg) (i := ((5 : Int32) + x1).toNatClampNeg) hc56 (by clear hN75 hN n34; omega) (by clear hN75 hN n34; simp only [i_cl]; omega) (daG 56 _ (Wb_lo (n := 5) (by decide) (by clear hN75 hN n34; simp only [i_cl]; omega))) (by rw [eS_33]; rfl) (by clear hN75 hN n34; omega)) (by omega)
set_option maxHeartbeats 1000000 in
set_option maxRecDepth 100000 in
theorem tl_X8_layTried_L46 (zaG : Tr) (hgz : gI 0 zaG) (hpz : pI zaG) (hSz : iR BM zaG)   (N : Nat) : ∀ (x1 : Int32) (S : Tr), aG 1 zaG S → iR BM S → 0 ≤ x1.toInt ∧ x1.toInt ≤ 1000 → (∀ j : Nat, j < 10 → S 53 (10 + j) = zaG 53 j) → (∀ j : Nat, j < 10 → S 54 (10 + j) = zaG 54 j) → (∀ j : Nat, (j : Int) < x1.toInt → S 55 (50 + j) = zaG 55 j) → 1000 - x1.toInt < (N : Int) → D (lpF (fun _ _ => none) (fB_X8_layTried_L46 ) N x1 S) (fun (q : Tr) => (iR BM q) ∧ (aG 1 zaG q) ∧ (gI 1 q) ∧ (pI q) ∧ (q 62 1 = zaG 62 0) ∧ (q 61 1 = zaG 61 0)) := by
  induction N with
  | zero =>
    intro x1 S daG hS hx1 hc53 hc54 hc55 hN
    exfalso
    omega
  | succ N46 ih =>
    intro x1 S daG hS hx1 hc53 hc54 hc55 hN
    have hk46 : ∀ (x1 : Int32) (S : Tr), aG 1 zaG S → iR BM S → 0 ≤ x1.toInt ∧ x1.toInt ≤ 1000 → (∀ j : Nat, j < 10 → S 53 (10 + j) = zaG 53 j) → (∀ j : Nat, j < 10 → S 54 (10 + j) = zaG 54 j) → (∀ j : Nat, (j : Int) < x1.toInt → S 55 (50 + j) = zaG 55 j) → 1000 - x1.toInt < (N46 : Int) → D (lpF (fun _ _ => none) (fB_X8_layTried_L46 ) N46 x1 S) (fun (q : Tr) => (iR BM q) ∧ (aG 1 zaG q) ∧ (gI 1 q) ∧ (pI q) ∧ (q 62 1 = zaG 62 0) ∧ (q 61 1 = zaG 61 0)) := ih
    show D (fB_X8_layTried_L46  (lpF (fun _ _ => none) (fB_X8_layTried_L46 ) N46) x1 S) _
    generalize lpF (fun _ _ => none) (fB_X8_layTried_L46 ) N46 = k46 at hk46 ⊢
    have hN46 : 1000 - x1.toInt < (N46 : Int) + 1 := by omega
    clear ih
    unfold fB_X8_layTried_L46
    refine D_ite (fun c2 => ?_) (fun c2 => ?_)
    · have kc2 := tq_le (x := (50 : Int32)) (y := x1) (a := 50) (by decide) rfl c2
      have l0 : (0 : Int32).toInt = 0 := by decide
      exact tl_X8_layTried_L75 zaG hgz hpz hSz   2000 (0 : Int32) S daG hS ⟨(by clear hx1 hc55 hN46 hN kc2; omega), (by clear hx1 hc55 hN46 hN kc2; omega)⟩ hc53 hc54 (fun j hj => hc55 j (by omega)) (fun j hj => absurd hj (by show ¬ (j : Int) < 0; omega)) (by clear hx1 hc55 hN46 hN kc2; omega)
    · have kc2 := tq_len (x := (50 : Int32)) (y := x1) (a := 50) (by decide) rfl c2
      refine D_ck (okI_of (by omega) (by omega)) ?_
      have n38 : ((50 : Int32) + x1).toInt = 50 + x1.toInt := i_addK (by decide) rfl (by omega) (by omega)
      refine D_ck (okI_of (by omega) (by omega)) ?_
      have n40 : 0 ≤ (S 55 x1.toNatClampNeg).toInt ∧ (S 55 x1.toNatClampNeg).toInt ≤ 9 := hS 55 x1.toNatClampNeg
      refine D_lt (fun S_39 eS_39 => ?_)
      have hS_39 : iR BM S_39 := by rw [eS_39]; exact iR_set hS (show (0 : Int) ≤ _ from (by clear hx1 hc55 hN46 hN kc2 n38; omega)) (show _ ≤ (9 : Int) from (by clear hx1 hc55 hN46 hN kc2 n38; omega))
      have kaG_t41 : aG 1 zaG S_39 := (by rw [eS_39]; exact aG_set daG (Wb_55 (inB_of (by clear hN46 hN n40; simp only [i_cl]; omega) (by clear hN46 hN n40; simp only [i_cl]; omega))))
      have n43 : (x1 + 1).toInt = x1.toInt + 1 := i_addK rfl (by decide) (by clear hN46 hN n40; omega) (by clear hN46 hN n40; omega)
      refine D_lt (fun y42 ey42 => ?_)
      have hy42 : y42.toInt = (x1 + 1 : Int32).toInt := by rw [ey42]
      exact hk46 y42 S_39 kaG_t41 hS_39 ⟨(by clear hN46 hN n40; omega), (by clear hN46 hN n40; omega)⟩ (by rw [eS_39]; exact hc53) (by rw [eS_39]; exact hc54) (cp_s (g := zaG 55) (x := x1) (v := S 55 x1.toNatClampNeg) (i := ((50 : Int32) + x1).toNatClampNeg) hc55 (by clear hN46 hN n40; omega) (by clear hN46 hN n40; simp only [i_cl]; omega) (daG 55 _ (Wb_lo (n := 50) (by decide) (by clear hN46 hN n40; simp only [i_cl]; omega))) (by rw [eS_39]; rfl) (by clear hN46 hN n40; omega)) (by omega)
set_option maxHeartbeats 1000000 in
set_option maxRecDepth 100000 in
theorem tl_X8_layTried_L2 (zaG : Tr) (hgz : gI 0 zaG) (hpz : pI zaG) (hSz : iR BM zaG)   (N : Nat) : ∀ (x1 : Int32) (S : Tr), aG 1 zaG S → iR BM S → 0 ≤ x1.toInt ∧ x1.toInt ≤ 1000 → (∀ j : Nat, (j : Int) < x1.toInt → S 53 (10 + j) = zaG 53 j) → (∀ j : Nat, (j : Int) < x1.toInt → S 54 (10 + j) = zaG 54 j) → 1000 - x1.toInt < (N : Int) → D (lpF (fun _ _ => none) (fB_X8_layTried_L2 ) N x1 S) (fun (q : Tr) => (iR BM q) ∧ (aG 1 zaG q) ∧ (gI 1 q) ∧ (pI q) ∧ (q 62 1 = zaG 62 0) ∧ (q 61 1 = zaG 61 0)) := by
  induction N with
  | zero =>
    intro x1 S daG hS hx1 hc53 hc54 hN
    exfalso
    omega
  | succ N2 ih =>
    intro x1 S daG hS hx1 hc53 hc54 hN
    have hk2 : ∀ (x1 : Int32) (S : Tr), aG 1 zaG S → iR BM S → 0 ≤ x1.toInt ∧ x1.toInt ≤ 1000 → (∀ j : Nat, (j : Int) < x1.toInt → S 53 (10 + j) = zaG 53 j) → (∀ j : Nat, (j : Int) < x1.toInt → S 54 (10 + j) = zaG 54 j) → 1000 - x1.toInt < (N2 : Int) → D (lpF (fun _ _ => none) (fB_X8_layTried_L2 ) N2 x1 S) (fun (q : Tr) => (iR BM q) ∧ (aG 1 zaG q) ∧ (gI 1 q) ∧ (pI q) ∧ (q 62 1 = zaG 62 0) ∧ (q 61 1 = zaG 61 0)) := ih
    show D (fB_X8_layTried_L2  (lpF (fun _ _ => none) (fB_X8_layTried_L2 ) N2) x1 S) _
    generalize lpF (fun _ _ => none) (fB_X8_layTried_L2 ) N2 = k2 at hk2 ⊢
    have hN2 : 1000 - x1.toInt < (N2 : Int) + 1 := by omega
    clear ih
    unfold fB_X8_layTried_L2
    refine D_ite (fun c1 => ?_) (fun c1 => ?_)
    · have kc1 := tq_le (x := (10 : Int32)) (y := x1) (a := 10) (by decide) rfl c1
      have l0 : (0 : Int32).toInt = 0 := by decide
      exact tl_X8_layTried_L46 zaG hgz hpz hSz   2000 (0 : Int32) S daG hS ⟨(by clear hx1 hc53 hc54 hN2 hN kc1; omega), (by clear hx1 hc53 hc54 hN2 hN kc1; omega)⟩ (fun j hj => hc53 j (by omega)) (fun j hj => hc54 j (by omega)) (fun j hj => absurd hj (by show ¬ (j : Int) < 0; omega)) (by clear hx1 hc53 hc54 hN2 hN kc1; omega)
    · have kc1 := tq_len (x := (10 : Int32)) (y := x1) (a := 10) (by decide) rfl c1
      refine D_ck (okI_of (by omega) (by omega)) ?_
      have n44 : ((10 : Int32) + x1).toInt = 10 + x1.toInt := i_addK (by decide) rfl (by omega) (by omega)
      refine D_ck (okI_of (by omega) (by omega)) ?_
      have n46 : 0 ≤ (S 53 x1.toNatClampNeg).toInt ∧ (S 53 x1.toNatClampNeg).toInt ≤ 5 := hS 53 x1.toNatClampNeg
      refine D_lt (fun S_45 eS_45 => ?_)
      have hS_45 : iR BM S_45 := by rw [eS_45]; exact iR_set hS (show (0 : Int) ≤ _ from (by clear hx1 hc53 hc54 hN2 hN kc1 n44; omega)) (show _ ≤ (5 : Int) from (by clear hx1 hc53 hc54 hN2 hN kc1 n44; omega))
      have kaG_t47 : aG 1 zaG S_45 := (by rw [eS_45]; exact aG_set daG (Wb_53 (inB_of (by clear hN2 hN n46; simp only [i_cl]; omega) (by clear hN2 hN n46; simp only [i_cl]; omega))))
      have n49 : (-1) ≤ (S_45 54 x1.toNatClampNeg).toInt ∧ (S_45 54 x1.toNatClampNeg).toInt ≤ 4 := hS_45 54 x1.toNatClampNeg
      refine D_lt (fun S_48 eS_48 => ?_)
      have hS_48 : iR BM S_48 := by rw [eS_48]; exact iR_set hS_45 (show ((-1) : Int) ≤ _ from (by clear hx1 hc53 hc54 hN2 hN kc1 n44 n46; omega)) (show _ ≤ (4 : Int) from (by clear hx1 hc53 hc54 hN2 hN kc1 n44 n46; omega))
      have kaG_t50 : aG 1 zaG S_48 := (by rw [eS_48]; exact aG_set kaG_t47 (Wb_54 (inB_of (by clear hN2 hN n46 n49; simp only [i_cl]; omega) (by clear hN2 hN n46 n49; simp only [i_cl]; omega))))
      have n52 : (x1 + 1).toInt = x1.toInt + 1 := i_addK rfl (by decide) (by clear hN2 hN n46 n49; omega) (by clear hN2 hN n46 n49; omega)
      refine D_lt (fun y51 ey51 => ?_)
      have hy51 : y51.toInt = (x1 + 1 : Int32).toInt := by rw [ey51]
      exact hk2 y51 S_48 kaG_t50 hS_48 ⟨(by clear hN2 hN n46 n49; omega), (by clear hN2 hN n46 n49; omega)⟩ (cp_s (g := zaG 53) (x := x1) (v := S 53 x1.toNatClampNeg) (i := ((10 : Int32) + x1).toNatClampNeg) hc53 (by clear hN2 hN n46 n49; omega) (by clear hN2 hN n46 n49; simp only [i_cl]; omega) (daG 53 _ (Wb_lo (n := 10) (by decide) (by clear hN2 hN n46 n49; simp only [i_cl]; omega))) (by rw [eS_48, eS_45]; rfl) (by clear hN2 hN n46 n49; omega)) (cp_s (g := zaG 54) (x := x1) (v := S 54 x1.toNatClampNeg) (i := ((10 : Int32) + x1).toNatClampNeg) hc54 (by clear hN2 hN n46 n49; omega) (by clear hN2 hN n46 n49; simp only [i_cl]; omega) (daG 54 _ (Wb_lo (n := 10) (by decide) (by clear hN2 hN n46 n49; simp only [i_cl]; omega))) (by rw [eS_48, eS_45]; rfl) (by clear hN2 hN n46 n49; omega)) (by omega)
set_option maxHeartbeats 1000000 in
set_option maxRecDepth 100000 in
theorem t_X8_layTried (S : Tr) (hS : iR BM S) (hgz : gI 0 S) (hpz : pI S) : D (f_X8_layTried S) (fun (q : Tr) => (iR BM q) ∧ (aG 1 S q) ∧ (gI 1 q) ∧ (pI q) ∧ (q 62 1 = S 62 0) ∧ (q 61 1 = S 61 0)) := by
  unfold f_X8_layTried
  have l0 : (0 : Int32).toInt = 0 := by decide
  exact tl_X8_layTried_L2 S hgz hpz hS   2000 (0 : Int32) S aG_rfl hS ⟨(by omega), (by omega)⟩ (fun j hj => absurd hj (by show ¬ (j : Int) < 0; omega)) (fun j hj => absurd hj (by show ¬ (j : Int) < 0; omega)) (by omega)
set_option maxHeartbeats 1000000 in
set_option maxRecDepth 100000 in
theorem t_X8_getsOut (S : Tr) (x1 : Int32) (x2 : Int32) (hS : iR BM S) (hx1 : 0 ≤ x1.toInt ∧ x1.toInt ≤ 1) (hx2 : 0 ≤ x2.toInt ∧ x2.toInt ≤ 5) : D (f_X8_getsOut S x1 x2) (fun (q : Int32) => (0 ≤ q.toInt ∧ q.toInt ≤ 1)) := by
  unfold f_X8_getsOut
  have n1 := i_mulL (a := (6 : Int32)) (b := x1) 6 (by decide) (by omega) (by omega)
  have n2 : (((6 : Int32) * x1) + x2).toInt = ((6 : Int32) * x1).toInt + x2.toInt := i_addK rfl rfl (by omega) (by omega)
  refine D_ck (okI_of (by omega) (by omega)) ?_
  have n4 := i_rng (S 59 (((6 : Int32) * x1) + x2).toNatClampNeg)
  refine D_ite (fun c3 => ?_) (fun c3 => ?_)
  · have kc3 := tq_eq (x := (S 59 (((6 : Int32) * x1) + x2).toNatClampNeg)) (y := (1 : Int32)) rfl (b := 1) (by decide) c3
    refine D_ck (okI_of (by omega) (by omega)) ?_
    refine D_ck (okI_of (by omega) (by omega)) ?_
    have n6 : 0 ≤ (S 28 x2.toNatClampNeg).toInt ∧ (S 28 x2.toNatClampNeg).toInt ≤ 20 := hS 28 x2.toNatClampNeg
    have n7 : 0 ≤ (S 62 x1.toNatClampNeg).toInt ∧ (S 62 x1.toNatClampNeg).toInt ≤ 21 := hS 62 x1.toNatClampNeg
    refine D_ite (fun c5 => ?_) (fun c5 => ?_)
    · have kc5 := tq_le (x := (S 28 x2.toNatClampNeg)) (y := (S 62 x1.toNatClampNeg)) rfl rfl c5
      have l1 : (1 : Int32).toInt = 1 := by decide
      exact D_some (show (0 ≤ (1 : Int32).toInt ∧ (1 : Int32).toInt ≤ 1) from ⟨(by clear hx1 hx2 n1 n2 n4 kc3 n6 n7 kc5; omega), (by clear hx1 hx2 n1 n2 n4 kc3 n6 n7 kc5; omega)⟩)
    · have kc5 := tq_len (x := (S 28 x2.toNatClampNeg)) (y := (S 62 x1.toNatClampNeg)) rfl rfl c5
      refine D_ite (fun c8 => ?_) (fun c8 => ?_)
      · have kc8 := tq_eq (x := (S 62 x1.toNatClampNeg)) (y := (20 : Int32)) rfl (b := 20) (by decide) c8
        exfalso
        exact (by clear hx1 hx2 n1 n2 n4 kc3; omega)
      · skip
        have l0 : (0 : Int32).toInt = 0 := by decide
        exact D_some (show (0 ≤ (0 : Int32).toInt ∧ (0 : Int32).toInt ≤ 1) from ⟨(by clear hx1 hx2 n1 n2 n4 kc3 n6 n7 kc5; omega), (by clear hx1 hx2 n1 n2 n4 kc3 n6 n7 kc5; omega)⟩)
  · skip
    have l0 : (0 : Int32).toInt = 0 := by decide
    exact D_some (show (0 ≤ (0 : Int32).toInt ∧ (0 : Int32).toInt ≤ 1) from ⟨(by clear hx1 hx2 n1 n2 n4; omega), (by clear hx1 hx2 n1 n2 n4; omega)⟩)
set_option maxHeartbeats 1000000 in
set_option maxRecDepth 100000 in
theorem tl_X8_weightIn_L5 (S : Tr) (x1 : Int32) (x2 : Int32) (hS : iR BM S) (hx1 : 0 ≤ x1.toInt ∧ x1.toInt ≤ 1) (hx2 : 0 ≤ x2.toInt ∧ x2.toInt ≤ 4)   (N : Nat) : ∀ (x3 : Int32) (x4 : Int32), 0 ≤ x4.toInt ∧ x4.toInt ≤ 1000 → 1000 - x4.toInt < (N : Int) → D (lpF (fun _ _ => none) (fB_X8_weightIn_L5 S x1 x2) N x3 x4) (fun (q : Int32) => True) := by
  induction N with
  | zero =>
    intro x3 x4 hx4 hN
    exfalso
    omega
  | succ N5 ih =>
    intro x3 x4 hx4 hN
    have hk5 : ∀ (x3 : Int32) (x4 : Int32), 0 ≤ x4.toInt ∧ x4.toInt ≤ 1000 → 1000 - x4.toInt < (N5 : Int) → D (lpF (fun _ _ => none) (fB_X8_weightIn_L5 S x1 x2) N5 x3 x4) (fun (q : Int32) => True) := ih
    show D (fB_X8_weightIn_L5 S x1 x2 (lpF (fun _ _ => none) (fB_X8_weightIn_L5 S x1 x2) N5) x3 x4) _
    generalize lpF (fun _ _ => none) (fB_X8_weightIn_L5 S x1 x2) N5 = k5 at hk5 ⊢
    have hN5 : 1000 - x4.toInt < (N5 : Int) + 1 := by omega
    clear ih
    unfold fB_X8_weightIn_L5
    have n1 := i_mulL (a := (5 : Int32)) (b := x1) 5 (by decide) (by clear hx2 hx4 hN5 hN; omega) (by clear hx2 hx4 hN5 hN; omega)
    have n2 : (((5 : Int32) * x1) + x2).toInt = ((5 : Int32) * x1).toInt + x2.toInt := i_addK rfl rfl (by clear hx4 hN5 hN; omega) (by clear hx4 hN5 hN; omega)
    refine D_ck (okI_of (by clear hx4 hN5 hN; omega) (by clear hx4 hN5 hN; omega)) ?_
    have n4 : 0 ≤ (S 56 (((5 : Int32) * x1) + x2).toNatClampNeg).toInt ∧ (S 56 (((5 : Int32) * x1) + x2).toNatClampNeg).toInt ≤ 10 := hS 56 ((((5 : Int32) * x1) + x2).toNatClampNeg)
    refine D_ite (fun c3 => ?_) (fun c3 => ?_)
    · have kc3 := tq_le (x := (S 56 (((5 : Int32) * x1) + x2).toNatClampNeg)) (y := x4) rfl rfl c3
      have n5 := i_rng x3
      exact D_some trivial
    · have kc3 := tq_len (x := (S 56 (((5 : Int32) * x1) + x2).toNatClampNeg)) (y := x4) rfl rfl c3
      refine D_bd (t_X8_stackAt2 S x1 x2 x4 hS ⟨(by clear hx4 hN5 hN n4 kc3; omega), (by clear hx4 hN5 hN n4 kc3; omega)⟩ ⟨(by clear hx4 hN5 hN n4 kc3; omega), (by clear hx4 hN5 hN n4 kc3; omega)⟩ ⟨(by clear hx1 hx2 hN5 hN n1 n2; omega), (by clear hx1 hx2 hN5 hN n1 n2; omega)⟩) (fun r6 eq8 hq7 => ?_)
      obtain ⟨p9, p10⟩ : (0 ≤ r6.toInt ∧ r6.toInt ≤ 9) ∧ (r6 = S 55 (50 * x1.toNatClampNeg + 10 * x2.toNatClampNeg + x4.toNatClampNeg)) := hq7
      refine D_ck (okI_of (by clear hx1 hx2 hx4 hN5 hN n1 n2 n4 kc3; omega) (by clear hx1 hx2 hx4 hN5 hN n1 n2 n4 kc3; omega)) ?_
      refine D_lt (fun y11 ey11 => ?_)
      have n12 := i_rng (x3 + (S 31 r6.toNatClampNeg))
      have hy11 : y11.toInt = (x3 + (S 31 r6.toNatClampNeg)).toInt := by rw [ey11]
      have n14 : (x4 + 1).toInt = x4.toInt + 1 := i_addK rfl (by decide) (by clear hx1 hx2 hN5 hN n1 n2 p9 n12 hy11; omega) (by clear hx1 hx2 hN5 hN n1 n2 p9 n12 hy11; omega)
      refine D_lt (fun y13 ey13 => ?_)
      have hy13 : y13.toInt = (x4 + 1 : Int32).toInt := by rw [ey13]
      exact hk5 y11 y13 ⟨(by clear hx1 hx2 hN5 hN n1 n2 p9 n12 hy11; omega), (by clear hx1 hx2 hN5 hN n1 n2 p9 n12 hy11; omega)⟩ (by clear hx1 hx2 n1 n2 p9 n12 hy11; omega)
set_option maxHeartbeats 1000000 in
set_option maxRecDepth 100000 in
theorem t_X8_weightIn (S : Tr) (x1 : Int32) (x2 : Int32) (hS : iR BM S) (hx1 : 0 ≤ x1.toInt ∧ x1.toInt ≤ 1) (hx2 : 0 ≤ x2.toInt ∧ x2.toInt ≤ 4) : D (f_X8_weightIn S x1 x2) (fun (q : Int32) => True) := by
  unfold f_X8_weightIn
  have l0 : (0 : Int32).toInt = 0 := by decide
  exact tl_X8_weightIn_L5 S x1 x2 hS ⟨(by omega), (by omega)⟩ ⟨(by omega), (by omega)⟩   2000 (0 : Int32) (0 : Int32) ⟨(by omega), (by omega)⟩ (by omega)
set_option maxHeartbeats 1000000 in
set_option maxRecDepth 100000 in
theorem t_X8_layNames (S : Tr) (L : Lo) (x1 : Int32) (x2 : Int32) (x3 : Int32) (hS : iR BM S) (hx1 : 0 ≤ x1.toInt ∧ x1.toInt ≤ 1) (hx2 : 0 ≤ x2.toInt ∧ x2.toInt ≤ 9) (hx3 : 0 ≤ x3.toInt ∧ x3.toInt ≤ 5) (hg : gS x1.toNatClampNeg S) (hly : 0 ≤ (S 54 (((10 : Int32) * x1) + x2).toNatClampNeg).toInt) : D (f_X8_layNames S L x1 x2 x3) (fun (q : Lo) => True) := by
  unfold f_X8_layNames
  have n1 := i_mulL (a := (10 : Int32)) (b := x1) 10 (by decide) (by clear hx2 hx3 hly; omega) (by clear hx2 hx3 hly; omega)
  have n2 : (((10 : Int32) * x1) + x2).toInt = ((10 : Int32) * x1).toInt + x2.toInt := i_addK rfl rfl (by omega) (by omega)
  refine D_ck (okI_of (by omega) (by omega)) ?_
  refine D_lt (fun y3 ey3 => ?_)
  have n4 : (-1) ≤ (S 54 (((10 : Int32) * x1) + x2).toNatClampNeg).toInt ∧ (S 54 (((10 : Int32) * x1) + x2).toNatClampNeg).toInt ≤ 4 := hS 54 ((((10 : Int32) * x1) + x2).toNatClampNeg)
  have hy3 : y3.toInt = (S 54 (((10 : Int32) * x1) + x2).toNatClampNeg).toInt := by rw [ey3]
  refine D_ck (okI_of (by clear hx3 hly n4 hy3; omega) (by clear hx3 hly n4 hy3; omega)) ?_
  refine D_lt (fun L_5 eL_5 => ?_)
  refine D_lt (fun L_6 eL_6 => ?_)
  refine D_bd (t_X8_aboveOf S x1 x2 hS ⟨(by clear hx3 hly n4 hy3; omega), (by clear hx3 hly n4 hy3; omega)⟩ ⟨(by clear hx3 hly n4 hy3; omega), (by clear hx3 hly n4 hy3; omega)⟩ (by first | assumption | exact (by clear hx1 hx2 hx3 hly n1 n2 n4 hy3; omega))) (fun r7 eq9 hq8 => ?_)
  have n10 := i_rng r7
  refine D_lt (fun L_11 eL_11 => ?_)
  refine D_ck (okI_of (by clear hx1 hx2 hx3 n1 n2 n10; omega) (by clear hx1 hx2 hx3 n1 n2 n10; omega)) ?_
  refine D_lt (fun L_12 eL_12 => ?_)
  refine D_bd (t_X8_ableOf S x1 x3 hS ⟨(by clear hx3 hly n4 hy3 n10; omega), (by clear hx3 hly n4 hy3 n10; omega)⟩ ⟨(by clear hx1 hx2 hly n1 n2 n4 hy3 n10; omega), (by clear hx1 hx2 hly n1 n2 n4 hy3 n10; omega)⟩) (fun r13 eq15 hq14 => ?_)
  have p16 : 1 ≤ (S 58 (((6 : Int32) * x1) + x3).toNatClampNeg).toInt → 1 ≤ r13.toInt := hq14
  have n17 := i_rng r13
  refine D_lt (fun L_18 eL_18 => ?_)
  refine D_ck (okI_of (by clear hx3 hly n4 hy3 n10 p16 n17; omega) (by clear hx3 hly n4 hy3 n10 p16 n17; omega)) ?_
  refine D_lt (fun L_19 eL_19 => ?_)
  refine D_bd (t_X8_weightIn S x1 y3 hS ⟨(by clear hx3 hly n4 hy3 n10 p16 n17; omega), (by clear hx3 hly n4 hy3 n10 p16 n17; omega)⟩ ⟨(by clear hx1 hx2 hx3 n1 n2 n10 p16 n17; omega), (by clear hx1 hx2 hx3 n1 n2 n10 p16 n17; omega)⟩) (fun r20 eq22 hq21 => ?_)
  have n23 := i_rng r20
  refine D_lt (fun L_24 eL_24 => ?_)
  exact D_some trivial
set_option maxHeartbeats 1000000 in
set_option maxRecDepth 100000 in
theorem t_X8_compares (x0 : Int32) (x1 : Int64) (x3 : Int64)  : D (f_X8_compares x0 x1 x3) (fun (q : Int32) => (0 ≤ q.toInt ∧ q.toInt ≤ 1)) := by
  unfold f_X8_compares
  have n1 := i_rng x0
  refine D_ite (fun c2 => ?_) (fun c2 => ?_)
  · have kc2 := tq_eq (x := x0) (y := (5 : Int32)) rfl (b := 5) (by decide) c2
    refine D_ite (fun c3 => ?_) (fun c3 => ?_)
    · skip
      have l0 : (0 : Int32).toInt = 0 := by decide
      exact D_some (show (0 ≤ (0 : Int32).toInt ∧ (0 : Int32).toInt ≤ 1) from ⟨(by omega), (by omega)⟩)
    · skip
      have l1 : (1 : Int32).toInt = 1 := by decide
      exact D_some (show (0 ≤ (1 : Int32).toInt ∧ (1 : Int32).toInt ≤ 1) from ⟨(by omega), (by omega)⟩)
  · skip
    refine D_ite (fun c4 => ?_) (fun c4 => ?_)
    · have kc4 := tq_eq (x := x0) (y := (6 : Int32)) rfl (b := 6) (by decide) c4
      refine D_ite (fun c5 => ?_) (fun c5 => ?_)
      · skip
        have l0 : (0 : Int32).toInt = 0 := by decide
        exact D_some (show (0 ≤ (0 : Int32).toInt ∧ (0 : Int32).toInt ≤ 1) from ⟨(by omega), (by omega)⟩)
      · skip
        have l1 : (1 : Int32).toInt = 1 := by decide
        exact D_some (show (0 ≤ (1 : Int32).toInt ∧ (1 : Int32).toInt ≤ 1) from ⟨(by omega), (by omega)⟩)
    · skip
      refine D_ite (fun c6 => ?_) (fun c6 => ?_)
      · have kc6 := tq_eq (x := x0) (y := (7 : Int32)) rfl (b := 7) (by decide) c6
        refine D_ite (fun c7 => ?_) (fun c7 => ?_)
        · skip
          have l1 : (1 : Int32).toInt = 1 := by decide
          exact D_some (show (0 ≤ (1 : Int32).toInt ∧ (1 : Int32).toInt ≤ 1) from ⟨(by omega), (by omega)⟩)
        · skip
          have l0 : (0 : Int32).toInt = 0 := by decide
          exact D_some (show (0 ≤ (0 : Int32).toInt ∧ (0 : Int32).toInt ≤ 1) from ⟨(by omega), (by omega)⟩)
      · skip
        refine D_ite (fun c8 => ?_) (fun c8 => ?_)
        · have kc8 := tq_eq (x := x0) (y := (8 : Int32)) rfl (b := 8) (by decide) c8
          refine D_ite (fun c9 => ?_) (fun c9 => ?_)
          · skip
            have l0 : (0 : Int32).toInt = 0 := by decide
            exact D_some (show (0 ≤ (0 : Int32).toInt ∧ (0 : Int32).toInt ≤ 1) from ⟨(by omega), (by omega)⟩)
          · skip
            have l1 : (1 : Int32).toInt = 1 := by decide
            exact D_some (show (0 ≤ (1 : Int32).toInt ∧ (1 : Int32).toInt ≤ 1) from ⟨(by omega), (by omega)⟩)
        · skip
          refine D_ite (fun c10 => ?_) (fun c10 => ?_)
          · have kc10 := tq_eq (x := x0) (y := (9 : Int32)) rfl (b := 9) (by decide) c10
            refine D_ite (fun c11 => ?_) (fun c11 => ?_)
            · skip
              have l0 : (0 : Int32).toInt = 0 := by decide
              exact D_some (show (0 ≤ (0 : Int32).toInt ∧ (0 : Int32).toInt ≤ 1) from ⟨(by omega), (by omega)⟩)
            · skip
              have l1 : (1 : Int32).toInt = 1 := by decide
              exact D_some (show (0 ≤ (1 : Int32).toInt ∧ (1 : Int32).toInt ≤ 1) from ⟨(by omega), (by omega)⟩)
          · skip
            refine D_ite (fun c12 => ?_) (fun c12 => ?_)
            · skip
              have l0 : (0 : Int32).toInt = 0 := by decide
              exact D_some (show (0 ≤ (0 : Int32).toInt ∧ (0 : Int32).toInt ≤ 1) from ⟨(by omega), (by omega)⟩)
            · skip
              have l1 : (1 : Int32).toInt = 1 := by decide
              exact D_some (show (0 ≤ (1 : Int32).toInt ∧ (1 : Int32).toInt ≤ 1) from ⟨(by omega), (by omega)⟩)
set_option maxHeartbeats 1000000 in
set_option maxRecDepth 100000 in
theorem t_X8_times (S : Tr) (x1 : Int64) (x3 : Int64) (hS : iR BM S) : D (f_X8_times S x1 x3) (fun (q : Int64 × Tr) => (iR BM (q.2)) ∧ (aT S (q.2))) := by
  unfold f_X8_times
  refine D_ite (fun c1 => ?_) (fun c1 => ?_)
  · skip
    unfold fJ_X8_times_J48
    unfold fJ_X8_times_J49
    have n3 : 0 ≤ (S 0 51).toInt ∧ (S 0 51).toInt ≤ 1 := hS 0 51
    refine D_ite (fun c2 => ?_) (fun c2 => ?_)
    · have kc2 := tq_eq (x := (S 0 51)) (y := (0 : Int32)) rfl (b := 0) (by decide) c2
      have l0 : (0 : Int32).toInt = 0 := by decide
      refine D_ite (fun c4 => ?_) (fun c4 => ?_)
      · have kc4 := tq_eq (x := (0 : Int32)) (y := (0 : Int32)) rfl rfl c4
        unfold fJ_X8_times_J69
        refine D_ck (okB_01 (by omega)) ?_
        refine D_lt (fun S_5 eS_5 => ?_)
        have hS_5 : iR BM S_5 := by rw [eS_5]; exact iR_set hS (show (0 : Int) ≤ _ from (by omega)) (show _ ≤ (1 : Int) from (by omega))
        have kaT_t6 : aT S S_5 := (by rw [eS_5]; exact aT_set aT_rfl rfl)
        have n7 : (S_5 0 51).toInt = (0 : Int32).toInt := by rw [eS_5]; rfl
        refine D_ite (fun c8 => ?_) (fun c8 => ?_)
        · have kc8 := tq_eq (x := (S_5 0 51)) (y := (0 : Int32)) rfl (b := 0) (by decide) c8
          exact D_some (show (iR BM S_5) ∧ (aT S S_5) from ⟨hS_5, kaT_t6⟩)
        · have kc80 := tq_eqn (x := (S_5 0 51)) (y := (0 : Int32)) rfl (b := 0) (by decide) c8
          have kc8 : 1 ≤ (S_5 0 51).toInt := (by omega)
          clear kc80
          exfalso
          exact (by omega)
      · have kc40 := tq_eqn (x := (0 : Int32)) (y := (0 : Int32)) rfl rfl c4
        have kc4 : 1 ≤ (0 : Int32).toInt := (by omega)
        clear kc40
        exfalso
        exact (by omega)
    · have kc20 := tq_eqn (x := (S 0 51)) (y := (0 : Int32)) rfl (b := 0) (by decide) c2
      have kc2 : 1 ≤ (S 0 51).toInt := (by omega)
      clear kc20
      unfold fJ_X8_times_J64
      unfold fJ_X8_times_J69
      have l1 : (1 : Int32).toInt = 1 := by decide
      refine D_ck (okB_01 (by omega)) ?_
      refine D_lt (fun S_9 eS_9 => ?_)
      have hS_9 : iR BM S_9 := by rw [eS_9]; exact iR_set hS (show (0 : Int) ≤ _ from (by omega)) (show _ ≤ (1 : Int) from (by omega))
      have kaT_t10 : aT S S_9 := (by rw [eS_9]; exact aT_set aT_rfl rfl)
      have n11 : (S_9 0 51).toInt = (1 : Int32).toInt := by rw [eS_9]; rfl
      refine D_ite (fun c12 => ?_) (fun c12 => ?_)
      · have kc12 := tq_eq (x := (S_9 0 51)) (y := (0 : Int32)) rfl (b := 0) (by decide) c12
        exfalso
        exact (by omega)
      · skip
        exact D_some (show (iR BM S_9) ∧ (aT S S_9) from ⟨hS_9, kaT_t10⟩)
  · skip
    refine D_ite (fun c13 => ?_) (fun c13 => ?_)
    · skip
      unfold fJ_X8_times_J48
      unfold fJ_X8_times_J49
      have n15 : 0 ≤ (S 0 51).toInt ∧ (S 0 51).toInt ≤ 1 := hS 0 51
      refine D_ite (fun c14 => ?_) (fun c14 => ?_)
      · have kc14 := tq_eq (x := (S 0 51)) (y := (0 : Int32)) rfl (b := 0) (by decide) c14
        have l0 : (0 : Int32).toInt = 0 := by decide
        refine D_ite (fun c16 => ?_) (fun c16 => ?_)
        · have kc16 := tq_eq (x := (0 : Int32)) (y := (0 : Int32)) rfl rfl c16
          unfold fJ_X8_times_J69
          refine D_ck (okB_01 (by omega)) ?_
          refine D_lt (fun S_17 eS_17 => ?_)
          have hS_17 : iR BM S_17 := by rw [eS_17]; exact iR_set hS (show (0 : Int) ≤ _ from (by omega)) (show _ ≤ (1 : Int) from (by omega))
          have kaT_t18 : aT S S_17 := (by rw [eS_17]; exact aT_set aT_rfl rfl)
          have n19 : (S_17 0 51).toInt = (0 : Int32).toInt := by rw [eS_17]; rfl
          refine D_ite (fun c20 => ?_) (fun c20 => ?_)
          · have kc20 := tq_eq (x := (S_17 0 51)) (y := (0 : Int32)) rfl (b := 0) (by decide) c20
            exact D_some (show (iR BM S_17) ∧ (aT S S_17) from ⟨hS_17, kaT_t18⟩)
          · have kc200 := tq_eqn (x := (S_17 0 51)) (y := (0 : Int32)) rfl (b := 0) (by decide) c20
            have kc20 : 1 ≤ (S_17 0 51).toInt := (by omega)
            clear kc200
            exfalso
            exact (by omega)
        · have kc160 := tq_eqn (x := (0 : Int32)) (y := (0 : Int32)) rfl rfl c16
          have kc16 : 1 ≤ (0 : Int32).toInt := (by omega)
          clear kc160
          exfalso
          exact (by omega)
      · have kc140 := tq_eqn (x := (S 0 51)) (y := (0 : Int32)) rfl (b := 0) (by decide) c14
        have kc14 : 1 ≤ (S 0 51).toInt := (by omega)
        clear kc140
        unfold fJ_X8_times_J64
        unfold fJ_X8_times_J69
        have l1 : (1 : Int32).toInt = 1 := by decide
        refine D_ck (okB_01 (by omega)) ?_
        refine D_lt (fun S_21 eS_21 => ?_)
        have hS_21 : iR BM S_21 := by rw [eS_21]; exact iR_set hS (show (0 : Int) ≤ _ from (by omega)) (show _ ≤ (1 : Int) from (by omega))
        have kaT_t22 : aT S S_21 := (by rw [eS_21]; exact aT_set aT_rfl rfl)
        have n23 : (S_21 0 51).toInt = (1 : Int32).toInt := by rw [eS_21]; rfl
        refine D_ite (fun c24 => ?_) (fun c24 => ?_)
        · have kc24 := tq_eq (x := (S_21 0 51)) (y := (0 : Int32)) rfl (b := 0) (by decide) c24
          exfalso
          exact (by omega)
        · skip
          exact D_some (show (iR BM S_21) ∧ (aT S S_21) from ⟨hS_21, kaT_t22⟩)
    · skip
      refine D_ite (fun c25 => ?_) (fun c25 => ?_)
      · skip
        unfold fJ_X8_times_J24
        refine D_ite (fun c26 => ?_) (fun c26 => ?_)
        · skip
          unfold fJ_X8_times_J39
          refine D_ck (ok_nel (lg_ne0 (by assumption))) ?_
          refine D_ite (fun c27 => ?_) (fun c27 => ?_)
          · skip
            unfold fJ_X8_times_J48
            unfold fJ_X8_times_J49
            have n29 : 0 ≤ (S 0 51).toInt ∧ (S 0 51).toInt ≤ 1 := hS 0 51
            refine D_ite (fun c28 => ?_) (fun c28 => ?_)
            · have kc28 := tq_eq (x := (S 0 51)) (y := (0 : Int32)) rfl (b := 0) (by decide) c28
              have l0 : (0 : Int32).toInt = 0 := by decide
              refine D_ite (fun c30 => ?_) (fun c30 => ?_)
              · have kc30 := tq_eq (x := (0 : Int32)) (y := (0 : Int32)) rfl rfl c30
                unfold fJ_X8_times_J69
                refine D_ck (okB_01 (by omega)) ?_
                refine D_lt (fun S_31 eS_31 => ?_)
                have hS_31 : iR BM S_31 := by rw [eS_31]; exact iR_set hS (show (0 : Int) ≤ _ from (by omega)) (show _ ≤ (1 : Int) from (by omega))
                have kaT_t32 : aT S S_31 := (by rw [eS_31]; exact aT_set aT_rfl rfl)
                have n33 : (S_31 0 51).toInt = (0 : Int32).toInt := by rw [eS_31]; rfl
                refine D_ite (fun c34 => ?_) (fun c34 => ?_)
                · have kc34 := tq_eq (x := (S_31 0 51)) (y := (0 : Int32)) rfl (b := 0) (by decide) c34
                  exact D_some (show (iR BM S_31) ∧ (aT S S_31) from ⟨hS_31, kaT_t32⟩)
                · have kc340 := tq_eqn (x := (S_31 0 51)) (y := (0 : Int32)) rfl (b := 0) (by decide) c34
                  have kc34 : 1 ≤ (S_31 0 51).toInt := (by omega)
                  clear kc340
                  exfalso
                  exact (by omega)
              · have kc300 := tq_eqn (x := (0 : Int32)) (y := (0 : Int32)) rfl rfl c30
                have kc30 : 1 ≤ (0 : Int32).toInt := (by omega)
                clear kc300
                exfalso
                exact (by omega)
            · have kc280 := tq_eqn (x := (S 0 51)) (y := (0 : Int32)) rfl (b := 0) (by decide) c28
              have kc28 : 1 ≤ (S 0 51).toInt := (by omega)
              clear kc280
              unfold fJ_X8_times_J64
              unfold fJ_X8_times_J69
              have l1 : (1 : Int32).toInt = 1 := by decide
              refine D_ck (okB_01 (by omega)) ?_
              refine D_lt (fun S_35 eS_35 => ?_)
              have hS_35 : iR BM S_35 := by rw [eS_35]; exact iR_set hS (show (0 : Int) ≤ _ from (by omega)) (show _ ≤ (1 : Int) from (by omega))
              have kaT_t36 : aT S S_35 := (by rw [eS_35]; exact aT_set aT_rfl rfl)
              have n37 : (S_35 0 51).toInt = (1 : Int32).toInt := by rw [eS_35]; rfl
              refine D_ite (fun c38 => ?_) (fun c38 => ?_)
              · have kc38 := tq_eq (x := (S_35 0 51)) (y := (0 : Int32)) rfl (b := 0) (by decide) c38
                exfalso
                exact (by omega)
              · skip
                exact D_some (show (iR BM S_35) ∧ (aT S S_35) from ⟨hS_35, kaT_t36⟩)
          · skip
            unfold fJ_X8_times_J49
            have n40 : 0 ≤ (S 0 51).toInt ∧ (S 0 51).toInt ≤ 1 := hS 0 51
            refine D_ite (fun c39 => ?_) (fun c39 => ?_)
            · have kc39 := tq_eq (x := (S 0 51)) (y := (0 : Int32)) rfl (b := 0) (by decide) c39
              have l1 : (1 : Int32).toInt = 1 := by decide
              have l0 : (0 : Int32).toInt = 0 := by decide
              refine D_ite (fun c41 => ?_) (fun c41 => ?_)
              · have kc41 := tq_eq (x := (1 : Int32)) (y := (0 : Int32)) (a := 1) (by decide) (b := 0) (by decide) c41
                exfalso
                exact (by omega)
              · skip
                unfold fJ_X8_times_J64
                unfold fJ_X8_times_J69
                refine D_ck (okB_01 (by omega)) ?_
                refine D_lt (fun S_42 eS_42 => ?_)
                have hS_42 : iR BM S_42 := by rw [eS_42]; exact iR_set hS (show (0 : Int) ≤ _ from (by omega)) (show _ ≤ (1 : Int) from (by omega))
                have kaT_t43 : aT S S_42 := (by rw [eS_42]; exact aT_set aT_rfl rfl)
                have n44 : (S_42 0 51).toInt = (1 : Int32).toInt := by rw [eS_42]; rfl
                refine D_ite (fun c45 => ?_) (fun c45 => ?_)
                · have kc45 := tq_eq (x := (S_42 0 51)) (y := (0 : Int32)) rfl (b := 0) (by decide) c45
                  exfalso
                  exact (by omega)
                · skip
                  exact D_some (show (iR BM S_42) ∧ (aT S S_42) from ⟨hS_42, kaT_t43⟩)
            · have kc390 := tq_eqn (x := (S 0 51)) (y := (0 : Int32)) rfl (b := 0) (by decide) c39
              have kc39 : 1 ≤ (S 0 51).toInt := (by omega)
              clear kc390
              unfold fJ_X8_times_J64
              unfold fJ_X8_times_J69
              have l1 : (1 : Int32).toInt = 1 := by decide
              refine D_ck (okB_01 (by omega)) ?_
              refine D_lt (fun S_46 eS_46 => ?_)
              have hS_46 : iR BM S_46 := by rw [eS_46]; exact iR_set hS (show (0 : Int) ≤ _ from (by omega)) (show _ ≤ (1 : Int) from (by omega))
              have kaT_t47 : aT S S_46 := (by rw [eS_46]; exact aT_set aT_rfl rfl)
              have n48 : (S_46 0 51).toInt = (1 : Int32).toInt := by rw [eS_46]; rfl
              refine D_ite (fun c49 => ?_) (fun c49 => ?_)
              · have kc49 := tq_eq (x := (S_46 0 51)) (y := (0 : Int32)) rfl (b := 0) (by decide) c49
                exfalso
                exact (by omega)
              · skip
                exact D_some (show (iR BM S_46) ∧ (aT S S_46) from ⟨hS_46, kaT_t47⟩)
        · skip
          unfold fJ_X8_times_J39
          refine D_ck (ok_nel (lg_neg0 (by assumption))) ?_
          refine D_ite (fun c50 => ?_) (fun c50 => ?_)
          · skip
            unfold fJ_X8_times_J48
            unfold fJ_X8_times_J49
            have n52 : 0 ≤ (S 0 51).toInt ∧ (S 0 51).toInt ≤ 1 := hS 0 51
            refine D_ite (fun c51 => ?_) (fun c51 => ?_)
            · have kc51 := tq_eq (x := (S 0 51)) (y := (0 : Int32)) rfl (b := 0) (by decide) c51
              have l0 : (0 : Int32).toInt = 0 := by decide
              refine D_ite (fun c53 => ?_) (fun c53 => ?_)
              · have kc53 := tq_eq (x := (0 : Int32)) (y := (0 : Int32)) rfl rfl c53
                unfold fJ_X8_times_J69
                refine D_ck (okB_01 (by omega)) ?_
                refine D_lt (fun S_54 eS_54 => ?_)
                have hS_54 : iR BM S_54 := by rw [eS_54]; exact iR_set hS (show (0 : Int) ≤ _ from (by omega)) (show _ ≤ (1 : Int) from (by omega))
                have kaT_t55 : aT S S_54 := (by rw [eS_54]; exact aT_set aT_rfl rfl)
                have n56 : (S_54 0 51).toInt = (0 : Int32).toInt := by rw [eS_54]; rfl
                refine D_ite (fun c57 => ?_) (fun c57 => ?_)
                · have kc57 := tq_eq (x := (S_54 0 51)) (y := (0 : Int32)) rfl (b := 0) (by decide) c57
                  exact D_some (show (iR BM S_54) ∧ (aT S S_54) from ⟨hS_54, kaT_t55⟩)
                · have kc570 := tq_eqn (x := (S_54 0 51)) (y := (0 : Int32)) rfl (b := 0) (by decide) c57
                  have kc57 : 1 ≤ (S_54 0 51).toInt := (by omega)
                  clear kc570
                  exfalso
                  exact (by omega)
              · have kc530 := tq_eqn (x := (0 : Int32)) (y := (0 : Int32)) rfl rfl c53
                have kc53 : 1 ≤ (0 : Int32).toInt := (by omega)
                clear kc530
                exfalso
                exact (by omega)
            · have kc510 := tq_eqn (x := (S 0 51)) (y := (0 : Int32)) rfl (b := 0) (by decide) c51
              have kc51 : 1 ≤ (S 0 51).toInt := (by omega)
              clear kc510
              unfold fJ_X8_times_J64
              unfold fJ_X8_times_J69
              have l1 : (1 : Int32).toInt = 1 := by decide
              refine D_ck (okB_01 (by omega)) ?_
              refine D_lt (fun S_58 eS_58 => ?_)
              have hS_58 : iR BM S_58 := by rw [eS_58]; exact iR_set hS (show (0 : Int) ≤ _ from (by omega)) (show _ ≤ (1 : Int) from (by omega))
              have kaT_t59 : aT S S_58 := (by rw [eS_58]; exact aT_set aT_rfl rfl)
              have n60 : (S_58 0 51).toInt = (1 : Int32).toInt := by rw [eS_58]; rfl
              refine D_ite (fun c61 => ?_) (fun c61 => ?_)
              · have kc61 := tq_eq (x := (S_58 0 51)) (y := (0 : Int32)) rfl (b := 0) (by decide) c61
                exfalso
                exact (by omega)
              · skip
                exact D_some (show (iR BM S_58) ∧ (aT S S_58) from ⟨hS_58, kaT_t59⟩)
          · skip
            unfold fJ_X8_times_J49
            have n63 : 0 ≤ (S 0 51).toInt ∧ (S 0 51).toInt ≤ 1 := hS 0 51
            refine D_ite (fun c62 => ?_) (fun c62 => ?_)
            · have kc62 := tq_eq (x := (S 0 51)) (y := (0 : Int32)) rfl (b := 0) (by decide) c62
              have l1 : (1 : Int32).toInt = 1 := by decide
              have l0 : (0 : Int32).toInt = 0 := by decide
              refine D_ite (fun c64 => ?_) (fun c64 => ?_)
              · have kc64 := tq_eq (x := (1 : Int32)) (y := (0 : Int32)) (a := 1) (by decide) (b := 0) (by decide) c64
                exfalso
                exact (by omega)
              · skip
                unfold fJ_X8_times_J64
                unfold fJ_X8_times_J69
                refine D_ck (okB_01 (by omega)) ?_
                refine D_lt (fun S_65 eS_65 => ?_)
                have hS_65 : iR BM S_65 := by rw [eS_65]; exact iR_set hS (show (0 : Int) ≤ _ from (by omega)) (show _ ≤ (1 : Int) from (by omega))
                have kaT_t66 : aT S S_65 := (by rw [eS_65]; exact aT_set aT_rfl rfl)
                have n67 : (S_65 0 51).toInt = (1 : Int32).toInt := by rw [eS_65]; rfl
                refine D_ite (fun c68 => ?_) (fun c68 => ?_)
                · have kc68 := tq_eq (x := (S_65 0 51)) (y := (0 : Int32)) rfl (b := 0) (by decide) c68
                  exfalso
                  exact (by omega)
                · skip
                  exact D_some (show (iR BM S_65) ∧ (aT S S_65) from ⟨hS_65, kaT_t66⟩)
            · have kc620 := tq_eqn (x := (S 0 51)) (y := (0 : Int32)) rfl (b := 0) (by decide) c62
              have kc62 : 1 ≤ (S 0 51).toInt := (by omega)
              clear kc620
              unfold fJ_X8_times_J64
              unfold fJ_X8_times_J69
              have l1 : (1 : Int32).toInt = 1 := by decide
              refine D_ck (okB_01 (by omega)) ?_
              refine D_lt (fun S_69 eS_69 => ?_)
              have hS_69 : iR BM S_69 := by rw [eS_69]; exact iR_set hS (show (0 : Int) ≤ _ from (by omega)) (show _ ≤ (1 : Int) from (by omega))
              have kaT_t70 : aT S S_69 := (by rw [eS_69]; exact aT_set aT_rfl rfl)
              have n71 : (S_69 0 51).toInt = (1 : Int32).toInt := by rw [eS_69]; rfl
              refine D_ite (fun c72 => ?_) (fun c72 => ?_)
              · have kc72 := tq_eq (x := (S_69 0 51)) (y := (0 : Int32)) rfl (b := 0) (by decide) c72
                exfalso
                exact (by omega)
              · skip
                exact D_some (show (iR BM S_69) ∧ (aT S S_69) from ⟨hS_69, kaT_t70⟩)
      · skip
        unfold fJ_X8_times_J24
        refine D_ite (fun c73 => ?_) (fun c73 => ?_)
        · skip
          unfold fJ_X8_times_J39
          refine D_ck (ok_nel (lg_ne0 (by assumption))) ?_
          refine D_ite (fun c74 => ?_) (fun c74 => ?_)
          · skip
            unfold fJ_X8_times_J48
            unfold fJ_X8_times_J49
            have n76 : 0 ≤ (S 0 51).toInt ∧ (S 0 51).toInt ≤ 1 := hS 0 51
            refine D_ite (fun c75 => ?_) (fun c75 => ?_)
            · have kc75 := tq_eq (x := (S 0 51)) (y := (0 : Int32)) rfl (b := 0) (by decide) c75
              have l0 : (0 : Int32).toInt = 0 := by decide
              refine D_ite (fun c77 => ?_) (fun c77 => ?_)
              · have kc77 := tq_eq (x := (0 : Int32)) (y := (0 : Int32)) rfl rfl c77
                unfold fJ_X8_times_J69
                refine D_ck (okB_01 (by omega)) ?_
                refine D_lt (fun S_78 eS_78 => ?_)
                have hS_78 : iR BM S_78 := by rw [eS_78]; exact iR_set hS (show (0 : Int) ≤ _ from (by omega)) (show _ ≤ (1 : Int) from (by omega))
                have kaT_t79 : aT S S_78 := (by rw [eS_78]; exact aT_set aT_rfl rfl)
                have n80 : (S_78 0 51).toInt = (0 : Int32).toInt := by rw [eS_78]; rfl
                refine D_ite (fun c81 => ?_) (fun c81 => ?_)
                · have kc81 := tq_eq (x := (S_78 0 51)) (y := (0 : Int32)) rfl (b := 0) (by decide) c81
                  exact D_some (show (iR BM S_78) ∧ (aT S S_78) from ⟨hS_78, kaT_t79⟩)
                · have kc810 := tq_eqn (x := (S_78 0 51)) (y := (0 : Int32)) rfl (b := 0) (by decide) c81
                  have kc81 : 1 ≤ (S_78 0 51).toInt := (by omega)
                  clear kc810
                  exfalso
                  exact (by omega)
              · have kc770 := tq_eqn (x := (0 : Int32)) (y := (0 : Int32)) rfl rfl c77
                have kc77 : 1 ≤ (0 : Int32).toInt := (by omega)
                clear kc770
                exfalso
                exact (by omega)
            · have kc750 := tq_eqn (x := (S 0 51)) (y := (0 : Int32)) rfl (b := 0) (by decide) c75
              have kc75 : 1 ≤ (S 0 51).toInt := (by omega)
              clear kc750
              unfold fJ_X8_times_J64
              unfold fJ_X8_times_J69
              have l1 : (1 : Int32).toInt = 1 := by decide
              refine D_ck (okB_01 (by omega)) ?_
              refine D_lt (fun S_82 eS_82 => ?_)
              have hS_82 : iR BM S_82 := by rw [eS_82]; exact iR_set hS (show (0 : Int) ≤ _ from (by omega)) (show _ ≤ (1 : Int) from (by omega))
              have kaT_t83 : aT S S_82 := (by rw [eS_82]; exact aT_set aT_rfl rfl)
              have n84 : (S_82 0 51).toInt = (1 : Int32).toInt := by rw [eS_82]; rfl
              refine D_ite (fun c85 => ?_) (fun c85 => ?_)
              · have kc85 := tq_eq (x := (S_82 0 51)) (y := (0 : Int32)) rfl (b := 0) (by decide) c85
                exfalso
                exact (by omega)
              · skip
                exact D_some (show (iR BM S_82) ∧ (aT S S_82) from ⟨hS_82, kaT_t83⟩)
          · skip
            unfold fJ_X8_times_J49
            have n87 : 0 ≤ (S 0 51).toInt ∧ (S 0 51).toInt ≤ 1 := hS 0 51
            refine D_ite (fun c86 => ?_) (fun c86 => ?_)
            · have kc86 := tq_eq (x := (S 0 51)) (y := (0 : Int32)) rfl (b := 0) (by decide) c86
              have l1 : (1 : Int32).toInt = 1 := by decide
              have l0 : (0 : Int32).toInt = 0 := by decide
              refine D_ite (fun c88 => ?_) (fun c88 => ?_)
              · have kc88 := tq_eq (x := (1 : Int32)) (y := (0 : Int32)) (a := 1) (by decide) (b := 0) (by decide) c88
                exfalso
                exact (by omega)
              · skip
                unfold fJ_X8_times_J64
                unfold fJ_X8_times_J69
                refine D_ck (okB_01 (by omega)) ?_
                refine D_lt (fun S_89 eS_89 => ?_)
                have hS_89 : iR BM S_89 := by rw [eS_89]; exact iR_set hS (show (0 : Int) ≤ _ from (by omega)) (show _ ≤ (1 : Int) from (by omega))
                have kaT_t90 : aT S S_89 := (by rw [eS_89]; exact aT_set aT_rfl rfl)
                have n91 : (S_89 0 51).toInt = (1 : Int32).toInt := by rw [eS_89]; rfl
                refine D_ite (fun c92 => ?_) (fun c92 => ?_)
                · have kc92 := tq_eq (x := (S_89 0 51)) (y := (0 : Int32)) rfl (b := 0) (by decide) c92
                  exfalso
                  exact (by omega)
                · skip
                  exact D_some (show (iR BM S_89) ∧ (aT S S_89) from ⟨hS_89, kaT_t90⟩)
            · have kc860 := tq_eqn (x := (S 0 51)) (y := (0 : Int32)) rfl (b := 0) (by decide) c86
              have kc86 : 1 ≤ (S 0 51).toInt := (by omega)
              clear kc860
              unfold fJ_X8_times_J64
              unfold fJ_X8_times_J69
              have l1 : (1 : Int32).toInt = 1 := by decide
              refine D_ck (okB_01 (by omega)) ?_
              refine D_lt (fun S_93 eS_93 => ?_)
              have hS_93 : iR BM S_93 := by rw [eS_93]; exact iR_set hS (show (0 : Int) ≤ _ from (by omega)) (show _ ≤ (1 : Int) from (by omega))
              have kaT_t94 : aT S S_93 := (by rw [eS_93]; exact aT_set aT_rfl rfl)
              have n95 : (S_93 0 51).toInt = (1 : Int32).toInt := by rw [eS_93]; rfl
              refine D_ite (fun c96 => ?_) (fun c96 => ?_)
              · have kc96 := tq_eq (x := (S_93 0 51)) (y := (0 : Int32)) rfl (b := 0) (by decide) c96
                exfalso
                exact (by omega)
              · skip
                exact D_some (show (iR BM S_93) ∧ (aT S S_93) from ⟨hS_93, kaT_t94⟩)
        · skip
          unfold fJ_X8_times_J39
          refine D_ck (ok_nel (lg_neg0 (by assumption))) ?_
          refine D_ite (fun c97 => ?_) (fun c97 => ?_)
          · skip
            unfold fJ_X8_times_J48
            unfold fJ_X8_times_J49
            have n99 : 0 ≤ (S 0 51).toInt ∧ (S 0 51).toInt ≤ 1 := hS 0 51
            refine D_ite (fun c98 => ?_) (fun c98 => ?_)
            · have kc98 := tq_eq (x := (S 0 51)) (y := (0 : Int32)) rfl (b := 0) (by decide) c98
              have l0 : (0 : Int32).toInt = 0 := by decide
              refine D_ite (fun c100 => ?_) (fun c100 => ?_)
              · have kc100 := tq_eq (x := (0 : Int32)) (y := (0 : Int32)) rfl rfl c100
                unfold fJ_X8_times_J69
                refine D_ck (okB_01 (by omega)) ?_
                refine D_lt (fun S_101 eS_101 => ?_)
                have hS_101 : iR BM S_101 := by rw [eS_101]; exact iR_set hS (show (0 : Int) ≤ _ from (by omega)) (show _ ≤ (1 : Int) from (by omega))
                have kaT_t102 : aT S S_101 := (by rw [eS_101]; exact aT_set aT_rfl rfl)
                have n103 : (S_101 0 51).toInt = (0 : Int32).toInt := by rw [eS_101]; rfl
                refine D_ite (fun c104 => ?_) (fun c104 => ?_)
                · have kc104 := tq_eq (x := (S_101 0 51)) (y := (0 : Int32)) rfl (b := 0) (by decide) c104
                  exact D_some (show (iR BM S_101) ∧ (aT S S_101) from ⟨hS_101, kaT_t102⟩)
                · have kc1040 := tq_eqn (x := (S_101 0 51)) (y := (0 : Int32)) rfl (b := 0) (by decide) c104
                  have kc104 : 1 ≤ (S_101 0 51).toInt := (by omega)
                  clear kc1040
                  exfalso
                  exact (by omega)
              · have kc1000 := tq_eqn (x := (0 : Int32)) (y := (0 : Int32)) rfl rfl c100
                have kc100 : 1 ≤ (0 : Int32).toInt := (by omega)
                clear kc1000
                exfalso
                exact (by omega)
            · have kc980 := tq_eqn (x := (S 0 51)) (y := (0 : Int32)) rfl (b := 0) (by decide) c98
              have kc98 : 1 ≤ (S 0 51).toInt := (by omega)
              clear kc980
              unfold fJ_X8_times_J64
              unfold fJ_X8_times_J69
              have l1 : (1 : Int32).toInt = 1 := by decide
              refine D_ck (okB_01 (by omega)) ?_
              refine D_lt (fun S_105 eS_105 => ?_)
              have hS_105 : iR BM S_105 := by rw [eS_105]; exact iR_set hS (show (0 : Int) ≤ _ from (by omega)) (show _ ≤ (1 : Int) from (by omega))
              have kaT_t106 : aT S S_105 := (by rw [eS_105]; exact aT_set aT_rfl rfl)
              have n107 : (S_105 0 51).toInt = (1 : Int32).toInt := by rw [eS_105]; rfl
              refine D_ite (fun c108 => ?_) (fun c108 => ?_)
              · have kc108 := tq_eq (x := (S_105 0 51)) (y := (0 : Int32)) rfl (b := 0) (by decide) c108
                exfalso
                exact (by omega)
              · skip
                exact D_some (show (iR BM S_105) ∧ (aT S S_105) from ⟨hS_105, kaT_t106⟩)
          · skip
            unfold fJ_X8_times_J49
            have n110 : 0 ≤ (S 0 51).toInt ∧ (S 0 51).toInt ≤ 1 := hS 0 51
            refine D_ite (fun c109 => ?_) (fun c109 => ?_)
            · have kc109 := tq_eq (x := (S 0 51)) (y := (0 : Int32)) rfl (b := 0) (by decide) c109
              have l1 : (1 : Int32).toInt = 1 := by decide
              have l0 : (0 : Int32).toInt = 0 := by decide
              refine D_ite (fun c111 => ?_) (fun c111 => ?_)
              · have kc111 := tq_eq (x := (1 : Int32)) (y := (0 : Int32)) (a := 1) (by decide) (b := 0) (by decide) c111
                exfalso
                exact (by omega)
              · skip
                unfold fJ_X8_times_J64
                unfold fJ_X8_times_J69
                refine D_ck (okB_01 (by omega)) ?_
                refine D_lt (fun S_112 eS_112 => ?_)
                have hS_112 : iR BM S_112 := by rw [eS_112]; exact iR_set hS (show (0 : Int) ≤ _ from (by omega)) (show _ ≤ (1 : Int) from (by omega))
                have kaT_t113 : aT S S_112 := (by rw [eS_112]; exact aT_set aT_rfl rfl)
                have n114 : (S_112 0 51).toInt = (1 : Int32).toInt := by rw [eS_112]; rfl
                refine D_ite (fun c115 => ?_) (fun c115 => ?_)
                · have kc115 := tq_eq (x := (S_112 0 51)) (y := (0 : Int32)) rfl (b := 0) (by decide) c115
                  exfalso
                  exact (by omega)
                · skip
                  exact D_some (show (iR BM S_112) ∧ (aT S S_112) from ⟨hS_112, kaT_t113⟩)
            · have kc1090 := tq_eqn (x := (S 0 51)) (y := (0 : Int32)) rfl (b := 0) (by decide) c109
              have kc109 : 1 ≤ (S 0 51).toInt := (by omega)
              clear kc1090
              unfold fJ_X8_times_J64
              unfold fJ_X8_times_J69
              have l1 : (1 : Int32).toInt = 1 := by decide
              refine D_ck (okB_01 (by omega)) ?_
              refine D_lt (fun S_116 eS_116 => ?_)
              have hS_116 : iR BM S_116 := by rw [eS_116]; exact iR_set hS (show (0 : Int) ≤ _ from (by omega)) (show _ ≤ (1 : Int) from (by omega))
              have kaT_t117 : aT S S_116 := (by rw [eS_116]; exact aT_set aT_rfl rfl)
              have n118 : (S_116 0 51).toInt = (1 : Int32).toInt := by rw [eS_116]; rfl
              refine D_ite (fun c119 => ?_) (fun c119 => ?_)
              · have kc119 := tq_eq (x := (S_116 0 51)) (y := (0 : Int32)) rfl (b := 0) (by decide) c119
                exfalso
                exact (by omega)
              · skip
                exact D_some (show (iR BM S_116) ∧ (aT S S_116) from ⟨hS_116, kaT_t117⟩)
set_option maxHeartbeats 1000000 in
set_option maxRecDepth 100000 in
theorem t_X8_bounded (S : Tr) (x1 : Int64) (hS : iR BM S) : D (f_X8_bounded S x1) (fun (q : Int64 × Tr) => (iR BM (q.2)) ∧ (aT S (q.2))) := by
  unfold f_X8_bounded
  have n2 : 0 ≤ (S 0 51).toInt ∧ (S 0 51).toInt ≤ 1 := hS 0 51
  refine D_ite (fun c1 => ?_) (fun c1 => ?_)
  · have kc1 := tq_eq (x := (S 0 51)) (y := (0 : Int32)) rfl (b := 0) (by decide) c1
    refine D_ite (fun c3 => ?_) (fun c3 => ?_)
    · skip
      unfold fJ_X8_bounded_J24
      unfold fJ_X8_bounded_J29
      have l1 : (1 : Int32).toInt = 1 := by decide
      refine D_ck (okB_01 (by omega)) ?_
      refine D_lt (fun S_4 eS_4 => ?_)
      have hS_4 : iR BM S_4 := by rw [eS_4]; exact iR_set hS (show (0 : Int) ≤ _ from (by omega)) (show _ ≤ (1 : Int) from (by omega))
      have kaT_t5 : aT S S_4 := (by rw [eS_4]; exact aT_set aT_rfl rfl)
      have n6 : (S_4 0 51).toInt = (1 : Int32).toInt := by rw [eS_4]; rfl
      refine D_ite (fun c7 => ?_) (fun c7 => ?_)
      · have kc7 := tq_eq (x := (S_4 0 51)) (y := (0 : Int32)) rfl (b := 0) (by decide) c7
        exfalso
        exact (by omega)
      · skip
        exact D_some (show (iR BM S_4) ∧ (aT S S_4) from ⟨hS_4, kaT_t5⟩)
    · skip
      refine D_ite (fun c8 => ?_) (fun c8 => ?_)
      · skip
        unfold fJ_X8_bounded_J29
        have l0 : (0 : Int32).toInt = 0 := by decide
        refine D_ck (okB_01 (by omega)) ?_
        refine D_lt (fun S_9 eS_9 => ?_)
        have hS_9 : iR BM S_9 := by rw [eS_9]; exact iR_set hS (show (0 : Int) ≤ _ from (by omega)) (show _ ≤ (1 : Int) from (by omega))
        have kaT_t10 : aT S S_9 := (by rw [eS_9]; exact aT_set aT_rfl rfl)
        have n11 : (S_9 0 51).toInt = (0 : Int32).toInt := by rw [eS_9]; rfl
        refine D_ite (fun c12 => ?_) (fun c12 => ?_)
        · have kc12 := tq_eq (x := (S_9 0 51)) (y := (0 : Int32)) rfl (b := 0) (by decide) c12
          exact D_some (show (iR BM S_9) ∧ (aT S S_9) from ⟨hS_9, kaT_t10⟩)
        · have kc120 := tq_eqn (x := (S_9 0 51)) (y := (0 : Int32)) rfl (b := 0) (by decide) c12
          have kc12 : 1 ≤ (S_9 0 51).toInt := (by omega)
          clear kc120
          exfalso
          exact (by omega)
      · skip
        unfold fJ_X8_bounded_J24
        unfold fJ_X8_bounded_J29
        have l1 : (1 : Int32).toInt = 1 := by decide
        refine D_ck (okB_01 (by omega)) ?_
        refine D_lt (fun S_13 eS_13 => ?_)
        have hS_13 : iR BM S_13 := by rw [eS_13]; exact iR_set hS (show (0 : Int) ≤ _ from (by omega)) (show _ ≤ (1 : Int) from (by omega))
        have kaT_t14 : aT S S_13 := (by rw [eS_13]; exact aT_set aT_rfl rfl)
        have n15 : (S_13 0 51).toInt = (1 : Int32).toInt := by rw [eS_13]; rfl
        refine D_ite (fun c16 => ?_) (fun c16 => ?_)
        · have kc16 := tq_eq (x := (S_13 0 51)) (y := (0 : Int32)) rfl (b := 0) (by decide) c16
          exfalso
          exact (by omega)
        · skip
          exact D_some (show (iR BM S_13) ∧ (aT S S_13) from ⟨hS_13, kaT_t14⟩)
  · have kc10 := tq_eqn (x := (S 0 51)) (y := (0 : Int32)) rfl (b := 0) (by decide) c1
    have kc1 : 1 ≤ (S 0 51).toInt := (by omega)
    clear kc10
    unfold fJ_X8_bounded_J24
    unfold fJ_X8_bounded_J29
    have l1 : (1 : Int32).toInt = 1 := by decide
    refine D_ck (okB_01 (by omega)) ?_
    refine D_lt (fun S_17 eS_17 => ?_)
    have hS_17 : iR BM S_17 := by rw [eS_17]; exact iR_set hS (show (0 : Int) ≤ _ from (by omega)) (show _ ≤ (1 : Int) from (by omega))
    have kaT_t18 : aT S S_17 := (by rw [eS_17]; exact aT_set aT_rfl rfl)
    have n19 : (S_17 0 51).toInt = (1 : Int32).toInt := by rw [eS_17]; rfl
    refine D_ite (fun c20 => ?_) (fun c20 => ?_)
    · have kc20 := tq_eq (x := (S_17 0 51)) (y := (0 : Int32)) rfl (b := 0) (by decide) c20
      exfalso
      exact (by omega)
    · skip
      exact D_some (show (iR BM S_17) ∧ (aT S S_17) from ⟨hS_17, kaT_t18⟩)
set_option maxHeartbeats 1000000 in
set_option maxRecDepth 100000 in
theorem t_X8_valueOf (S : Tr) (L : Lo) (x1 : Int32) (hS : iR BM S) (dpI : pI S) (hx1 : 0 ≤ x1.toInt ∧ x1.toInt ≤ 63) : D (f_X8_valueOf S L x1) (fun (q : Int64 × Tr) => (iR BM (q.2)) ∧ (aT S (q.2)) ∧ (pI (q.2))) := by
  unfold f_X8_valueOf
  have n1 := node_i (dpI.1 x1.toNatClampNeg)
  refine D_ck (okI_of (by omega) (by omega)) ?_
  have n3 := i_rng (S 39 x1.toNatClampNeg)
  refine D_ite (fun c2 => ?_) (fun c2 => ?_)
  · have kc2 := tq_eq (x := (S 39 x1.toNatClampNeg)) (y := (0 : Int32)) rfl (b := 0) (by decide) c2
    exact D_some (show (iR BM S) ∧ (aT S S) ∧ (pI S) from ⟨hS, aT_rfl, dpI⟩)
  · have kc2 := tq_eqn (x := (S 39 x1.toNatClampNeg)) (y := (0 : Int32)) rfl (b := 0) (by decide) c2
    refine D_ite (fun c4 => ?_) (fun c4 => ?_)
    · have kc4 := tq_eq (x := (S 39 x1.toNatClampNeg)) (y := (1 : Int32)) rfl (b := 1) (by decide) c4
      have n5 := i_rng (S 40 x1.toNatClampNeg)
      refine D_ck (okI_of (by omega) (by omega)) ?_
      exact D_some (show (iR BM S) ∧ (aT S S) ∧ (pI S) from ⟨hS, aT_rfl, dpI⟩)
    · have kc4 := tq_eqn (x := (S 39 x1.toNatClampNeg)) (y := (1 : Int32)) rfl (b := 1) (by decide) c4
      have n6 := i_rng (S 40 x1.toNatClampNeg)
      refine D_ck (okI_of (by omega) (by omega)) ?_
      refine D_lt (fun y7 ey7 => ?_)
      refine D_ite (fun c8 => ?_) (fun c8 => ?_)
      · have kc8 := tq_eq (x := (S 39 x1.toNatClampNeg)) (y := (2 : Int32)) rfl (b := 2) (by decide) c8
        refine D_ite (fun c9 => ?_) (fun c9 => ?_)
        · skip
          exact D_some (show (iR BM S) ∧ (aT S S) ∧ (pI S) from ⟨hS, aT_rfl, dpI⟩)
        · skip
          exact D_some (show (iR BM S) ∧ (aT S S) ∧ (pI S) from ⟨hS, aT_rfl, dpI⟩)
      · have kc8 := tq_eqn (x := (S 39 x1.toNatClampNeg)) (y := (2 : Int32)) rfl (b := 2) (by decide) c8
        have n10 := i_rng (S 41 x1.toNatClampNeg)
        refine D_ck (okI_of (by omega) (by omega)) ?_
        refine D_lt (fun y11 ey11 => ?_)
        refine D_lt (fun y12 ey12 => ?_)
        have hy12 : y12.toInt = (S 39 x1.toNatClampNeg).toInt := by rw [ey12]
        refine D_ite (fun c13 => ?_) (fun c13 => ?_)
        · have kc13 := tq_eq (x := y12) (y := (3 : Int32)) rfl (b := 3) (by decide) c13
          refine D_ite (fun c14 => ?_) (fun c14 => ?_)
          · skip
            exact D_some (show (iR BM S) ∧ (aT S S) ∧ (pI S) from ⟨hS, aT_rfl, dpI⟩)
          · skip
            refine D_ite (fun c15 => ?_) (fun c15 => ?_)
            · skip
              exact D_some (show (iR BM S) ∧ (aT S S) ∧ (pI S) from ⟨hS, aT_rfl, dpI⟩)
            · skip
              exact D_some (show (iR BM S) ∧ (aT S S) ∧ (pI S) from ⟨hS, aT_rfl, dpI⟩)
        · skip
          refine D_ite (fun c16 => ?_) (fun c16 => ?_)
          · have kc16 := tq_eq (x := y12) (y := (4 : Int32)) rfl (b := 4) (by decide) c16
            refine D_ite (fun c17 => ?_) (fun c17 => ?_)
            · skip
              refine D_ite (fun c18 => ?_) (fun c18 => ?_)
              · skip
                exact D_some (show (iR BM S) ∧ (aT S S) ∧ (pI S) from ⟨hS, aT_rfl, dpI⟩)
              · skip
                exact D_some (show (iR BM S) ∧ (aT S S) ∧ (pI S) from ⟨hS, aT_rfl, dpI⟩)
            · skip
              exact D_some (show (iR BM S) ∧ (aT S S) ∧ (pI S) from ⟨hS, aT_rfl, dpI⟩)
          · skip
            refine D_ite (fun c19 => ?_) (fun c19 => ?_)
            · have kc19 := tq_eq (x := y12) (y := (11 : Int32)) rfl (b := 11) (by decide) c19
              refine D_bd2 (t_X8_bounded S (y7 + y11) hS) (fun r20 S_21 eq23 hq22 => ?_)
              refine D_lte (y := r20) rfl ?_
              refine D_lte (y := S_21) rfl ?_
              obtain ⟨p24, p25⟩ : (iR BM S_21) ∧ (aT S S_21) := hq22
              have k26 : aT S S_21 := p25
              have kpI_t27 : pI S_21 := (pI_aT dpI p25)
              exact D_some (show (iR BM S_21) ∧ (aT S S_21) ∧ (pI S_21) from ⟨p24, k26, kpI_t27⟩)
            · skip
              refine D_ite (fun c28 => ?_) (fun c28 => ?_)
              · have kc28 := tq_eq (x := y12) (y := (12 : Int32)) rfl (b := 12) (by decide) c28
                refine D_bd2 (t_X8_bounded S (y7 - y11) hS) (fun r29 S_30 eq32 hq31 => ?_)
                refine D_lte (y := r29) rfl ?_
                refine D_lte (y := S_30) rfl ?_
                obtain ⟨p33, p34⟩ : (iR BM S_30) ∧ (aT S S_30) := hq31
                have k35 : aT S S_30 := p34
                have kpI_t36 : pI S_30 := (pI_aT dpI p34)
                exact D_some (show (iR BM S_30) ∧ (aT S S_30) ∧ (pI S_30) from ⟨p33, k35, kpI_t36⟩)
              · skip
                refine D_ite (fun c37 => ?_) (fun c37 => ?_)
                · have kc37 := tq_eq (x := y12) (y := (13 : Int32)) rfl (b := 13) (by decide) c37
                  refine D_bd2 (t_X8_times S y7 y11 hS) (fun r38 S_39 eq41 hq40 => ?_)
                  refine D_lte (y := r38) rfl ?_
                  refine D_lte (y := S_39) rfl ?_
                  obtain ⟨p42, p43⟩ : (iR BM S_39) ∧ (aT S S_39) := hq40
                  have k44 : aT S S_39 := p43
                  have kpI_t45 : pI S_39 := (pI_aT dpI p43)
                  exact D_some (show (iR BM S_39) ∧ (aT S S_39) ∧ (pI S_39) from ⟨p42, k44, kpI_t45⟩)
                · skip
                  refine D_ite (fun c46 => ?_) (fun c46 => ?_)
                  · have kc46 := tq_eq (x := y12) (y := (14 : Int32)) rfl (b := 14) (by decide) c46
                    have n48 : 0 ≤ (S 0 51).toInt ∧ (S 0 51).toInt ≤ 1 := hS 0 51
                    refine D_ite (fun c47 => ?_) (fun c47 => ?_)
                    · have kc47 := tq_eq (x := (S 0 51)) (y := (0 : Int32)) rfl (b := 0) (by decide) c47
                      refine D_ite (fun c49 => ?_) (fun c49 => ?_)
                      · skip
                        unfold fJ_X8_valueOf_J235
                        unfold fJ_X8_valueOf_J240
                        have l1 : (1 : Int32).toInt = 1 := by decide
                        refine D_ck (okB_01 (by clear hx1 n1 n3 kc2 kc4 n6 kc8 n10 hy12 kc46 n48 kc47; omega)) ?_
                        refine D_lt (fun S_50 eS_50 => ?_)
                        have hS_50 : iR BM S_50 := by rw [eS_50]; exact iR_set hS (show (0 : Int) ≤ _ from (by clear hx1 n1 n3 kc2 kc4 n6 kc8 n10 hy12 kc46 n48 kc47; omega)) (show _ ≤ (1 : Int) from (by clear hx1 n1 n3 kc2 kc4 n6 kc8 n10 hy12 kc46 n48 kc47; omega))
                        have kaT_t51 : aT S S_50 := (by rw [eS_50]; exact aT_set aT_rfl rfl)
                        have kpI_t52 : pI S_50 := by rw [eS_50]; exact dpI
                        have n53 : (S_50 0 51).toInt = (1 : Int32).toInt := by rw [eS_50]; rfl
                        refine D_ite (fun c54 => ?_) (fun c54 => ?_)
                        · have kc54 := tq_eq (x := (S_50 0 51)) (y := (0 : Int32)) rfl (b := 0) (by decide) c54
                          exfalso
                          exact (by clear hx1 n1 n3 kc2 kc4 n6 kc8 n10 hy12 kc46 n48 kc47; omega)
                        · have kc54 := tq_eqn (x := (S_50 0 51)) (y := (0 : Int32)) rfl (b := 0) (by decide) c54
                          exact D_some (show (iR BM S_50) ∧ (aT S S_50) ∧ (pI S_50) from ⟨hS_50, kaT_t51, kpI_t52⟩)
                      · skip
                        unfold fJ_X8_valueOf_J240
                        have l0 : (0 : Int32).toInt = 0 := by decide
                        refine D_ck (okB_01 (by clear hx1 n1 n3 kc2 kc4 n6 kc8 n10 hy12 kc46 n48 kc47; omega)) ?_
                        refine D_lt (fun S_55 eS_55 => ?_)
                        have hS_55 : iR BM S_55 := by rw [eS_55]; exact iR_set hS (show (0 : Int) ≤ _ from (by clear hx1 n1 n3 kc2 kc4 n6 kc8 n10 hy12 kc46 n48 kc47; omega)) (show _ ≤ (1 : Int) from (by clear hx1 n1 n3 kc2 kc4 n6 kc8 n10 hy12 kc46 n48 kc47; omega))
                        have kaT_t56 : aT S S_55 := (by rw [eS_55]; exact aT_set aT_rfl rfl)
                        have kpI_t57 : pI S_55 := by rw [eS_55]; exact dpI
                        have n58 : (S_55 0 51).toInt = (0 : Int32).toInt := by rw [eS_55]; rfl
                        refine D_ite (fun c59 => ?_) (fun c59 => ?_)
                        · have kc59 := tq_eq (x := (S_55 0 51)) (y := (0 : Int32)) rfl (b := 0) (by decide) c59
                          refine D_ck (ok_nel (lg_ne0 (by assumption))) ?_
                          exact D_some (show (iR BM S_55) ∧ (aT S S_55) ∧ (pI S_55) from ⟨hS_55, kaT_t56, kpI_t57⟩)
                        · have kc590 := tq_eqn (x := (S_55 0 51)) (y := (0 : Int32)) rfl (b := 0) (by decide) c59
                          have kc59 : 1 ≤ (S_55 0 51).toInt := (by clear hx1 n1 n3 kc2 kc4 n6 kc8 n10 hy12 kc46 n48 kc47; omega)
                          clear kc590
                          exfalso
                          exact (by clear hx1 n1 n3 kc2 kc4 n6 kc8 n10 hy12 kc46 n48 kc47; omega)
                    · have kc470 := tq_eqn (x := (S 0 51)) (y := (0 : Int32)) rfl (b := 0) (by decide) c47
                      have kc47 : 1 ≤ (S 0 51).toInt := (by clear hx1 n1 n3 kc2 kc4 n6 kc8 n10 hy12 kc46; omega)
                      clear kc470
                      unfold fJ_X8_valueOf_J235
                      unfold fJ_X8_valueOf_J240
                      have l1 : (1 : Int32).toInt = 1 := by decide
                      refine D_ck (okB_01 (by clear hx1 n1 n3 kc2 kc4 n6 kc8 n10 hy12 kc46 n48 kc47; omega)) ?_
                      refine D_lt (fun S_60 eS_60 => ?_)
                      have hS_60 : iR BM S_60 := by rw [eS_60]; exact iR_set hS (show (0 : Int) ≤ _ from (by clear hx1 n1 n3 kc2 kc4 n6 kc8 n10 hy12 kc46 n48 kc47; omega)) (show _ ≤ (1 : Int) from (by clear hx1 n1 n3 kc2 kc4 n6 kc8 n10 hy12 kc46 n48 kc47; omega))
                      have kaT_t61 : aT S S_60 := (by rw [eS_60]; exact aT_set aT_rfl rfl)
                      have kpI_t62 : pI S_60 := by rw [eS_60]; exact dpI
                      have n63 : (S_60 0 51).toInt = (1 : Int32).toInt := by rw [eS_60]; rfl
                      refine D_ite (fun c64 => ?_) (fun c64 => ?_)
                      · have kc64 := tq_eq (x := (S_60 0 51)) (y := (0 : Int32)) rfl (b := 0) (by decide) c64
                        exfalso
                        exact (by clear hx1 n1 n3 kc2 kc4 n6 kc8 n10 hy12 kc46 n48 kc47; omega)
                      · have kc64 := tq_eqn (x := (S_60 0 51)) (y := (0 : Int32)) rfl (b := 0) (by decide) c64
                        exact D_some (show (iR BM S_60) ∧ (aT S S_60) ∧ (pI S_60) from ⟨hS_60, kaT_t61, kpI_t62⟩)
                  · skip
                    refine D_bd (t_X8_compares (S 39 x1.toNatClampNeg) y7 y11 ) (fun r65 eq67 hq66 => ?_)
                    have p68 : 0 ≤ r65.toInt ∧ r65.toInt ≤ 1 := hq66
                    refine D_ite (fun c69 => ?_) (fun c69 => ?_)
                    · have kc69 := tq_eq (x := r65) (y := (0 : Int32)) rfl (b := 0) (by decide) c69
                      exact D_some (show (iR BM S) ∧ (aT S S) ∧ (pI S) from ⟨hS, aT_rfl, dpI⟩)
                    · have kc690 := tq_eqn (x := r65) (y := (0 : Int32)) rfl (b := 0) (by decide) c69
                      have kc69 : 1 ≤ r65.toInt := (by clear hx1 n1 n3 kc2 kc4 n6 kc8 n10 hy12; omega)
                      clear kc690
                      exact D_some (show (iR BM S) ∧ (aT S S) ∧ (pI S) from ⟨hS, aT_rfl, dpI⟩)
set_option maxHeartbeats 1000000 in
set_option maxRecDepth 100000 in
theorem tl_X8_lawOf_L12 (zk38 : Int32) (zaT : Tr) (x1 : Int32) (hx1 : 0 ≤ x1.toInt ∧ x1.toInt ≤ 2) (hzl : 1 ≤ zk38.toInt)   (N : Nat) : ∀ (x2 : Int32) (S : Tr) (L : Lo), aT zaT S → pI S → S 38 x1.toNatClampNeg = zk38 → iR BM S → 0 ≤ x2.toInt ∧ x2.toInt ≤ 1000 → 1000 - x2.toInt < (N : Int) → D (lpF (fun _ _ _ => none) (fB_X8_lawOf_L12 x1) N x2 S L) (fun (q : Int64 × Tr × Lo) => (iR BM (q.2.1)) ∧ (aT zaT (q.2.1)) ∧ (pI (q.2.1))) := by
  induction N with
  | zero =>
    intro x2 S L daT dpI dk38 hS hx2 hN
    exfalso
    omega
  | succ N12 ih =>
    intro x2 S L daT dpI dk38 hS hx2 hN
    have hk12 : ∀ (x2 : Int32) (S : Tr) (L : Lo), aT zaT S → pI S → S 38 x1.toNatClampNeg = zk38 → iR BM S → 0 ≤ x2.toInt ∧ x2.toInt ≤ 1000 → 1000 - x2.toInt < (N12 : Int) → D (lpF (fun _ _ _ => none) (fB_X8_lawOf_L12 x1) N12 x2 S L) (fun (q : Int64 × Tr × Lo) => (iR BM (q.2.1)) ∧ (aT zaT (q.2.1)) ∧ (pI (q.2.1))) := ih
    show D (fB_X8_lawOf_L12 x1 (lpF (fun _ _ _ => none) (fB_X8_lawOf_L12 x1) N12) x2 S L) _
    generalize lpF (fun _ _ _ => none) (fB_X8_lawOf_L12 x1) N12 = k12 at hk12 ⊢
    have hN12 : 1000 - x2.toInt < (N12 : Int) + 1 := by omega
    clear ih
    unfold fB_X8_lawOf_L12
    refine D_ck (okI_of (by clear hzl hx2 hN12 hN; omega) (by clear hzl hx2 hN12 hN; omega)) ?_
    have n9 : 0 ≤ (S 38 x1.toNatClampNeg).toInt ∧ (S 38 x1.toNatClampNeg).toInt ≤ 64 := hS 38 x1.toNatClampNeg
    refine D_ite (fun c8 => ?_) (fun c8 => ?_)
    · have kc8 := tq_le (x := (S 38 x1.toNatClampNeg)) (y := x2) rfl rfl c8
      unfold fJ_X8_lawOf_J39
      have n11 : 0 ≤ (S 0 51).toInt ∧ (S 0 51).toInt ≤ 1 := hS 0 51
      refine D_ite (fun c10 => ?_) (fun c10 => ?_)
      · have kc10 := tq_eq (x := (S 0 51)) (y := (0 : Int32)) rfl (b := 0) (by decide) c10
        refine D_ck (okI_of (by clear hzl hx2 hN12 hN n9 kc8 n11 kc10; omega) (by clear hzl hx2 hN12 hN n9 kc8 n11 kc10; omega)) ?_
        have kz12 : (S 38 x1.toNatClampNeg).toInt = zk38.toInt := congrArg Int32.toInt dk38
        have n13 : ((S 38 x1.toNatClampNeg) - 1).toInt = (S 38 x1.toNatClampNeg).toInt - 1 := i_subK rfl (by decide) (by clear hx1 hN12 hN n11 kc10; omega) (by clear hx1 hN12 hN n11 kc10; omega)
        refine D_ck (okI_of (by clear hx1 hN12 hN n11 kc10; omega) (by clear hx1 hN12 hN n11 kc10; omega)) ?_
        exact D_some (show (iR BM S) ∧ (aT zaT S) ∧ (pI S) from ⟨hS, daT, dpI⟩)
      · have kc100 := tq_eqn (x := (S 0 51)) (y := (0 : Int32)) rfl (b := 0) (by decide) c10
        have kc10 : 1 ≤ (S 0 51).toInt := (by clear hx1 hzl hx2 hN12 hN n9 kc8; omega)
        clear kc100
        exact D_some (show (iR BM S) ∧ (aT zaT S) ∧ (pI S) from ⟨hS, daT, dpI⟩)
    · have kc8 := tq_len (x := (S 38 x1.toNatClampNeg)) (y := x2) rfl rfl c8
      refine D_bd2 (t_X8_valueOf S L x2 hS dpI ⟨(by clear hx1 hzl hN12 hN; omega), (by clear hx1 hzl hN12 hN; omega)⟩) (fun r14 S_15 eq17 hq16 => ?_)
      refine D_lte (y := r14) rfl ?_
      refine D_lte (y := S_15) rfl ?_
      obtain ⟨p18, p19, p20⟩ : (iR BM S_15) ∧ (aT S S_15) ∧ (pI S_15) := hq16
      have k21 : aT zaT S_15 := aT_tr daT p19
      have kk38_t22 : S_15 38 x1.toNatClampNeg = zk38 := ((p19 38 _ rfl).trans dk38)
      refine D_ck (okI_of (by clear hx1 hzl hN12 hN; omega) (by clear hx1 hzl hN12 hN; omega)) ?_
      refine D_lt (fun L_23 eL_23 => ?_)
      have n25 : (x2 + 1).toInt = x2.toInt + 1 := i_addK rfl (by decide) (by clear hx1 hzl hN12 hN; omega) (by clear hx1 hzl hN12 hN; omega)
      refine D_lt (fun y24 ey24 => ?_)
      have hy24 : y24.toInt = (x2 + 1 : Int32).toInt := by rw [ey24]
      exact hk12 y24 S_15 L_23 k21 p20 kk38_t22 p18 ⟨(by clear hx1 hzl hN12 hN; omega), (by clear hx1 hzl hN12 hN; omega)⟩ (by omega)
set_option maxHeartbeats 1000000 in
set_option maxRecDepth 100000 in
theorem t_X8_lawOf (S : Tr) (L : Lo) (x1 : Int32) (hS : iR BM S) (dpI : pI S) (hx1 : 0 ≤ x1.toInt ∧ x1.toInt ≤ 2) (hlt : 1 ≤ (S 38 x1.toNatClampNeg).toInt) : D (f_X8_lawOf S L x1) (fun (q : Int64 × Tr × Lo) => (iR BM (q.2.1)) ∧ (aT S (q.2.1)) ∧ (pI (q.2.1))) := by
  unfold f_X8_lawOf
  have l0 : (0 : Int32).toInt = 0 := by decide
  refine D_lt (fun S_1 eS_1 => ?_)
  have hS_1 : iR BM S_1 := by rw [eS_1]; exact iR_set hS (show (0 : Int) ≤ _ from (by omega)) (show _ ≤ (1 : Int) from (by omega))
  have kaT_t2 : aT S S_1 := (by rw [eS_1]; exact aT_set aT_rfl rfl)
  have kpI_t3 : pI S_1 := by rw [eS_1]; exact dpI
  have kk38_t4 : S_1 38 x1.toNatClampNeg = (S 38 x1.toNatClampNeg) := by rw [eS_1]; exact rfl
  have n5 : (S_1 0 51).toInt = (0 : Int32).toInt := by rw [eS_1]; rfl
  refine D_ck (okI_of (by omega) (by omega)) ?_
  refine D_lt (fun y6 ey6 => ?_)
  have n7 : 0 ≤ (S_1 37 x1.toNatClampNeg).toInt ∧ (S_1 37 x1.toNatClampNeg).toInt ≤ 64 := hS_1 37 x1.toNatClampNeg
  have hy6 : y6.toInt = (S_1 37 x1.toNatClampNeg).toInt := by rw [ey6]
  exact tl_X8_lawOf_L12 (S 38 x1.toNatClampNeg) S x1 ⟨(by clear hlt n5 n7 hy6; omega), (by clear hlt n5 n7 hy6; omega)⟩ hlt   2000 y6 S_1 L kaT_t2 kpI_t3 kk38_t4 hS_1 ⟨(by clear hx1 hlt n5; omega), (by clear hx1 hlt n5; omega)⟩ (by clear hx1 hlt n5; omega)
set_option maxHeartbeats 1000000 in
set_option maxRecDepth 100000 in
theorem t_X8_boundLaw (S : Tr) (L : Lo) (x1 : Int32) (x2 : Int32) (x3 : Int32) (hS : iR BM S) (dpI : pI S) (hx1 : 0 ≤ x1.toInt ∧ x1.toInt ≤ 2) : D (f_X8_boundLaw S L x1 x2 x3) (fun (q : Int32 × Tr × Lo) => (iR BM (q.2.1)) ∧ (aT S (q.2.1)) ∧ (pI (q.2.1))) := by
  unfold f_X8_boundLaw
  refine D_ck (okI_of (by omega) (by omega)) ?_
  have n2 := i_rng (S 36 x1.toNatClampNeg)
  refine D_ite (fun c1 => ?_) (fun c1 => ?_)
  · have kc1 := tq_eq (x := (S 36 x1.toNatClampNeg)) (y := (0 : Int32)) rfl (b := 0) (by decide) c1
    have n3 := i_rng x2
    exact D_some (show (iR BM S) ∧ (aT S S) ∧ (pI S) from ⟨hS, aT_rfl, dpI⟩)
  · skip
    refine D_bd3 (t_X8_lawOf S L x1 hS dpI ⟨(by omega), (by omega)⟩ (dpI.2.1 x1.toNatClampNeg (i_n (by omega) (by omega)) (by assumption))) (fun r4 S_5 L_6 eq8 hq7 => ?_)
    refine D_lte (y := r4) rfl ?_
    refine D_lte (y := S_5) rfl ?_
    refine D_lte (y := L_6) rfl ?_
    obtain ⟨p9, p10, p11⟩ : (iR BM S_5) ∧ (aT S S_5) ∧ (pI S_5) := hq7
    have k12 : aT S S_5 := p10
    have n14 : 0 ≤ (S_5 0 51).toInt ∧ (S_5 0 51).toInt ≤ 1 := p9 0 51
    refine D_ite (fun c13 => ?_) (fun c13 => ?_)
    · have kc13 := tq_eq (x := (S_5 0 51)) (y := (0 : Int32)) rfl (b := 0) (by decide) c13
      refine D_ite (fun c15 => ?_) (fun c15 => ?_)
      · skip
        refine D_ite (fun c16 => ?_) (fun c16 => ?_)
        · skip
          have n17 := i_rng r4.toInt32
          exact D_some (show (iR BM S_5) ∧ (aT S S_5) ∧ (pI S_5) from ⟨p9, k12, p11⟩)
        · skip
          have n18 := i_rng x3
          exact D_some (show (iR BM S_5) ∧ (aT S S_5) ∧ (pI S_5) from ⟨p9, k12, p11⟩)
      · skip
        have l0 : (0 : Int32).toInt = 0 := by decide
        exact D_some (show (iR BM S_5) ∧ (aT S S_5) ∧ (pI S_5) from ⟨p9, k12, p11⟩)
    · have kc130 := tq_eqn (x := (S_5 0 51)) (y := (0 : Int32)) rfl (b := 0) (by decide) c13
      have kc13 : 1 ≤ (S_5 0 51).toInt := (by omega)
      clear kc130
      have n19 := i_rng x2
      exact D_some (show (iR BM S_5) ∧ (aT S S_5) ∧ (pI S_5) from ⟨p9, k12, p11⟩)
set_option maxHeartbeats 1000000 in
set_option maxRecDepth 100000 in
theorem t_X8_liftOf (S : Tr) (L : Lo) (x1 : Int32) (x2 : Int32) (x3 : Int32) (hS : iR BM S) (dpI : pI S) (hx1 : 0 ≤ x1.toInt ∧ x1.toInt ≤ 1) (hx2 : 0 ≤ x2.toInt ∧ x2.toInt ≤ 9) (hx3 : 0 ≤ x3.toInt ∧ x3.toInt ≤ 5) (hg : gS x1.toNatClampNeg S) (hly : 0 ≤ (S 54 (((10 : Int32) * x1) + x2).toNatClampNeg).toInt) (hab : 1 ≤ (S 58 (((6 : Int32) * x1) + x3).toNatClampNeg).toInt) : D (f_X8_liftOf S L x1 x2 x3) (fun (q : Int32 × Tr × Lo) => (iR BM (q.2.1)) ∧ (aT S (q.2.1)) ∧ (pI (q.2.1))) := by
  unfold f_X8_liftOf
  refine D_bd (t_X8_layNames S L x1 x2 x3 hS ⟨(by clear hx2 hx3 hly hab; omega), (by clear hx2 hx3 hly hab; omega)⟩ ⟨(by clear hx1 hx3 hly hab; omega), (by clear hx1 hx3 hly hab; omega)⟩ ⟨(by clear hx1 hx2 hly hab; omega), (by clear hx1 hx2 hly hab; omega)⟩ hg hly) (fun L_1 eq3 hq2 => ?_)
  refine D_ck (okI_of (by clear hx1 hx3 hly hab; omega) (by clear hx1 hx3 hly hab; omega)) ?_
  refine D_bd (t_X8_ableOf S x1 x3 hS ⟨(by clear hx2 hx3 hly hab; omega), (by clear hx2 hx3 hly hab; omega)⟩ ⟨(by clear hx1 hx2 hly hab; omega), (by clear hx1 hx2 hly hab; omega)⟩) (fun r4 eq6 hq5 => ?_)
  have p7 : 1 ≤ (S 58 (((6 : Int32) * x1) + x3).toNatClampNeg).toInt → 1 ≤ r4.toInt := hq5
  have n8 := i_rng r4
  have l0 : (0 : Int32).toInt = 0 := by decide
  refine D_ck (ok_ne (by clear hx1 hx2 hx3 hly; omega)) ?_
  have n9 := i_rng (((S 31 x2.toNatClampNeg) / r4) + 1)
  have l99 : (99 : Int32).toInt = 99 := by decide
  refine D_bd3 (t_X8_boundLaw S L_1 (0 : Int32) (((S 31 x2.toNatClampNeg) / r4) + 1) (99 : Int32) hS dpI ⟨(by clear hx1 hx2 hx3 hly hab p7 n8 n9; omega), (by clear hx1 hx2 hx3 hly hab p7 n8 n9; omega)⟩) (fun r10 S_11 L_12 eq14 hq13 => ?_)
  refine D_lte (y := r10) rfl ?_
  refine D_lte (y := S_11) rfl ?_
  refine D_lte (y := L_12) rfl ?_
  obtain ⟨p15, p16, p17⟩ : (iR BM S_11) ∧ (aT S S_11) ∧ (pI S_11) := hq13
  have n18 := i_rng r10
  have k19 : aT S S_11 := p16
  exact D_some (show (iR BM S_11) ∧ (aT S S_11) ∧ (pI S_11) from ⟨p15, k19, p17⟩)
set_option maxHeartbeats 1000000 in
set_option maxRecDepth 100000 in
theorem tl_X8_secondsOf_L23 (zaT : Tr) (x1 : Int32) (x2 : Int32) (x3 : Int32) (hx1 : 0 ≤ x1.toInt ∧ x1.toInt ≤ 1) (hx2 : 0 ≤ x2.toInt ∧ x2.toInt ≤ 9) (hx3 : 0 ≤ x3.toInt ∧ x3.toInt ≤ 4)   (N : Nat) : ∀ (x4 : Int32) (x5 : Int32) (S : Tr) (L : Lo), aT zaT S → pI S → gI x1.toNatClampNeg S → iR BM S → 0 ≤ x5.toInt ∧ x5.toInt ≤ 1000 → x2.toInt < (S 0 14).toInt → 1000 - x5.toInt < (N : Int) → D (lpF (fun _ _ _ _ => none) (fB_X8_secondsOf_L23 x1 x2 x3) N x4 x5 S L) (fun (q : Int32 × Tr × Lo) => (iR BM (q.2.1)) ∧ (aT zaT (q.2.1)) ∧ (pI (q.2.1)) ∧ (gI x1.toNatClampNeg (q.2.1))) := by
  induction N with
  | zero =>
    intro x4 x5 S L daT dpI dgI hS hx5 hip hN
    exfalso
    omega
  | succ N23 ih =>
    intro x4 x5 S L daT dpI dgI hS hx5 hip hN
    have hk23 : ∀ (x4 : Int32) (x5 : Int32) (S : Tr) (L : Lo), aT zaT S → pI S → gI x1.toNatClampNeg S → iR BM S → 0 ≤ x5.toInt ∧ x5.toInt ≤ 1000 → x2.toInt < (S 0 14).toInt → 1000 - x5.toInt < (N23 : Int) → D (lpF (fun _ _ _ _ => none) (fB_X8_secondsOf_L23 x1 x2 x3) N23 x4 x5 S L) (fun (q : Int32 × Tr × Lo) => (iR BM (q.2.1)) ∧ (aT zaT (q.2.1)) ∧ (pI (q.2.1)) ∧ (gI x1.toNatClampNeg (q.2.1))) := ih
    show D (fB_X8_secondsOf_L23 x1 x2 x3 (lpF (fun _ _ _ _ => none) (fB_X8_secondsOf_L23 x1 x2 x3) N23) x4 x5 S L) _
    generalize lpF (fun _ _ _ _ => none) (fB_X8_secondsOf_L23 x1 x2 x3) N23 = k23 at hk23 ⊢
    have hN23 : 1000 - x5.toInt < (N23 : Int) + 1 := by omega
    clear ih
    unfold fB_X8_secondsOf_L23
    have n11 : 0 ≤ (S 0 14).toInt ∧ (S 0 14).toInt ≤ 10 := hS 0 14
    have n12 := i_mulL (a := (5 : Int32)) (b := x1) 5 (by decide) (by clear hx2 hx3 hx5 hip hN23 hN n11; omega) (by clear hx2 hx3 hx5 hip hN23 hN n11; omega)
    have n13 : (((5 : Int32) * x1) + x3).toInt = ((5 : Int32) * x1).toInt + x3.toInt := i_addK rfl rfl (by clear hx2 hx5 hip hN23 hN n11; omega) (by clear hx2 hx5 hip hN23 hN n11; omega)
    refine D_ck (okI_of (by clear hx2 hx5 hip hN23 hN n11; omega) (by clear hx2 hx5 hip hN23 hN n11; omega)) ?_
    have n15 : 0 ≤ (S 56 (((5 : Int32) * x1) + x3).toNatClampNeg).toInt ∧ (S 56 (((5 : Int32) * x1) + x3).toNatClampNeg).toInt ≤ 10 := hS 56 ((((5 : Int32) * x1) + x3).toNatClampNeg)
    refine D_ite (fun c14 => ?_) (fun c14 => ?_)
    · have kc14 := tq_le (x := (S 56 (((5 : Int32) * x1) + x3).toNatClampNeg)) (y := x5) rfl rfl c14
      have n16 := i_rng x4
      exact D_some (show (iR BM S) ∧ (aT zaT S) ∧ (pI S) ∧ (gI x1.toNatClampNeg S) from ⟨hS, daT, dpI, dgI⟩)
    · have kc14 := tq_len (x := (S 56 (((5 : Int32) * x1) + x3).toNatClampNeg)) (y := x5) rfl rfl c14
      refine D_bd (t_X8_stackAt2 S x1 x3 x5 hS ⟨(by clear hx2 hx5 hip hN23 hN n11 n15 kc14; omega), (by clear hx2 hx5 hip hN23 hN n11 n15 kc14; omega)⟩ ⟨(by clear hx2 hx5 hip hN23 hN n11 n15 kc14; omega), (by clear hx2 hx5 hip hN23 hN n11 n15 kc14; omega)⟩ ⟨(by clear hx1 hx2 hx3 hip hN23 hN n11 n12 n13; omega), (by clear hx1 hx2 hx3 hip hN23 hN n11 n12 n13; omega)⟩) (fun r17 eq19 hq18 => ?_)
      obtain ⟨p20, p21⟩ : (0 ≤ r17.toInt ∧ r17.toInt ≤ 9) ∧ (r17 = S 55 (50 * x1.toNatClampNeg + 10 * x3.toNatClampNeg + x5.toNatClampNeg)) := hq18
      refine D_ck (okI_of (by clear hx1 hx3 hx5 hN23 hN n12 n13 n15 kc14 p20; omega) (by clear hx1 hx3 hx5 hN23 hN n12 n13 n15 kc14 p20; omega)) ?_
      have n22 : 0 ≤ (S 30 x2.toNatClampNeg).toInt ∧ (S 30 x2.toNatClampNeg).toInt ≤ 5 := hS 30 x2.toNatClampNeg
      refine D_bd3 (t_X8_liftOf S L x1 r17 (S 30 x2.toNatClampNeg) hS dpI ⟨(by clear hx2 hx5 hip hN23 hN n11 n15 kc14 p20 n22; omega), (by clear hx2 hx5 hip hN23 hN n11 n15 kc14 p20 n22; omega)⟩ ⟨(by clear hx1 hx2 hx3 hx5 hip hN23 hN n11 n12 n13 n15 kc14 n22; omega), (by clear hx1 hx2 hx3 hx5 hip hN23 hN n11 n12 n13 n15 kc14 n22; omega)⟩ ⟨(by clear hx1 hx2 hx3 hx5 hip hN23 hN n11 n12 n13 n15 kc14 p20; omega), (by clear hx1 hx2 hx3 hx5 hip hN23 hN n11 n12 n13 n15 kc14 p20; omega)⟩ dgI.1 (sk_ly dgI.1 hS hx1 hx3 (by clear hx1 hx2 hx3 hip hN23 hN n11 n12 n13 p20 n22; omega) (by clear hx1 hx2 hx3 hip hN23 hN n11 n12 n13 p20 n22; omega) p21).1 (ab_of hS dpI dgI.2.2 hx1 hx2 (by clear hx1 hx3 hx5 hN23 hN n12 n13 n15 kc14 p20 n22; omega))) (fun r23 S_24 L_25 eq27 hq26 => ?_)
      refine D_lte (y := r23) rfl ?_
      refine D_lte (y := S_24) rfl ?_
      refine D_lte (y := L_25) rfl ?_
      obtain ⟨p28, p29, p30⟩ : (iR BM S_24) ∧ (aT S S_24) ∧ (pI S_24) := hq26
      have n31 := i_rng r23
      have k32 : aT zaT S_24 := aT_tr daT p29
      have n33 : (S_24 0 14).toInt = (S 0 14).toInt := congrArg Int32.toInt (p29 0 _ rfl)
      have kgI_t34 : gI x1.toNatClampNeg S_24 := (gI_aT dgI p29)
      refine D_lt (fun y35 ey35 => ?_)
      have n36 := i_rng (x4 + r23)
      have hy35 : y35.toInt = (x4 + r23).toInt := by rw [ey35]
      have n38 : (x5 + 1).toInt = x5.toInt + 1 := i_addK rfl (by decide) (by clear hx1 hx2 hx3 hip hN23 hN n11 n12 n13 p20 n22 n31 n33 n36 hy35; omega) (by clear hx1 hx2 hx3 hip hN23 hN n11 n12 n13 p20 n22 n31 n33 n36 hy35; omega)
      refine D_lt (fun y37 ey37 => ?_)
      have hy37 : y37.toInt = (x5 + 1 : Int32).toInt := by rw [ey37]
      exact hk23 y35 y37 S_24 L_25 k32 p30 kgI_t34 p28 ⟨(by clear hx1 hx2 hx3 hip hN23 hN n11 n12 n13 p20 n22 n31 n33 n36 hy35; omega), (by clear hx1 hx2 hx3 hip hN23 hN n11 n12 n13 p20 n22 n31 n33 n36 hy35; omega)⟩ (by clear hx1 hx3 hx5 hN23 hN n12 n13 n15 kc14 p20 n22 n31 n36 hy35 n38 hy37; omega) (by clear hx1 hx2 hx3 hip n11 n12 n13 p20 n22 n31 n33 n36 hy35; omega)
set_option maxHeartbeats 1000000 in
set_option maxRecDepth 100000 in
theorem t_X8_secondsOf (S : Tr) (L : Lo) (x1 : Int32) (x2 : Int32) (hS : iR BM S) (dpI : pI S) (dgI : gI x1.toNatClampNeg S) (hx1 : 0 ≤ x1.toInt ∧ x1.toInt ≤ 1) (hx2 : 0 ≤ x2.toInt ∧ x2.toInt ≤ 9) (hly : 0 ≤ (S 54 (((10 : Int32) * x1) + x2).toNatClampNeg).toInt) (hip : x2.toInt < (S 0 14).toInt) : D (f_X8_secondsOf S L x1 x2) (fun (q : Int32 × Tr × Lo) => (iR BM (q.2.1)) ∧ (aT S (q.2.1)) ∧ (pI (q.2.1)) ∧ (gI x1.toNatClampNeg (q.2.1))) := by
  unfold f_X8_secondsOf
  have n1 := i_mulL (a := (10 : Int32)) (b := x1) 10 (by decide) (by clear hx2 hly hip; omega) (by clear hx2 hly hip; omega)
  have n2 : (((10 : Int32) * x1) + x2).toInt = ((10 : Int32) * x1).toInt + x2.toInt := i_addK rfl rfl (by omega) (by omega)
  refine D_ck (okI_of (by omega) (by omega)) ?_
  refine D_lt (fun y3 ey3 => ?_)
  have n4 : (-1) ≤ (S 54 (((10 : Int32) * x1) + x2).toNatClampNeg).toInt ∧ (S 54 (((10 : Int32) * x1) + x2).toNatClampNeg).toInt ≤ 4 := hS 54 ((((10 : Int32) * x1) + x2).toNatClampNeg)
  have hy3 : y3.toInt = (S 54 (((10 : Int32) * x1) + x2).toNatClampNeg).toInt := by rw [ey3]
  refine D_bd (t_X8_belowOf S x1 x2 hS ⟨(by clear hly n4 hy3; omega), (by clear hly n4 hy3; omega)⟩ ⟨(by clear hly n4 hy3; omega), (by clear hly n4 hy3; omega)⟩ dgI.1 (by first | assumption | exact (by clear hx1 hx2 hip n1 n2; omega))) (fun r5 eq7 hq6 => ?_)
  obtain ⟨p8, p9, p10⟩ : (0 ≤ r5.toInt ∧ r5.toInt ≤ 9) ∧ (r5.toInt < (S 56 (((5 : Int32) * x1) + (S 54 (((10 : Int32) * x1) + x2).toNatClampNeg)).toNatClampNeg).toInt) ∧ (S 55 (50 * x1.toNatClampNeg + 10 * (S 54 (((10 : Int32) * x1) + x2).toNatClampNeg).toNatClampNeg + r5.toNatClampNeg) = x2) := hq6
  have l0 : (0 : Int32).toInt = 0 := by decide
  have n39 : 0 ≤ (S 0 14).toInt ∧ (S 0 14).toInt ≤ 10 := hS 0 14
  exact tl_X8_secondsOf_L23 S x1 x2 y3 ⟨(by clear hly n4 hy3 p8 p9; omega), (by clear hly n4 hy3 p8 p9; omega)⟩ ⟨(by clear hly n4 hy3 p8 p9; omega), (by clear hly n4 hy3 p8 p9; omega)⟩ ⟨(by clear hx1 hx2 hip n1 n2 p8 p9; omega), (by clear hx1 hx2 hip n1 n2 p8 p9; omega)⟩   2000 (0 : Int32) r5 S L aT_rfl dpI dgI hS ⟨(by clear hx1 hx2 hly hip n1 n2 n4 hy3; omega), (by clear hx1 hx2 hly hip n1 n2 n4 hy3; omega)⟩ (by clear hly n4 hy3 p8 p9; omega) (by clear hx1 hx2 hly hip n1 n2 n4 hy3 n39; omega)
set_option maxHeartbeats 1000000 in
set_option maxRecDepth 100000 in
theorem tl_X8_hasAny_L2 (S : Tr) (x1 : Int32) (x2 : Int32) (hS : iR BM S) (hx1 : 0 ≤ x1.toInt ∧ x1.toInt ≤ 1)   (N : Nat) : ∀ (x3 : Int32), 0 ≤ x3.toInt ∧ x3.toInt ≤ 1000 → 1000 - x3.toInt < (N : Int) → D (lpF (fun _ => none) (fB_X8_hasAny_L2 S x1 x2) N x3) (fun (q : Int32) => (0 ≤ q.toInt ∧ q.toInt ≤ 1)) := by
  induction N with
  | zero =>
    intro x3 hx3 hN
    exfalso
    omega
  | succ N2 ih =>
    intro x3 hx3 hN
    have hk2 : ∀ (x3 : Int32), 0 ≤ x3.toInt ∧ x3.toInt ≤ 1000 → 1000 - x3.toInt < (N2 : Int) → D (lpF (fun _ => none) (fB_X8_hasAny_L2 S x1 x2) N2 x3) (fun (q : Int32) => (0 ≤ q.toInt ∧ q.toInt ≤ 1)) := ih
    show D (fB_X8_hasAny_L2 S x1 x2 (lpF (fun _ => none) (fB_X8_hasAny_L2 S x1 x2) N2) x3) _
    generalize lpF (fun _ => none) (fB_X8_hasAny_L2 S x1 x2) N2 = k2 at hk2 ⊢
    have hN2 : 1000 - x3.toInt < (N2 : Int) + 1 := by omega
    clear ih
    unfold fB_X8_hasAny_L2
    have n2 : 0 ≤ (S 0 14).toInt ∧ (S 0 14).toInt ≤ 10 := hS 0 14
    refine D_ite (fun c1 => ?_) (fun c1 => ?_)
    · have kc1 := tq_le (x := (S 0 14)) (y := x3) rfl rfl c1
      have l0 : (0 : Int32).toInt = 0 := by decide
      exact D_some (show (0 ≤ (0 : Int32).toInt ∧ (0 : Int32).toInt ≤ 1) from ⟨(by clear hx1 hx3 hN2 hN n2 kc1; omega), (by clear hx1 hx3 hN2 hN n2 kc1; omega)⟩)
    · have kc1 := tq_len (x := (S 0 14)) (y := x3) rfl rfl c1
      refine D_ck (okI_of (by clear hx1 hN2 hN; omega) (by clear hx1 hN2 hN; omega)) ?_
      have n4 : 0 ≤ (S 30 x3.toNatClampNeg).toInt ∧ (S 30 x3.toNatClampNeg).toInt ≤ 5 := hS 30 x3.toNatClampNeg
      have n5 := i_rng x2
      refine D_ite (fun c3 => ?_) (fun c3 => ?_)
      · have kc3 := tq_eq (x := (S 30 x3.toNatClampNeg)) (y := x2) rfl rfl c3
        have n6 := i_mulL (a := (10 : Int32)) (b := x1) 10 (by decide) (by clear hx3 hN2 hN n2 kc1 n4 n5 kc3; omega) (by clear hx3 hN2 hN n2 kc1 n4 n5 kc3; omega)
        have n7 : (((10 : Int32) * x1) + x3).toInt = ((10 : Int32) * x1).toInt + x3.toInt := i_addK rfl rfl (by clear hN2 hN n4 n5 kc3; omega) (by clear hN2 hN n4 n5 kc3; omega)
        refine D_ck (okI_of (by clear hN2 hN n4 n5 kc3; omega) (by clear hN2 hN n4 n5 kc3; omega)) ?_
        have n9 : 0 ≤ (S 53 (((10 : Int32) * x1) + x3).toNatClampNeg).toInt ∧ (S 53 (((10 : Int32) * x1) + x3).toNatClampNeg).toInt ≤ 5 := hS 53 ((((10 : Int32) * x1) + x3).toNatClampNeg)
        refine D_ite (fun c8 => ?_) (fun c8 => ?_)
        · have kc8 := tq_eq (x := (S 53 (((10 : Int32) * x1) + x3).toNatClampNeg)) (y := (1 : Int32)) rfl (b := 1) (by decide) c8
          have l1 : (1 : Int32).toInt = 1 := by decide
          exact D_some (show (0 ≤ (1 : Int32).toInt ∧ (1 : Int32).toInt ≤ 1) from ⟨(by clear hx1 hx3 hN2 hN n2 kc1 n4 n5 kc3 n6 n7 n9 kc8; omega), (by clear hx1 hx3 hN2 hN n2 kc1 n4 n5 kc3 n6 n7 n9 kc8; omega)⟩)
        · skip
          have n11 : (x3 + 1).toInt = x3.toInt + 1 := i_addK rfl (by decide) (by clear hN2 hN n4 n5 kc3 n9; omega) (by clear hN2 hN n4 n5 kc3 n9; omega)
          refine D_lt (fun y10 ey10 => ?_)
          have hy10 : y10.toInt = (x3 + 1 : Int32).toInt := by rw [ey10]
          exact hk2 y10 ⟨(by clear hN2 hN n4 n5 kc3 n9; omega), (by clear hN2 hN n4 n5 kc3 n9; omega)⟩ (by clear n4 n5 kc3 n9; omega)
      · skip
        have n13 : (x3 + 1).toInt = x3.toInt + 1 := i_addK rfl (by decide) (by clear hx1 hN2 hN n4 n5; omega) (by clear hx1 hN2 hN n4 n5; omega)
        refine D_lt (fun y12 ey12 => ?_)
        have hy12 : y12.toInt = (x3 + 1 : Int32).toInt := by rw [ey12]
        exact hk2 y12 ⟨(by clear hx1 hN2 hN n4 n5; omega), (by clear hx1 hN2 hN n4 n5; omega)⟩ (by clear hx1 n4 n5; omega)
set_option maxHeartbeats 1000000 in
set_option maxRecDepth 100000 in
theorem t_X8_hasAny (S : Tr) (x1 : Int32) (x2 : Int32) (hS : iR BM S) (hx1 : 0 ≤ x1.toInt ∧ x1.toInt ≤ 1) : D (f_X8_hasAny S x1 x2) (fun (q : Int32) => (0 ≤ q.toInt ∧ q.toInt ≤ 1)) := by
  unfold f_X8_hasAny
  have l0 : (0 : Int32).toInt = 0 := by decide
  have n14 := i_rng x2
  exact tl_X8_hasAny_L2 S x1 x2 hS ⟨(by omega), (by omega)⟩   2000 (0 : Int32) ⟨(by omega), (by omega)⟩ (by omega)
set_option maxHeartbeats 1000000 in
set_option maxRecDepth 100000 in
theorem tl_X8_outs_L261 (zkn : Int32) (zaG : Tr) (L : Lo) (x1 : Int32) (hx1 : 0 ≤ x1.toInt ∧ x1.toInt ≤ 1)   (N : Nat) : ∀ (x3 : Int32) (S : Tr), aG x1.toNatClampNeg zaG S → pI S → gI x1.toNatClampNeg S → S 62 x1.toNatClampNeg = zkn → iR BM S → 0 ≤ x3.toInt ∧ x3.toInt ≤ 1000 → 1000 - x3.toInt < (N : Int) → D (lpF (fun _ _ => none) (fB_X8_outs_L261 L x1) N x3 S) (fun (q : Tr × Lo) => (iR BM (q.1)) ∧ (aG x1.toNatClampNeg zaG (q.1)) ∧ (pI (q.1)) ∧ (gI x1.toNatClampNeg (q.1)) ∧ ((q.1) 62 x1.toNatClampNeg = zkn)) := by
  induction N with
  | zero =>
    intro x3 S daG dpI dgI dkn hS hx3 hN
    exfalso
    omega
  | succ N261 ih =>
    intro x3 S daG dpI dgI dkn hS hx3 hN
    have hk261 : ∀ (x3 : Int32) (S : Tr), aG x1.toNatClampNeg zaG S → pI S → gI x1.toNatClampNeg S → S 62 x1.toNatClampNeg = zkn → iR BM S → 0 ≤ x3.toInt ∧ x3.toInt ≤ 1000 → 1000 - x3.toInt < (N261 : Int) → D (lpF (fun _ _ => none) (fB_X8_outs_L261 L x1) N261 x3 S) (fun (q : Tr × Lo) => (iR BM (q.1)) ∧ (aG x1.toNatClampNeg zaG (q.1)) ∧ (pI (q.1)) ∧ (gI x1.toNatClampNeg (q.1)) ∧ ((q.1) 62 x1.toNatClampNeg = zkn)) := ih
    show D (fB_X8_outs_L261 L x1 (lpF (fun _ _ => none) (fB_X8_outs_L261 L x1) N261) x3 S) _
    generalize lpF (fun _ _ => none) (fB_X8_outs_L261 L x1) N261 = k261 at hk261 ⊢
    have hN261 : 1000 - x3.toInt < (N261 : Int) + 1 := by omega
    clear ih
    unfold fB_X8_outs_L261
    have n19 : 0 ≤ (S 0 14).toInt ∧ (S 0 14).toInt ≤ 10 := hS 0 14
    have n20 : 0 ≤ (S 0 13).toInt ∧ (S 0 13).toInt ≤ 6 := hS 0 13
    have n21 : 0 ≤ (S 0 12).toInt ∧ (S 0 12).toInt ≤ 5 := hS 0 12
    refine D_ite (fun c22 => ?_) (fun c22 => ?_)
    · have kc22 := tq_le (x := (S 0 13)) (y := x3) rfl rfl c22
      exact D_some (show (iR BM S) ∧ (aG x1.toNatClampNeg zaG S) ∧ (pI S) ∧ (gI x1.toNatClampNeg S) ∧ (S 62 x1.toNatClampNeg = zkn) from ⟨hS, daG, dpI, dgI, dkn⟩)
    · have kc22 := tq_len (x := (S 0 13)) (y := x3) rfl rfl c22
      have n23 := i_mulL (a := (6 : Int32)) (b := x1) 6 (by decide) (by clear hx3 hN261 hN n19 n20 n21 kc22; omega) (by clear hx3 hN261 hN n19 n20 n21 kc22; omega)
      have n24 : (((6 : Int32) * x1) + x3).toInt = ((6 : Int32) * x1).toInt + x3.toInt := i_addK rfl rfl (by clear hN261 hN n19 n21; omega) (by clear hN261 hN n19 n21; omega)
      refine D_ck (okI_of (by clear hN261 hN n19 n21; omega) (by clear hN261 hN n19 n21; omega)) ?_
      have n26 := i_rng (S 59 (((6 : Int32) * x1) + x3).toNatClampNeg)
      refine D_ite (fun c25 => ?_) (fun c25 => ?_)
      · have kc25 := tq_eq (x := (S 59 (((6 : Int32) * x1) + x3).toNatClampNeg)) (y := (1 : Int32)) rfl (b := 1) (by decide) c25
        refine D_lt (fun S_27 eS_27 => ?_)
        have hS_27 : iR BM S_27 := by rw [eS_27]; exact iR_setU hS rfl
        have kaG_t28 : aG x1.toNatClampNeg zaG S_27 := (by rw [eS_27]; exact aG_set daG (Wb_59 (inB_of (by clear hN261 hN n19 n21 n26 kc25; simp only [i_cl]; omega) (by clear hN261 hN n19 n21 n26 kc25; simp only [i_cl]; omega))))
        have kpI_t29 : pI S_27 := by rw [eS_27]; exact dpI
        have kgI_t30 : gI x1.toNatClampNeg S_27 := by rw [eS_27]; exact dgI
        have kkn_t31 : S_27 62 x1.toNatClampNeg = zkn := by rw [eS_27]; exact dkn
        have n32 : (S_27 0 12).toInt = (S 0 12).toInt := by rw [eS_27]; rfl
        have n33 : (S_27 0 14).toInt = (S 0 14).toInt := by rw [eS_27]; rfl
        have n34 : (S_27 0 13).toInt = (S 0 13).toInt := by rw [eS_27]; rfl
        have n36 : (x3 + 1).toInt = x3.toInt + 1 := i_addK rfl (by decide) (by clear hN261 hN n19 n21 n26 kc25 n32 n33; omega) (by clear hN261 hN n19 n21 n26 kc25 n32 n33; omega)
        refine D_lt (fun y35 ey35 => ?_)
        have hy35 : y35.toInt = (x3 + 1 : Int32).toInt := by rw [ey35]
        exact hk261 y35 S_27 kaG_t28 kpI_t29 kgI_t30 kkn_t31 hS_27 ⟨(by clear hN261 hN n19 n21 n26 kc25 n32 n33; omega), (by clear hN261 hN n19 n21 n26 kc25 n32 n33; omega)⟩ (by clear n19 n21 n26 kc25 n32 n33; omega)
      · skip
        have n38 : (x3 + 1).toInt = x3.toInt + 1 := i_addK rfl (by decide) (by clear hN261 hN n19 n21 n26; omega) (by clear hN261 hN n19 n21 n26; omega)
        refine D_lt (fun y37 ey37 => ?_)
        have hy37 : y37.toInt = (x3 + 1 : Int32).toInt := by rw [ey37]
        exact hk261 y37 S daG dpI dgI dkn hS ⟨(by clear hN261 hN n19 n21 n26; omega), (by clear hN261 hN n19 n21 n26; omega)⟩ (by clear n19 n21 n26; omega)
set_option maxHeartbeats 1000000 in
set_option maxRecDepth 100000 in
theorem tl_X8_outs_L223 (zkn : Int32) (zaG : Tr) (L : Lo) (x1 : Int32) (hx1 : 0 ≤ x1.toInt ∧ x1.toInt ≤ 1)   (N : Nat) : ∀ (x3 : Int32) (S : Tr), aG x1.toNatClampNeg zaG S → pI S → gI x1.toNatClampNeg S → S 62 x1.toNatClampNeg = zkn → iR BM S → 0 ≤ x3.toInt ∧ x3.toInt ≤ 1000 → 1000 - x3.toInt < (N : Int) → D (lpF (fun _ _ => none) (fB_X8_outs_L223 L x1) N x3 S) (fun (q : Tr × Lo) => (iR BM (q.1)) ∧ (aG x1.toNatClampNeg zaG (q.1)) ∧ (pI (q.1)) ∧ (gI x1.toNatClampNeg (q.1)) ∧ ((q.1) 62 x1.toNatClampNeg = zkn)) := by
  induction N with
  | zero =>
    intro x3 S daG dpI dgI dkn hS hx3 hN
    exfalso
    omega
  | succ N223 ih =>
    intro x3 S daG dpI dgI dkn hS hx3 hN
    have hk223 : ∀ (x3 : Int32) (S : Tr), aG x1.toNatClampNeg zaG S → pI S → gI x1.toNatClampNeg S → S 62 x1.toNatClampNeg = zkn → iR BM S → 0 ≤ x3.toInt ∧ x3.toInt ≤ 1000 → 1000 - x3.toInt < (N223 : Int) → D (lpF (fun _ _ => none) (fB_X8_outs_L223 L x1) N223 x3 S) (fun (q : Tr × Lo) => (iR BM (q.1)) ∧ (aG x1.toNatClampNeg zaG (q.1)) ∧ (pI (q.1)) ∧ (gI x1.toNatClampNeg (q.1)) ∧ ((q.1) 62 x1.toNatClampNeg = zkn)) := ih
    show D (fB_X8_outs_L223 L x1 (lpF (fun _ _ => none) (fB_X8_outs_L223 L x1) N223) x3 S) _
    generalize lpF (fun _ _ => none) (fB_X8_outs_L223 L x1) N223 = k223 at hk223 ⊢
    have hN223 : 1000 - x3.toInt < (N223 : Int) + 1 := by omega
    clear ih
    unfold fB_X8_outs_L223
    have n15 : 0 ≤ (S 0 14).toInt ∧ (S 0 14).toInt ≤ 10 := hS 0 14
    have n16 : 0 ≤ (S 0 13).toInt ∧ (S 0 13).toInt ≤ 6 := hS 0 13
    have n17 : 0 ≤ (S 0 12).toInt ∧ (S 0 12).toInt ≤ 5 := hS 0 12
    refine D_ite (fun c18 => ?_) (fun c18 => ?_)
    · have kc18 := tq_le (x := (S 0 14)) (y := x3) rfl rfl c18
      have l0 : (0 : Int32).toInt = 0 := by decide
      exact tl_X8_outs_L261 zkn zaG L x1 ⟨(by clear hx3 hN223 hN n15 n16 n17 kc18; omega), (by clear hx3 hN223 hN n15 n16 n17 kc18; omega)⟩   2000 (0 : Int32) S daG dpI dgI dkn hS ⟨(by clear hx1 hx3 hN223 hN n15 n16 n17 kc18; omega), (by clear hx1 hx3 hN223 hN n15 n16 n17 kc18; omega)⟩ (by clear hx1 hx3 hN223 hN n15 n16 n17 kc18; omega)
    · have kc18 := tq_len (x := (S 0 14)) (y := x3) rfl rfl c18
      have n39 := i_mulL (a := (10 : Int32)) (b := x1) 10 (by decide) (by clear hx3 hN223 hN n15 n16 n17 kc18; omega) (by clear hx3 hN223 hN n15 n16 n17 kc18; omega)
      have n40 : (((10 : Int32) * x1) + x3).toInt = ((10 : Int32) * x1).toInt + x3.toInt := i_addK rfl rfl (by clear hN223 hN n16 n17; omega) (by clear hN223 hN n16 n17; omega)
      refine D_ck (okI_of (by clear hN223 hN n16 n17; omega) (by clear hN223 hN n16 n17; omega)) ?_
      have n42 : 0 ≤ (S 53 (((10 : Int32) * x1) + x3).toNatClampNeg).toInt ∧ (S 53 (((10 : Int32) * x1) + x3).toNatClampNeg).toInt ≤ 5 := hS 53 ((((10 : Int32) * x1) + x3).toNatClampNeg)
      refine D_ite (fun c41 => ?_) (fun c41 => ?_)
      · have kc41 := tq_eq (x := (S 53 (((10 : Int32) * x1) + x3).toNatClampNeg)) (y := (1 : Int32)) rfl (b := 1) (by decide) c41
        have n43 : (-1) ≤ (S 54 (((10 : Int32) * x1) + x3).toNatClampNeg).toInt ∧ (S 54 (((10 : Int32) * x1) + x3).toNatClampNeg).toInt ≤ 4 := hS 54 ((((10 : Int32) * x1) + x3).toNatClampNeg)
        have n44 : 0 ≤ (S 54 (((10 : Int32) * x1) + x3).toNatClampNeg).toInt := ly_of dgI hx1 ⟨(by clear hN223 hN n16 n17 n42 kc41 n43; omega), (by clear hN223 hN n16 n17 n42 kc41 n43; omega)⟩ c41
        have l5 : (5 : Int32).toInt = 5 := by decide
        refine D_bd (t_X8_takes2 S x1 x3 (5 : Int32) hS dgI ⟨(by clear hN223 hN n16 n17 n42 kc41 n43 n44; omega), (by clear hN223 hN n16 n17 n42 kc41 n43 n44; omega)⟩ ⟨(by clear hN223 hN n16 n17 n42 kc41 n43 n44; omega), (by clear hN223 hN n16 n17 n42 kc41 n43 n44; omega)⟩ ⟨(by clear hx1 hx3 hN223 hN n15 n16 n17 kc18 n39 n40 n42 kc41 n43 n44; omega), (by clear hx1 hx3 hN223 hN n15 n16 n17 kc18 n39 n40 n42 kc41 n43 n44; omega)⟩ (by first | assumption | exact (by clear hx1 hx3 hN223 hN n15 n16 n17 kc18 n39 n40 n42 kc41; omega)) (by first | assumption | exact (by clear hx1 hx3 hN223 hN n15 n16 n17 kc18 n39 n40 n42 kc41 n43 n44; omega))) (fun S_45 eq47 hq46 => ?_)
        obtain ⟨p48, p49, p50, p51⟩ : (iR BM S_45) ∧ (gI x1.toNatClampNeg S_45) ∧ (aG x1.toNatClampNeg S S_45) ∧ (S_45 62 x1.toNatClampNeg = (S 62 x1.toNatClampNeg)) := hq46
        have k52 : aG x1.toNatClampNeg zaG S_45 := aG_tr daG p50
        have k53 : S_45 62 x1.toNatClampNeg = zkn := p51.trans dkn
        have n54 : (S_45 0 12).toInt = (S 0 12).toInt := congrArg Int32.toInt (p50 0 _ rfl)
        have n55 : (S_45 0 13).toInt = (S 0 13).toInt := congrArg Int32.toInt (p50 0 _ rfl)
        have n56 : (S_45 0 14).toInt = (S 0 14).toInt := congrArg Int32.toInt (p50 0 _ rfl)
        have kpI_t57 : pI S_45 := (pI_aG dpI p50)
        have n59 : (x3 + 1).toInt = x3.toInt + 1 := i_addK rfl (by decide) (by clear hN223 hN n16 n17 n42 kc41 n43 n44 n54 n55; omega) (by clear hN223 hN n16 n17 n42 kc41 n43 n44 n54 n55; omega)
        refine D_lt (fun y58 ey58 => ?_)
        have hy58 : y58.toInt = (x3 + 1 : Int32).toInt := by rw [ey58]
        exact hk223 y58 S_45 k52 kpI_t57 p49 k53 p48 ⟨(by clear hN223 hN n16 n17 n42 kc41 n43 n44 n54 n55; omega), (by clear hN223 hN n16 n17 n42 kc41 n43 n44 n54 n55; omega)⟩ (by clear n16 n17 n42 kc41 n43 n44 n54 n55; omega)
      · skip
        have n61 : (x3 + 1).toInt = x3.toInt + 1 := i_addK rfl (by decide) (by clear hN223 hN n16 n17 n42; omega) (by clear hN223 hN n16 n17 n42; omega)
        refine D_lt (fun y60 ey60 => ?_)
        have hy60 : y60.toInt = (x3 + 1 : Int32).toInt := by rw [ey60]
        exact hk223 y60 S daG dpI dgI dkn hS ⟨(by clear hN223 hN n16 n17 n42; omega), (by clear hN223 hN n16 n17 n42; omega)⟩ (by clear n16 n17 n42; omega)
set_option maxHeartbeats 1000000 in
set_option maxRecDepth 100000 in
theorem tl_X8_outs_L32 (zkn : Int32) (zaG : Tr) (x1 : Int32) (x3 : Int32) (N9 : Nat) (hx1 : 0 ≤ x1.toInt ∧ x1.toInt ≤ 1) (hx3 : 0 ≤ x3.toInt ∧ x3.toInt ≤ 5) (hN9 : 1000 - x3.toInt < (N9 : Int) + 1) (k9 : Int32 → Int32 → Tr → Lo → Option (Tr × Lo)) (hk9 : ∀ (x2 : Int32) (x3 : Int32) (S : Tr) (L : Lo), aG x1.toNatClampNeg zaG S → pI S → gI x1.toNatClampNeg S → S 62 x1.toNatClampNeg = zkn → iR BM S → 0 ≤ x3.toInt ∧ x3.toInt ≤ 1000 → 1000 - x3.toInt < (N9 : Int) → D (k9 x2 x3 S L) (fun (q : Tr × Lo) => (iR BM (q.1)) ∧ (aG x1.toNatClampNeg zaG (q.1)) ∧ (pI (q.1)) ∧ (gI x1.toNatClampNeg (q.1)) ∧ ((q.1) 62 x1.toNatClampNeg = zkn))) (N : Nat) : ∀ (x2 : Int32) (x4 : Int32) (S : Tr) (L : Lo), aG x1.toNatClampNeg zaG S → pI S → gI x1.toNatClampNeg S → S 62 x1.toNatClampNeg = zkn → iR BM S → 0 ≤ x4.toInt ∧ x4.toInt ≤ 1000 → 1000 - x4.toInt < (N : Int) → D (lpF (fun _ _ _ _ => none) (fB_X8_outs_L32 k9 x1 x3) N x2 x4 S L) (fun (q : Tr × Lo) => (iR BM (q.1)) ∧ (aG x1.toNatClampNeg zaG (q.1)) ∧ (pI (q.1)) ∧ (gI x1.toNatClampNeg (q.1)) ∧ ((q.1) 62 x1.toNatClampNeg = zkn)) := by
  induction N with
  | zero =>
    intro x2 x4 S L daG dpI dgI dkn hS hx4 hN
    exfalso
    omega
  | succ N32 ih =>
    intro x2 x4 S L daG dpI dgI dkn hS hx4 hN
    have hk32 : ∀ (x2 : Int32) (x4 : Int32) (S : Tr) (L : Lo), aG x1.toNatClampNeg zaG S → pI S → gI x1.toNatClampNeg S → S 62 x1.toNatClampNeg = zkn → iR BM S → 0 ≤ x4.toInt ∧ x4.toInt ≤ 1000 → 1000 - x4.toInt < (N32 : Int) → D (lpF (fun _ _ _ _ => none) (fB_X8_outs_L32 k9 x1 x3) N32 x2 x4 S L) (fun (q : Tr × Lo) => (iR BM (q.1)) ∧ (aG x1.toNatClampNeg zaG (q.1)) ∧ (pI (q.1)) ∧ (gI x1.toNatClampNeg (q.1)) ∧ ((q.1) 62 x1.toNatClampNeg = zkn)) := ih
    show D (fB_X8_outs_L32 k9 x1 x3 (lpF (fun _ _ _ _ => none) (fB_X8_outs_L32 k9 x1 x3) N32) x2 x4 S L) _
    generalize lpF (fun _ _ _ _ => none) (fB_X8_outs_L32 k9 x1 x3) N32 = k32 at hk32 ⊢
    have hN32 : 1000 - x4.toInt < (N32 : Int) + 1 := by omega
    clear ih
    unfold fB_X8_outs_L32
    have n70 : 0 ≤ (S 0 14).toInt ∧ (S 0 14).toInt ≤ 10 := hS 0 14
    have n71 : 0 ≤ (S 0 13).toInt ∧ (S 0 13).toInt ≤ 6 := hS 0 13
    have n72 : 0 ≤ (S 0 12).toInt ∧ (S 0 12).toInt ≤ 5 := hS 0 12
    refine D_ite (fun c73 => ?_) (fun c73 => ?_)
    · have kc73 := tq_le (x := (S 0 14)) (y := x4) rfl rfl c73
      unfold fJ_X8_outs_J182
      refine D_bd (t_X8_hasAny S x1 x3 hS ⟨(by clear hx3 hx4 hN9 hN32 hN n70 n71 n72 kc73; omega), (by clear hx3 hx4 hN9 hN32 hN n70 n71 n72 kc73; omega)⟩) (fun r74 eq76 hq75 => ?_)
      have p77 : 0 ≤ r74.toInt ∧ r74.toInt ≤ 1 := hq75
      refine D_ite (fun c78 => ?_) (fun c78 => ?_)
      · have kc78 := tq_eq (x := r74) (y := (0 : Int32)) rfl (b := 0) (by decide) c78
        have n79 := i_mulL (a := (6 : Int32)) (b := x1) 6 (by decide) (by clear hx3 hx4 hN9 hN32 hN n70 n71 n72 kc73 p77 kc78; omega) (by clear hx3 hx4 hN9 hN32 hN n70 n71 n72 kc73 p77 kc78; omega)
        have n80 : (((6 : Int32) * x1) + x3).toInt = ((6 : Int32) * x1).toInt + x3.toInt := i_addK rfl rfl (by clear hx4 hN9 hN32 hN n70 n71 n72 kc73 p77 kc78; omega) (by clear hx4 hN9 hN32 hN n70 n71 n72 kc73 p77 kc78; omega)
        refine D_ck (okI_of (by clear hx4 hN9 hN32 hN n70 n71 n72 kc73 p77 kc78; omega) (by clear hx4 hN9 hN32 hN n70 n71 n72 kc73 p77 kc78; omega)) ?_
        refine D_lt (fun S_81 eS_81 => ?_)
        have hS_81 : iR BM S_81 := by rw [eS_81]; exact iR_setU hS rfl
        have kaG_t82 : aG x1.toNatClampNeg zaG S_81 := (by rw [eS_81]; exact aG_set daG (Wb_59 (inB_of (by clear hx4 hN9 hN32 hN n70 n71 n72 kc73 p77 kc78; simp only [i_cl]; omega) (by clear hx4 hN9 hN32 hN n70 n71 n72 kc73 p77 kc78; simp only [i_cl]; omega))))
        have kpI_t83 : pI S_81 := by rw [eS_81]; exact dpI
        have kgI_t84 : gI x1.toNatClampNeg S_81 := by rw [eS_81]; exact dgI
        have kkn_t85 : S_81 62 x1.toNatClampNeg = zkn := by rw [eS_81]; exact dkn
        have n86 : (S_81 0 12).toInt = (S 0 12).toInt := by rw [eS_81]; rfl
        have n87 : (S_81 0 14).toInt = (S 0 14).toInt := by rw [eS_81]; rfl
        have n88 : (S_81 0 13).toInt = (S 0 13).toInt := by rw [eS_81]; rfl
        have n90 : (x3 + 1).toInt = x3.toInt + 1 := i_addK rfl (by decide) (by clear hx4 hN9 hN32 hN n70 n71 n72 kc73 p77 kc78 n86 n87 n88; omega) (by clear hx4 hN9 hN32 hN n70 n71 n72 kc73 p77 kc78 n86 n87 n88; omega)
        refine D_lt (fun y89 ey89 => ?_)
        have hy89 : y89.toInt = (x3 + 1 : Int32).toInt := by rw [ey89]
        have n91 := i_rng x2
        exact hk9 x2 y89 S_81 L kaG_t82 kpI_t83 kgI_t84 kkn_t85 hS_81 ⟨(by clear hx4 hN9 hN32 hN n70 n71 n72 kc73 p77 kc78 n86 n87 n88 n91; omega), (by clear hx4 hN9 hN32 hN n70 n71 n72 kc73 p77 kc78 n86 n87 n88 n91; omega)⟩ (by clear hx4 hN32 hN n70 n71 n72 kc73 p77 kc78 n86 n87 n88 n91; omega)
      · have kc780 := tq_eqn (x := r74) (y := (0 : Int32)) rfl (b := 0) (by decide) c78
        have kc78 : 1 ≤ r74.toInt := (by clear hx1 hx3 hx4 hN9 hN32 hN n70 n71 n72 kc73; omega)
        clear kc780
        have n93 : (x3 + 1).toInt = x3.toInt + 1 := i_addK rfl (by decide) (by clear hx1 hx4 hN9 hN32 hN n70 n71 n72 kc73 p77 kc78; omega) (by clear hx1 hx4 hN9 hN32 hN n70 n71 n72 kc73 p77 kc78; omega)
        refine D_lt (fun y92 ey92 => ?_)
        have hy92 : y92.toInt = (x3 + 1 : Int32).toInt := by rw [ey92]
        have n94 := i_rng x2
        exact hk9 x2 y92 S L daG dpI dgI dkn hS ⟨(by clear hx1 hx4 hN9 hN32 hN n70 n71 n72 kc73 p77 kc78 n94; omega), (by clear hx1 hx4 hN9 hN32 hN n70 n71 n72 kc73 p77 kc78 n94; omega)⟩ (by clear hx1 hx4 hN32 hN n70 n71 n72 kc73 p77 kc78 n94; omega)
    · have kc73 := tq_len (x := (S 0 14)) (y := x4) rfl rfl c73
      refine D_ck (okI_of (by clear hx1 hx3 hN9 hN32 hN n71 n72; omega) (by clear hx1 hx3 hN9 hN32 hN n71 n72; omega)) ?_
      have n96 : 0 ≤ (S 30 x4.toNatClampNeg).toInt ∧ (S 30 x4.toNatClampNeg).toInt ≤ 5 := hS 30 x4.toNatClampNeg
      refine D_ite (fun c95 => ?_) (fun c95 => ?_)
      · have kc95 := tq_eq (x := (S 30 x4.toNatClampNeg)) (y := x3) rfl rfl c95
        have n97 := i_mulL (a := (10 : Int32)) (b := x1) 10 (by decide) (by clear hx3 hx4 hN9 hN32 hN n70 n71 n72 kc73 n96 kc95; omega) (by clear hx3 hx4 hN9 hN32 hN n70 n71 n72 kc73 n96 kc95; omega)
        have n98 : (((10 : Int32) * x1) + x4).toInt = ((10 : Int32) * x1).toInt + x4.toInt := i_addK rfl rfl (by clear hx3 hN9 hN32 hN n71 n72 n96 kc95; omega) (by clear hx3 hN9 hN32 hN n71 n72 n96 kc95; omega)
        refine D_ck (okI_of (by clear hx3 hN9 hN32 hN n71 n72 n96 kc95; omega) (by clear hx3 hN9 hN32 hN n71 n72 n96 kc95; omega)) ?_
        have n100 : 0 ≤ (S 53 (((10 : Int32) * x1) + x4).toNatClampNeg).toInt ∧ (S 53 (((10 : Int32) * x1) + x4).toNatClampNeg).toInt ≤ 5 := hS 53 ((((10 : Int32) * x1) + x4).toNatClampNeg)
        refine D_ite (fun c99 => ?_) (fun c99 => ?_)
        · have kc99 := tq_eq (x := (S 53 (((10 : Int32) * x1) + x4).toNatClampNeg)) (y := (1 : Int32)) rfl (b := 1) (by decide) c99
          have n101 : (-1) ≤ (S 54 (((10 : Int32) * x1) + x4).toNatClampNeg).toInt ∧ (S 54 (((10 : Int32) * x1) + x4).toNatClampNeg).toInt ≤ 4 := hS 54 ((((10 : Int32) * x1) + x4).toNatClampNeg)
          have n102 : 0 ≤ (S 54 (((10 : Int32) * x1) + x4).toNatClampNeg).toInt := ly_of dgI hx1 ⟨(by clear hx3 hN9 hN32 hN n71 n72 n96 kc95 n100 kc99 n101; omega), (by clear hx3 hN9 hN32 hN n71 n72 n96 kc95 n100 kc99 n101; omega)⟩ c99
          refine D_bd3 (t_X8_secondsOf S L x1 x4 hS dpI dgI ⟨(by clear hx3 hN9 hN32 hN n71 n72 n96 kc95 n100 kc99 n101 n102; omega), (by clear hx3 hN9 hN32 hN n71 n72 n96 kc95 n100 kc99 n101 n102; omega)⟩ ⟨(by clear hx3 hN9 hN32 hN n71 n72 n96 kc95 n100 kc99 n101 n102; omega), (by clear hx3 hN9 hN32 hN n71 n72 n96 kc95 n100 kc99 n101 n102; omega)⟩ (by first | assumption | exact (by clear hx1 hx3 hx4 hN9 hN32 hN n70 n71 n72 kc73 n96 kc95 n97 n98 n100 kc99; omega)) (by first | assumption | exact (by clear hx3 hN9 hN32 hN n71 n72 n96 kc95 n100 kc99 n101 n102; omega))) (fun r103 S_104 L_105 eq107 hq106 => ?_)
          refine D_lte (y := r103) rfl ?_
          refine D_lte (y := S_104) rfl ?_
          refine D_lte (y := L_105) rfl ?_
          obtain ⟨p108, p109, p110, p111⟩ : (iR BM S_104) ∧ (aT S S_104) ∧ (pI S_104) ∧ (gI x1.toNatClampNeg S_104) := hq106
          have n112 := i_rng r103
          have k113 : aG x1.toNatClampNeg zaG S_104 := aG_tr daG (aT_G p109)
          have n114 : (S_104 0 12).toInt = (S 0 12).toInt := congrArg Int32.toInt (p109 0 _ rfl)
          have n115 : (S_104 0 13).toInt = (S 0 13).toInt := congrArg Int32.toInt (p109 0 _ rfl)
          have n116 : (S_104 0 14).toInt = (S 0 14).toInt := congrArg Int32.toInt (p109 0 _ rfl)
          have n117 : (S_104 54 (((10 : Int32) * x1) + x4).toNatClampNeg).toInt = (S 54 (((10 : Int32) * x1) + x4).toNatClampNeg).toInt := congrArg Int32.toInt (p109 54 _ rfl)
          have kkn_t118 : S_104 62 x1.toNatClampNeg = zkn := ((p109 62 _ rfl).trans dkn)
          have n120 := i_rng x2
          refine D_ite (fun c119 => ?_) (fun c119 => ?_)
          · have kc119 := tq_eq (x := x2) (y := (0 : Int32)) rfl (b := 0) (by decide) c119
            unfold fJ_X8_outs_J116
            unfold fJ_X8_outs_J117
            have l0 : (0 : Int32).toInt = 0 := by decide
            refine D_ite (fun c121 => ?_) (fun c121 => ?_)
            · have kc121 := tq_eq (x := (0 : Int32)) (y := (0 : Int32)) rfl rfl c121
              have n123 : (x4 + 1).toInt = x4.toInt + 1 := i_addK rfl (by decide) (by clear hx3 hN9 hN32 hN n71 n72 n96 kc95 n100 kc99 n101 n102 n112 n114 n115 n117 n120 kc119; omega) (by clear hx3 hN9 hN32 hN n71 n72 n96 kc95 n100 kc99 n101 n102 n112 n114 n115 n117 n120 kc119; omega)
              refine D_lt (fun y122 ey122 => ?_)
              have hy122 : y122.toInt = (x4 + 1 : Int32).toInt := by rw [ey122]
              exact hk32 (0 : Int32) y122 S_104 L_105 k113 p110 p111 kkn_t118 p108 ⟨(by clear hx3 hN9 hN32 hN n71 n72 n96 kc95 n100 kc99 n101 n102 n112 n114 n115 n117 n120 kc119; omega), (by clear hx3 hN9 hN32 hN n71 n72 n96 kc95 n100 kc99 n101 n102 n112 n114 n115 n117 n120 kc119; omega)⟩ (by clear hx3 hN9 n71 n72 n96 kc95 n100 kc99 n101 n102 n112 n114 n115 n117 n120 kc119; omega)
            · have kc1210 := tq_eqn (x := (0 : Int32)) (y := (0 : Int32)) rfl rfl c121
              have kc121 : 1 ≤ (0 : Int32).toInt := (by clear hx1 hx3 hx4 hN9 hN32 hN n70 n71 n72 kc73 n96 kc95 n97 n98 n100 kc99 n101 n102 n112 n114 n115 n116 n117 n120 kc119; omega)
              clear kc1210
              exfalso
              exact (by clear hx1 hx3 hx4 hN9 hN32 hN n70 n71 n72 kc73 n96 kc95 n97 n98 n100 kc99 n101 n102 n112 n114 n115 n116 n117 n120 kc119; omega)
          · skip
            have n125 : 0 ≤ (S_104 0 70).toInt ∧ (S_104 0 70).toInt ≤ 1 := p108 0 70
            refine D_ite (fun c124 => ?_) (fun c124 => ?_)
            · have kc124 := tq_eq (x := (S_104 0 70)) (y := (0 : Int32)) rfl (b := 0) (by decide) c124
              refine D_ck (okI_of (by clear hx3 hN9 hN32 hN n71 n72 n96 kc95 n100 kc99 n101 n102 n112 n114 n115 n117 n120 n125 kc124; omega) (by clear hx3 hN9 hN32 hN n71 n72 n96 kc95 n100 kc99 n101 n102 n112 n114 n115 n117 n120 n125 kc124; omega)) ?_
              have n126 : 0 ≤ (S_104 62 x1.toNatClampNeg).toInt ∧ (S_104 62 x1.toNatClampNeg).toInt ≤ 21 := p108 62 x1.toNatClampNeg
              refine D_ck (okI_of (by clear hx1 hx3 hx4 hN9 hN32 hN n70 n71 n72 kc73 n96 kc95 n97 n98 n100 kc99 n101 n102 n112 n114 n115 n116 n117 n120 n125 kc124; omega) (by clear hx1 hx3 hx4 hN9 hN32 hN n70 n71 n72 kc73 n96 kc95 n97 n98 n100 kc99 n101 n102 n112 n114 n115 n116 n117 n120 n125 kc124; omega)) ?_
              have n128 := i_rng ((S_104 0 72) + r103)
              have n129 := i_rng (S_104 34 (S_104 62 x1.toNatClampNeg).toNatClampNeg)
              refine D_ite (fun c127 => ?_) (fun c127 => ?_)
              · have kc127 := tq_lt (x := (S_104 34 (S_104 62 x1.toNatClampNeg).toNatClampNeg)) (y := ((S_104 0 72) + r103)) rfl rfl c127
                unfold fJ_X8_outs_J116
                unfold fJ_X8_outs_J117
                have l0 : (0 : Int32).toInt = 0 := by decide
                refine D_ite (fun c130 => ?_) (fun c130 => ?_)
                · have kc130 := tq_eq (x := (0 : Int32)) (y := (0 : Int32)) rfl rfl c130
                  have n132 : (x4 + 1).toInt = x4.toInt + 1 := i_addK rfl (by decide) (by clear hx3 hN9 hN32 hN n71 n72 n96 kc95 n100 kc99 n101 n102 n112 n114 n115 n117 n120 n125 kc124 n126 n128 n129 kc127; omega) (by clear hx3 hN9 hN32 hN n71 n72 n96 kc95 n100 kc99 n101 n102 n112 n114 n115 n117 n120 n125 kc124 n126 n128 n129 kc127; omega)
                  refine D_lt (fun y131 ey131 => ?_)
                  have hy131 : y131.toInt = (x4 + 1 : Int32).toInt := by rw [ey131]
                  exact hk32 (0 : Int32) y131 S_104 L_105 k113 p110 p111 kkn_t118 p108 ⟨(by clear hx3 hN9 hN32 hN n71 n72 n96 kc95 n100 kc99 n101 n102 n112 n114 n115 n117 n120 n125 kc124 n126 n128 n129 kc127; omega), (by clear hx3 hN9 hN32 hN n71 n72 n96 kc95 n100 kc99 n101 n102 n112 n114 n115 n117 n120 n125 kc124 n126 n128 n129 kc127; omega)⟩ (by clear hx3 hN9 n71 n72 n96 kc95 n100 kc99 n101 n102 n112 n114 n115 n117 n120 n125 kc124 n126 n128 n129 kc127; omega)
                · have kc1300 := tq_eqn (x := (0 : Int32)) (y := (0 : Int32)) rfl rfl c130
                  have kc130 : 1 ≤ (0 : Int32).toInt := (by clear hx1 hx3 hx4 hN9 hN32 hN n70 n71 n72 kc73 n96 kc95 n97 n98 n100 kc99 n101 n102 n112 n114 n115 n116 n117 n120 n125 kc124 n126 n128 n129 kc127; omega)
                  clear kc1300
                  exfalso
                  exact (by clear hx1 hx3 hx4 hN9 hN32 hN n70 n71 n72 kc73 n96 kc95 n97 n98 n100 kc99 n101 n102 n112 n114 n115 n116 n117 n120 n125 kc124 n126 n128 n129 kc127; omega)
              · have kc127 := tq_ltn (x := (S_104 34 (S_104 62 x1.toNatClampNeg).toNatClampNeg)) (y := ((S_104 0 72) + r103)) rfl rfl c127
                unfold fJ_X8_outs_J112
                unfold fJ_X8_outs_J117
                have l1 : (1 : Int32).toInt = 1 := by decide
                have l0 : (0 : Int32).toInt = 0 := by decide
                refine D_ite (fun c133 => ?_) (fun c133 => ?_)
                · have kc133 := tq_eq (x := (1 : Int32)) (y := (0 : Int32)) (a := 1) (by decide) (b := 0) (by decide) c133
                  exfalso
                  exact (by clear hx1 hx3 hx4 hN9 hN32 hN n70 n71 n72 kc73 n96 kc95 n97 n98 n100 kc99 n101 n102 n112 n114 n115 n116 n117 n120 n125 kc124 n126 n128 n129 kc127; omega)
                · skip
                  refine D_lt (fun S_134 eS_134 => ?_)
                  have hS_134 : iR BM S_134 := by rw [eS_134]; exact iR_setU p108 rfl
                  have kaG_t135 : aG x1.toNatClampNeg zaG S_134 := (by rw [eS_134]; exact aG_set k113 (Wb_t rfl))
                  have kpI_t136 : pI S_134 := by rw [eS_134]; exact p110
                  have kgI_t137 : gI x1.toNatClampNeg S_134 := by rw [eS_134]; exact p111
                  have kkn_t138 : S_134 62 x1.toNatClampNeg = zkn := by rw [eS_134]; exact kkn_t118
                  have n139 : (S_134 54 (((10 : Int32) * x1) + x4).toNatClampNeg).toInt = (S_104 54 (((10 : Int32) * x1) + x4).toNatClampNeg).toInt := by rw [eS_134]; rfl
                  have n140 : (S_134 0 12).toInt = (S_104 0 12).toInt := by rw [eS_134]; rfl
                  have n141 : (S_134 0 14).toInt = (S_104 0 14).toInt := by rw [eS_134]; rfl
                  have n142 : (S_134 0 70).toInt = (S_104 0 70).toInt := by rw [eS_134]; rfl
                  have n143 : (S_134 0 13).toInt = (S_104 0 13).toInt := by rw [eS_134]; rfl
                  have n144 : (S_134 0 72).toInt = ((S_104 0 72) + r103).toInt := by rw [eS_134]; rfl
                  have n145 := i_mulL (a := (6 : Int32)) (b := x1) 6 (by decide) (by clear hx3 hN9 hN32 hN n71 n72 n96 kc95 n100 kc99 n101 n102 n112 n114 n115 n117 n120 n125 kc124 n126 n128 n129 kc127 n139 n140 n142 n143 n144; omega) (by clear hx3 hN9 hN32 hN n71 n72 n96 kc95 n100 kc99 n101 n102 n112 n114 n115 n117 n120 n125 kc124 n126 n128 n129 kc127 n139 n140 n142 n143 n144; omega)
                  have n146 : (((6 : Int32) * x1) + x3).toInt = ((6 : Int32) * x1).toInt + x3.toInt := i_addK rfl rfl (by clear hN9 hN32 hN n71 n72 n100 kc99 n101 n102 n112 n114 n115 n117 n120 n125 kc124 n126 n128 n129 kc127 n139 n140 n142 n143 n144; omega) (by clear hN9 hN32 hN n71 n72 n100 kc99 n101 n102 n112 n114 n115 n117 n120 n125 kc124 n126 n128 n129 kc127 n139 n140 n142 n143 n144; omega)
                  refine D_ck (okI_of (by clear hN9 hN32 hN n71 n72 n100 kc99 n101 n102 n112 n114 n115 n117 n120 n125 kc124 n126 n128 n129 kc127 n139 n140 n142 n143 n144; omega) (by clear hN9 hN32 hN n71 n72 n100 kc99 n101 n102 n112 n114 n115 n117 n120 n125 kc124 n126 n128 n129 kc127 n139 n140 n142 n143 n144; omega)) ?_
                  refine D_lt (fun S_147 eS_147 => ?_)
                  have hS_147 : iR BM S_147 := by rw [eS_147]; exact iR_setU hS_134 rfl
                  have kaG_t148 : aG x1.toNatClampNeg zaG S_147 := (by rw [eS_147]; exact aG_set kaG_t135 (Wb_60 (inB_of (by clear hN9 hN32 hN n71 n72 n100 kc99 n101 n102 n112 n114 n115 n117 n120 n125 kc124 n126 n128 n129 kc127 n139 n140 n142 n143 n144; simp only [i_cl]; omega) (by clear hN9 hN32 hN n71 n72 n100 kc99 n101 n102 n112 n114 n115 n117 n120 n125 kc124 n126 n128 n129 kc127 n139 n140 n142 n143 n144; simp only [i_cl]; omega))))
                  have kpI_t149 : pI S_147 := by rw [eS_147]; exact kpI_t136
                  have kgI_t150 : gI x1.toNatClampNeg S_147 := by rw [eS_147]; exact kgI_t137
                  have kkn_t151 : S_147 62 x1.toNatClampNeg = zkn := by rw [eS_147]; exact kkn_t138
                  have n152 : (S_147 0 14).toInt = (S_134 0 14).toInt := by rw [eS_147]; rfl
                  have n153 : (S_147 0 13).toInt = (S_134 0 13).toInt := by rw [eS_147]; rfl
                  have n154 : (S_147 0 12).toInt = (S_134 0 12).toInt := by rw [eS_147]; rfl
                  have n155 : (S_147 0 72).toInt = (S_134 0 72).toInt := by rw [eS_147]; rfl
                  have n156 : (S_147 54 (((10 : Int32) * x1) + x4).toNatClampNeg).toInt = (S_134 54 (((10 : Int32) * x1) + x4).toNatClampNeg).toInt := by rw [eS_147]; rfl
                  have n157 : (S_147 0 70).toInt = (S_134 0 70).toInt := by rw [eS_147]; rfl
                  refine D_ck (okI_of (by clear hN9 hN32 hN n71 n72 n100 kc99 n101 n102 n112 n114 n115 n117 n120 n125 kc124 n126 n128 n129 kc127 n139 n140 n142 n143 n144 n153 n154 n155 n156 n157; omega) (by clear hN9 hN32 hN n71 n72 n100 kc99 n101 n102 n112 n114 n115 n117 n120 n125 kc124 n126 n128 n129 kc127 n139 n140 n142 n143 n144 n153 n154 n155 n156 n157; omega)) ?_
                  refine D_bd (t_X8_aboveOf S_147 x1 x4 hS_147 ⟨(by clear hN9 hN32 hN n71 n72 n100 kc99 n101 n102 n112 n114 n115 n117 n120 n125 kc124 n126 n128 n129 kc127 n139 n140 n142 n143 n144 n153 n154 n155 n156 n157; omega), (by clear hN9 hN32 hN n71 n72 n100 kc99 n101 n102 n112 n114 n115 n117 n120 n125 kc124 n126 n128 n129 kc127 n139 n140 n142 n143 n144 n153 n154 n155 n156 n157; omega)⟩ ⟨(by clear hN9 hN32 hN n71 n72 n100 kc99 n101 n102 n112 n114 n115 n117 n120 n125 kc124 n126 n128 n129 kc127 n139 n140 n142 n143 n144 n153 n154 n155 n156 n157; omega), (by clear hN9 hN32 hN n71 n72 n100 kc99 n101 n102 n112 n114 n115 n117 n120 n125 kc124 n126 n128 n129 kc127 n139 n140 n142 n143 n144 n153 n154 n155 n156 n157; omega)⟩ kgI_t150.1) (fun r158 eq160 hq159 => ?_)
                  have n161 := i_rng r158
                  refine D_lt (fun S_162 eS_162 => ?_)
                  have hS_162 : iR BM S_162 := by rw [eS_162]; exact iR_setU hS_147 rfl
                  have kaG_t163 : aG x1.toNatClampNeg zaG S_162 := (by rw [eS_162]; exact aG_set kaG_t148 (Wb_61 (inB_of (by clear hN9 hN32 hN n71 n72 n100 kc99 n101 n102 n112 n114 n115 n117 n120 n125 kc124 n126 n128 n129 kc127 n139 n140 n142 n143 n144 n153 n154 n155 n156 n157 n161; simp only [i_cl]; omega) (by clear hN9 hN32 hN n71 n72 n100 kc99 n101 n102 n112 n114 n115 n117 n120 n125 kc124 n126 n128 n129 kc127 n139 n140 n142 n143 n144 n153 n154 n155 n156 n157 n161; simp only [i_cl]; omega))))
                  have kpI_t164 : pI S_162 := by rw [eS_162]; exact kpI_t149
                  have kgI_t165 : gI x1.toNatClampNeg S_162 := by rw [eS_162]; exact kgI_t150
                  have kkn_t166 : S_162 62 x1.toNatClampNeg = zkn := by rw [eS_162]; exact kkn_t151
                  have n167 : (S_162 54 (((10 : Int32) * x1) + x4).toNatClampNeg).toInt = (S_147 54 (((10 : Int32) * x1) + x4).toNatClampNeg).toInt := by rw [eS_162]; rfl
                  have n168 : (S_162 0 70).toInt = (S_147 0 70).toInt := by rw [eS_162]; rfl
                  have n169 : (S_162 0 12).toInt = (S_147 0 12).toInt := by rw [eS_162]; rfl
                  have n170 : (S_162 0 72).toInt = (S_147 0 72).toInt := by rw [eS_162]; rfl
                  have n171 : (S_162 0 13).toInt = (S_147 0 13).toInt := by rw [eS_162]; rfl
                  have n172 : (S_162 0 14).toInt = (S_147 0 14).toInt := by rw [eS_162]; rfl
                  have l2 : (2 : Int32).toInt = 2 := by decide
                  refine D_bd (t_X8_takes2 S_162 x1 x4 (2 : Int32) hS_162 kgI_t165 ⟨(by clear hN9 hN32 hN n71 n72 n100 kc99 n101 n102 n112 n114 n115 n117 n120 n125 kc124 n126 n128 n129 kc127 n139 n140 n142 n143 n144 n153 n154 n155 n156 n157 n161 n167 n168 n169 n170 n171; omega), (by clear hN9 hN32 hN n71 n72 n100 kc99 n101 n102 n112 n114 n115 n117 n120 n125 kc124 n126 n128 n129 kc127 n139 n140 n142 n143 n144 n153 n154 n155 n156 n157 n161 n167 n168 n169 n170 n171; omega)⟩ ⟨(by clear hN9 hN32 hN n71 n72 n100 kc99 n101 n102 n112 n114 n115 n117 n120 n125 kc124 n126 n128 n129 kc127 n139 n140 n142 n143 n144 n153 n154 n155 n156 n157 n161 n167 n168 n169 n170 n171; omega), (by clear hN9 hN32 hN n71 n72 n100 kc99 n101 n102 n112 n114 n115 n117 n120 n125 kc124 n126 n128 n129 kc127 n139 n140 n142 n143 n144 n153 n154 n155 n156 n157 n161 n167 n168 n169 n170 n171; omega)⟩ ⟨(by clear hx1 hx3 hx4 hN9 hN32 hN n70 n71 n72 kc73 n96 kc95 n97 n98 n100 kc99 n101 n102 n112 n114 n115 n116 n117 n120 n125 kc124 n126 n128 n129 kc127 n139 n140 n141 n142 n143 n144 n145 n146 n152 n153 n154 n155 n156 n157 n161 n167 n168 n169 n170 n171 n172; omega), (by clear hx1 hx3 hx4 hN9 hN32 hN n70 n71 n72 kc73 n96 kc95 n97 n98 n100 kc99 n101 n102 n112 n114 n115 n116 n117 n120 n125 kc124 n126 n128 n129 kc127 n139 n140 n141 n142 n143 n144 n145 n146 n152 n153 n154 n155 n156 n157 n161 n167 n168 n169 n170 n171 n172; omega)⟩ (by first | assumption | exact (by clear hx1 hx3 hx4 hN9 hN32 hN n70 n71 n72 kc73 n96 kc95 n97 n98 n100 kc99 n112 n114 n115 n116 n120 n125 kc124 n126 n128 n129 kc127 n140 n141 n142 n143 n144 n145 n146 n152 n153 n154 n155 n157 n161 n168 n169 n170 n171 n172; omega)) (by first | assumption | exact (by clear hx1 hx3 hx4 hN9 hN32 hN n70 n71 n72 kc73 n96 kc95 n97 n98 n100 kc99 n101 n102 n112 n114 n115 n116 n117 n120 n125 kc124 n126 n128 n129 kc127 n139 n140 n141 n142 n143 n144 n145 n146 n152 n153 n154 n155 n156 n157 n161 n167 n168 n169 n170 n171 n172; omega))) (fun S_173 eq175 hq174 => ?_)
                  obtain ⟨p176, p177, p178, p179⟩ : (iR BM S_173) ∧ (gI x1.toNatClampNeg S_173) ∧ (aG x1.toNatClampNeg S_162 S_173) ∧ (S_173 62 x1.toNatClampNeg = (S_162 62 x1.toNatClampNeg)) := hq174
                  have k180 : aG x1.toNatClampNeg zaG S_173 := aG_tr kaG_t163 p178
                  have k181 : S_173 62 x1.toNatClampNeg = zkn := p179.trans kkn_t166
                  have n182 : (S_173 0 12).toInt = (S_162 0 12).toInt := congrArg Int32.toInt (p178 0 _ rfl)
                  have n183 : (S_173 0 13).toInt = (S_162 0 13).toInt := congrArg Int32.toInt (p178 0 _ rfl)
                  have n184 : (S_173 0 14).toInt = (S_162 0 14).toInt := congrArg Int32.toInt (p178 0 _ rfl)
                  have kpI_t185 : pI S_173 := (pI_aG kpI_t164 p178)
                  have n187 : (x4 + 1).toInt = x4.toInt + 1 := i_addK rfl (by decide) (by clear hN9 hN32 hN n71 n72 n100 kc99 n101 n102 n112 n114 n115 n117 n120 n125 kc124 n126 n128 n129 kc127 n139 n140 n142 n143 n144 n153 n154 n155 n156 n157 n161 n167 n168 n169 n170 n171 n182 n183; omega) (by clear hN9 hN32 hN n71 n72 n100 kc99 n101 n102 n112 n114 n115 n117 n120 n125 kc124 n126 n128 n129 kc127 n139 n140 n142 n143 n144 n153 n154 n155 n156 n157 n161 n167 n168 n169 n170 n171 n182 n183; omega)
                  refine D_lt (fun y186 ey186 => ?_)
                  have hy186 : y186.toInt = (x4 + 1 : Int32).toInt := by rw [ey186]
                  exact hk32 (1 : Int32) y186 S_173 L_105 k180 kpI_t185 p177 k181 p176 ⟨(by clear hN9 hN32 hN n71 n72 n100 kc99 n101 n102 n112 n114 n115 n117 n120 n125 kc124 n126 n128 n129 kc127 n139 n140 n142 n143 n144 n153 n154 n155 n156 n157 n161 n167 n168 n169 n170 n171 n182 n183; omega), (by clear hN9 hN32 hN n71 n72 n100 kc99 n101 n102 n112 n114 n115 n117 n120 n125 kc124 n126 n128 n129 kc127 n139 n140 n142 n143 n144 n153 n154 n155 n156 n157 n161 n167 n168 n169 n170 n171 n182 n183; omega)⟩ (by clear hN9 n71 n72 n100 kc99 n101 n102 n112 n114 n115 n117 n120 n125 kc124 n126 n128 n129 kc127 n139 n140 n142 n143 n144 n153 n154 n155 n156 n157 n161 n167 n168 n169 n170 n171 n182 n183; omega)
            · have kc1240 := tq_eqn (x := (S_104 0 70)) (y := (0 : Int32)) rfl (b := 0) (by decide) c124
              have kc124 : 1 ≤ (S_104 0 70).toInt := (by clear hx1 hx3 hx4 hN9 hN32 hN n70 n71 n72 kc73 n96 kc95 n97 n98 n100 kc99 n101 n102 n112 n114 n115 n116 n117 n120; omega)
              clear kc1240
              unfold fJ_X8_outs_J112
              unfold fJ_X8_outs_J117
              have l1 : (1 : Int32).toInt = 1 := by decide
              have l0 : (0 : Int32).toInt = 0 := by decide
              refine D_ite (fun c188 => ?_) (fun c188 => ?_)
              · have kc188 := tq_eq (x := (1 : Int32)) (y := (0 : Int32)) (a := 1) (by decide) (b := 0) (by decide) c188
                exfalso
                exact (by clear hx1 hx3 hx4 hN9 hN32 hN n70 n71 n72 kc73 n96 kc95 n97 n98 n100 kc99 n101 n102 n112 n114 n115 n116 n117 n120 n125 kc124; omega)
              · skip
                refine D_lt (fun S_189 eS_189 => ?_)
                have hS_189 : iR BM S_189 := by rw [eS_189]; exact iR_setU p108 rfl
                have kaG_t190 : aG x1.toNatClampNeg zaG S_189 := (by rw [eS_189]; exact aG_set k113 (Wb_t rfl))
                have kpI_t191 : pI S_189 := by rw [eS_189]; exact p110
                have kgI_t192 : gI x1.toNatClampNeg S_189 := by rw [eS_189]; exact p111
                have kkn_t193 : S_189 62 x1.toNatClampNeg = zkn := by rw [eS_189]; exact kkn_t118
                have n194 : (S_189 54 (((10 : Int32) * x1) + x4).toNatClampNeg).toInt = (S_104 54 (((10 : Int32) * x1) + x4).toNatClampNeg).toInt := by rw [eS_189]; rfl
                have n195 : (S_189 0 12).toInt = (S_104 0 12).toInt := by rw [eS_189]; rfl
                have n196 : (S_189 0 14).toInt = (S_104 0 14).toInt := by rw [eS_189]; rfl
                have n197 : (S_189 0 70).toInt = (S_104 0 70).toInt := by rw [eS_189]; rfl
                have n198 : (S_189 0 13).toInt = (S_104 0 13).toInt := by rw [eS_189]; rfl
                have n199 := i_mulL (a := (6 : Int32)) (b := x1) 6 (by decide) (by clear hx3 hN9 hN32 hN n71 n72 n96 kc95 n100 kc99 n101 n102 n112 n114 n115 n117 n120 n125 kc124 n194 n195 n197 n198; omega) (by clear hx3 hN9 hN32 hN n71 n72 n96 kc95 n100 kc99 n101 n102 n112 n114 n115 n117 n120 n125 kc124 n194 n195 n197 n198; omega)
                have n200 : (((6 : Int32) * x1) + x3).toInt = ((6 : Int32) * x1).toInt + x3.toInt := i_addK rfl rfl (by clear hN9 hN32 hN n71 n72 n100 kc99 n101 n102 n112 n114 n115 n117 n120 n125 kc124 n194 n195 n197 n198; omega) (by clear hN9 hN32 hN n71 n72 n100 kc99 n101 n102 n112 n114 n115 n117 n120 n125 kc124 n194 n195 n197 n198; omega)
                refine D_ck (okI_of (by clear hN9 hN32 hN n71 n72 n100 kc99 n101 n102 n112 n114 n115 n117 n120 n125 kc124 n194 n195 n197 n198; omega) (by clear hN9 hN32 hN n71 n72 n100 kc99 n101 n102 n112 n114 n115 n117 n120 n125 kc124 n194 n195 n197 n198; omega)) ?_
                refine D_lt (fun S_201 eS_201 => ?_)
                have hS_201 : iR BM S_201 := by rw [eS_201]; exact iR_setU hS_189 rfl
                have kaG_t202 : aG x1.toNatClampNeg zaG S_201 := (by rw [eS_201]; exact aG_set kaG_t190 (Wb_60 (inB_of (by clear hN9 hN32 hN n71 n72 n100 kc99 n101 n102 n112 n114 n115 n117 n120 n125 kc124 n194 n195 n197 n198; simp only [i_cl]; omega) (by clear hN9 hN32 hN n71 n72 n100 kc99 n101 n102 n112 n114 n115 n117 n120 n125 kc124 n194 n195 n197 n198; simp only [i_cl]; omega))))
                have kpI_t203 : pI S_201 := by rw [eS_201]; exact kpI_t191
                have kgI_t204 : gI x1.toNatClampNeg S_201 := by rw [eS_201]; exact kgI_t192
                have kkn_t205 : S_201 62 x1.toNatClampNeg = zkn := by rw [eS_201]; exact kkn_t193
                have n206 : (S_201 54 (((10 : Int32) * x1) + x4).toNatClampNeg).toInt = (S_189 54 (((10 : Int32) * x1) + x4).toNatClampNeg).toInt := by rw [eS_201]; rfl
                have n207 : (S_201 0 70).toInt = (S_189 0 70).toInt := by rw [eS_201]; rfl
                have n208 : (S_201 0 14).toInt = (S_189 0 14).toInt := by rw [eS_201]; rfl
                have n209 : (S_201 0 13).toInt = (S_189 0 13).toInt := by rw [eS_201]; rfl
                have n210 : (S_201 0 12).toInt = (S_189 0 12).toInt := by rw [eS_201]; rfl
                refine D_ck (okI_of (by clear hN9 hN32 hN n71 n72 n100 kc99 n101 n102 n112 n114 n115 n117 n120 n125 kc124 n194 n195 n197 n198 n206 n207 n209 n210; omega) (by clear hN9 hN32 hN n71 n72 n100 kc99 n101 n102 n112 n114 n115 n117 n120 n125 kc124 n194 n195 n197 n198 n206 n207 n209 n210; omega)) ?_
                refine D_bd (t_X8_aboveOf S_201 x1 x4 hS_201 ⟨(by clear hN9 hN32 hN n71 n72 n100 kc99 n101 n102 n112 n114 n115 n117 n120 n125 kc124 n194 n195 n197 n198 n206 n207 n209 n210; omega), (by clear hN9 hN32 hN n71 n72 n100 kc99 n101 n102 n112 n114 n115 n117 n120 n125 kc124 n194 n195 n197 n198 n206 n207 n209 n210; omega)⟩ ⟨(by clear hN9 hN32 hN n71 n72 n100 kc99 n101 n102 n112 n114 n115 n117 n120 n125 kc124 n194 n195 n197 n198 n206 n207 n209 n210; omega), (by clear hN9 hN32 hN n71 n72 n100 kc99 n101 n102 n112 n114 n115 n117 n120 n125 kc124 n194 n195 n197 n198 n206 n207 n209 n210; omega)⟩ kgI_t204.1) (fun r211 eq213 hq212 => ?_)
                have n214 := i_rng r211
                refine D_lt (fun S_215 eS_215 => ?_)
                have hS_215 : iR BM S_215 := by rw [eS_215]; exact iR_setU hS_201 rfl
                have kaG_t216 : aG x1.toNatClampNeg zaG S_215 := (by rw [eS_215]; exact aG_set kaG_t202 (Wb_61 (inB_of (by clear hN9 hN32 hN n71 n72 n100 kc99 n101 n102 n112 n114 n115 n117 n120 n125 kc124 n194 n195 n197 n198 n206 n207 n209 n210 n214; simp only [i_cl]; omega) (by clear hN9 hN32 hN n71 n72 n100 kc99 n101 n102 n112 n114 n115 n117 n120 n125 kc124 n194 n195 n197 n198 n206 n207 n209 n210 n214; simp only [i_cl]; omega))))
                have kpI_t217 : pI S_215 := by rw [eS_215]; exact kpI_t203
                have kgI_t218 : gI x1.toNatClampNeg S_215 := by rw [eS_215]; exact kgI_t204
                have kkn_t219 : S_215 62 x1.toNatClampNeg = zkn := by rw [eS_215]; exact kkn_t205
                have n220 : (S_215 0 12).toInt = (S_201 0 12).toInt := by rw [eS_215]; rfl
                have n221 : (S_215 54 (((10 : Int32) * x1) + x4).toNatClampNeg).toInt = (S_201 54 (((10 : Int32) * x1) + x4).toNatClampNeg).toInt := by rw [eS_215]; rfl
                have n222 : (S_215 0 13).toInt = (S_201 0 13).toInt := by rw [eS_215]; rfl
                have n223 : (S_215 0 14).toInt = (S_201 0 14).toInt := by rw [eS_215]; rfl
                have n224 : (S_215 0 70).toInt = (S_201 0 70).toInt := by rw [eS_215]; rfl
                have l2 : (2 : Int32).toInt = 2 := by decide
                refine D_bd (t_X8_takes2 S_215 x1 x4 (2 : Int32) hS_215 kgI_t218 ⟨(by clear hN9 hN32 hN n71 n72 n100 kc99 n101 n102 n112 n114 n115 n117 n120 n125 kc124 n194 n195 n197 n198 n206 n207 n209 n210 n214 n220 n221 n222 n224; omega), (by clear hN9 hN32 hN n71 n72 n100 kc99 n101 n102 n112 n114 n115 n117 n120 n125 kc124 n194 n195 n197 n198 n206 n207 n209 n210 n214 n220 n221 n222 n224; omega)⟩ ⟨(by clear hN9 hN32 hN n71 n72 n100 kc99 n101 n102 n112 n114 n115 n117 n120 n125 kc124 n194 n195 n197 n198 n206 n207 n209 n210 n214 n220 n221 n222 n224; omega), (by clear hN9 hN32 hN n71 n72 n100 kc99 n101 n102 n112 n114 n115 n117 n120 n125 kc124 n194 n195 n197 n198 n206 n207 n209 n210 n214 n220 n221 n222 n224; omega)⟩ ⟨(by clear hx1 hx3 hx4 hN9 hN32 hN n70 n71 n72 kc73 n96 kc95 n97 n98 n100 kc99 n101 n102 n112 n114 n115 n116 n117 n120 n125 kc124 n194 n195 n196 n197 n198 n199 n200 n206 n207 n208 n209 n210 n214 n220 n221 n222 n223 n224; omega), (by clear hx1 hx3 hx4 hN9 hN32 hN n70 n71 n72 kc73 n96 kc95 n97 n98 n100 kc99 n101 n102 n112 n114 n115 n116 n117 n120 n125 kc124 n194 n195 n196 n197 n198 n199 n200 n206 n207 n208 n209 n210 n214 n220 n221 n222 n223 n224; omega)⟩ (by first | assumption | exact (by clear hx1 hx3 hx4 hN9 hN32 hN n70 n71 n72 kc73 n96 kc95 n97 n98 n100 kc99 n112 n114 n115 n116 n120 n125 kc124 n195 n196 n197 n198 n199 n200 n207 n208 n209 n210 n214 n220 n222 n223 n224; omega)) (by first | assumption | exact (by clear hx1 hx3 hx4 hN9 hN32 hN n70 n71 n72 kc73 n96 kc95 n97 n98 n100 kc99 n101 n102 n112 n114 n115 n116 n117 n120 n125 kc124 n194 n195 n196 n197 n198 n199 n200 n206 n207 n208 n209 n210 n214 n220 n221 n222 n223 n224; omega))) (fun S_225 eq227 hq226 => ?_)
                obtain ⟨p228, p229, p230, p231⟩ : (iR BM S_225) ∧ (gI x1.toNatClampNeg S_225) ∧ (aG x1.toNatClampNeg S_215 S_225) ∧ (S_225 62 x1.toNatClampNeg = (S_215 62 x1.toNatClampNeg)) := hq226
                have k232 : aG x1.toNatClampNeg zaG S_225 := aG_tr kaG_t216 p230
                have k233 : S_225 62 x1.toNatClampNeg = zkn := p231.trans kkn_t219
                have n234 : (S_225 0 12).toInt = (S_215 0 12).toInt := congrArg Int32.toInt (p230 0 _ rfl)
                have n235 : (S_225 0 13).toInt = (S_215 0 13).toInt := congrArg Int32.toInt (p230 0 _ rfl)
                have n236 : (S_225 0 14).toInt = (S_215 0 14).toInt := congrArg Int32.toInt (p230 0 _ rfl)
                have kpI_t237 : pI S_225 := (pI_aG kpI_t217 p230)
                have n239 : (x4 + 1).toInt = x4.toInt + 1 := i_addK rfl (by decide) (by clear hN9 hN32 hN n71 n72 n100 kc99 n101 n102 n112 n114 n115 n117 n120 n125 kc124 n194 n195 n197 n198 n206 n207 n209 n210 n214 n220 n221 n222 n224 n234 n235; omega) (by clear hN9 hN32 hN n71 n72 n100 kc99 n101 n102 n112 n114 n115 n117 n120 n125 kc124 n194 n195 n197 n198 n206 n207 n209 n210 n214 n220 n221 n222 n224 n234 n235; omega)
                refine D_lt (fun y238 ey238 => ?_)
                have hy238 : y238.toInt = (x4 + 1 : Int32).toInt := by rw [ey238]
                exact hk32 (1 : Int32) y238 S_225 L_105 k232 kpI_t237 p229 k233 p228 ⟨(by clear hN9 hN32 hN n71 n72 n100 kc99 n101 n102 n112 n114 n115 n117 n120 n125 kc124 n194 n195 n197 n198 n206 n207 n209 n210 n214 n220 n221 n222 n224 n234 n235; omega), (by clear hN9 hN32 hN n71 n72 n100 kc99 n101 n102 n112 n114 n115 n117 n120 n125 kc124 n194 n195 n197 n198 n206 n207 n209 n210 n214 n220 n221 n222 n224 n234 n235; omega)⟩ (by clear hN9 n71 n72 n100 kc99 n101 n102 n112 n114 n115 n117 n120 n125 kc124 n194 n195 n197 n198 n206 n207 n209 n210 n214 n220 n221 n222 n224 n234 n235; omega)
        · skip
          have n241 : (x4 + 1).toInt = x4.toInt + 1 := i_addK rfl (by decide) (by clear hx3 hN9 hN32 hN n71 n72 n96 kc95 n100; omega) (by clear hx3 hN9 hN32 hN n71 n72 n96 kc95 n100; omega)
          refine D_lt (fun y240 ey240 => ?_)
          have hy240 : y240.toInt = (x4 + 1 : Int32).toInt := by rw [ey240]
          have n242 := i_rng x2
          exact hk32 x2 y240 S L daG dpI dgI dkn hS ⟨(by clear hx3 hN9 hN32 hN n71 n72 n96 kc95 n100 n242; omega), (by clear hx3 hN9 hN32 hN n71 n72 n96 kc95 n100 n242; omega)⟩ (by clear hx3 hN9 n71 n72 n96 kc95 n100 n242; omega)
      · skip
        have n244 : (x4 + 1).toInt = x4.toInt + 1 := i_addK rfl (by decide) (by clear hx1 hx3 hN9 hN32 hN n71 n72 n96; omega) (by clear hx1 hx3 hN9 hN32 hN n71 n72 n96; omega)
        refine D_lt (fun y243 ey243 => ?_)
        have hy243 : y243.toInt = (x4 + 1 : Int32).toInt := by rw [ey243]
        have n245 := i_rng x2
        exact hk32 x2 y243 S L daG dpI dgI dkn hS ⟨(by clear hx1 hx3 hN9 hN32 hN n71 n72 n96 n245; omega), (by clear hx1 hx3 hN9 hN32 hN n71 n72 n96 n245; omega)⟩ (by clear hx1 hx3 hN9 n71 n72 n96 n245; omega)
set_option maxHeartbeats 1000000 in
set_option maxRecDepth 100000 in
theorem tl_X8_outs_L9 (zkn : Int32) (zaG : Tr) (x1 : Int32) (hx1 : 0 ≤ x1.toInt ∧ x1.toInt ≤ 1)   (N : Nat) : ∀ (x2 : Int32) (x3 : Int32) (S : Tr) (L : Lo), aG x1.toNatClampNeg zaG S → pI S → gI x1.toNatClampNeg S → S 62 x1.toNatClampNeg = zkn → iR BM S → 0 ≤ x3.toInt ∧ x3.toInt ≤ 1000 → 1000 - x3.toInt < (N : Int) → D (lpF (fun _ _ _ _ => none) (fB_X8_outs_L9 x1) N x2 x3 S L) (fun (q : Tr × Lo) => (iR BM (q.1)) ∧ (aG x1.toNatClampNeg zaG (q.1)) ∧ (pI (q.1)) ∧ (gI x1.toNatClampNeg (q.1)) ∧ ((q.1) 62 x1.toNatClampNeg = zkn)) := by
  induction N with
  | zero =>
    intro x2 x3 S L daG dpI dgI dkn hS hx3 hN
    exfalso
    omega
  | succ N9 ih =>
    intro x2 x3 S L daG dpI dgI dkn hS hx3 hN
    have hk9 : ∀ (x2 : Int32) (x3 : Int32) (S : Tr) (L : Lo), aG x1.toNatClampNeg zaG S → pI S → gI x1.toNatClampNeg S → S 62 x1.toNatClampNeg = zkn → iR BM S → 0 ≤ x3.toInt ∧ x3.toInt ≤ 1000 → 1000 - x3.toInt < (N9 : Int) → D (lpF (fun _ _ _ _ => none) (fB_X8_outs_L9 x1) N9 x2 x3 S L) (fun (q : Tr × Lo) => (iR BM (q.1)) ∧ (aG x1.toNatClampNeg zaG (q.1)) ∧ (pI (q.1)) ∧ (gI x1.toNatClampNeg (q.1)) ∧ ((q.1) 62 x1.toNatClampNeg = zkn)) := ih
    show D (fB_X8_outs_L9 x1 (lpF (fun _ _ _ _ => none) (fB_X8_outs_L9 x1) N9) x2 x3 S L) _
    generalize lpF (fun _ _ _ _ => none) (fB_X8_outs_L9 x1) N9 = k9 at hk9 ⊢
    have hN9 : 1000 - x3.toInt < (N9 : Int) + 1 := by omega
    clear ih
    unfold fB_X8_outs_L9
    have n9 : 0 ≤ (S 0 14).toInt ∧ (S 0 14).toInt ≤ 10 := hS 0 14
    have n10 : 0 ≤ (S 0 13).toInt ∧ (S 0 13).toInt ≤ 6 := hS 0 13
    have n11 : 0 ≤ (S 0 12).toInt ∧ (S 0 12).toInt ≤ 5 := hS 0 12
    refine D_ite (fun c12 => ?_) (fun c12 => ?_)
    · have kc12 := tq_le (x := (S 0 13)) (y := x3) rfl rfl c12
      unfold fJ_X8_outs_J209
      refine D_ck (okI_of (by clear hx3 hN9 hN n9 n10 n11 kc12; omega) (by clear hx3 hN9 hN n9 n10 n11 kc12; omega)) ?_
      have n14 : 0 ≤ (S 62 x1.toNatClampNeg).toInt ∧ (S 62 x1.toNatClampNeg).toInt ≤ 21 := hS 62 x1.toNatClampNeg
      refine D_ite (fun c13 => ?_) (fun c13 => ?_)
      · have kc13 := tq_le (x := (20 : Int32)) (y := (S 62 x1.toNatClampNeg)) (a := 20) (by decide) rfl c13
        have l0 : (0 : Int32).toInt = 0 := by decide
        exact tl_X8_outs_L223 zkn zaG L x1 ⟨(by clear hx3 hN9 hN n9 n10 n11 kc12 n14 kc13; omega), (by clear hx3 hN9 hN n9 n10 n11 kc12 n14 kc13; omega)⟩   2000 (0 : Int32) S daG dpI dgI dkn hS ⟨(by clear hx1 hx3 hN9 hN n9 n10 n11 kc12 n14 kc13; omega), (by clear hx1 hx3 hN9 hN n9 n10 n11 kc12 n14 kc13; omega)⟩ (by clear hx1 hx3 hN9 hN n9 n10 n11 kc12 n14 kc13; omega)
      · have kc13 := tq_len (x := (20 : Int32)) (y := (S 62 x1.toNatClampNeg)) (a := 20) (by decide) rfl c13
        exact D_some (show (iR BM S) ∧ (aG x1.toNatClampNeg zaG S) ∧ (pI S) ∧ (gI x1.toNatClampNeg S) ∧ (S 62 x1.toNatClampNeg = zkn) from ⟨hS, daG, dpI, dgI, dkn⟩)
    · have kc12 := tq_len (x := (S 0 13)) (y := x3) rfl rfl c12
      refine D_bd (t_X8_getsOut S x1 x3 hS ⟨(by clear hx3 hN9 hN n9 n10 n11 kc12; omega), (by clear hx3 hN9 hN n9 n10 n11 kc12; omega)⟩ ⟨(by clear hx1 hN9 hN n9 n11; omega), (by clear hx1 hN9 hN n9 n11; omega)⟩) (fun r62 eq64 hq63 => ?_)
      have p65 : 0 ≤ r62.toInt ∧ r62.toInt ≤ 1 := hq63
      refine D_ite (fun c66 => ?_) (fun c66 => ?_)
      · have kc66 := tq_eq (x := r62) (y := (0 : Int32)) rfl (b := 0) (by decide) c66
        have n68 : (x3 + 1).toInt = x3.toInt + 1 := i_addK rfl (by decide) (by clear hx1 hN9 hN n9 n11 p65 kc66; omega) (by clear hx1 hN9 hN n9 n11 p65 kc66; omega)
        refine D_lt (fun y67 ey67 => ?_)
        have hy67 : y67.toInt = (x3 + 1 : Int32).toInt := by rw [ey67]
        have n69 := i_rng x2
        exact hk9 x2 y67 S L daG dpI dgI dkn hS ⟨(by clear hx1 hN9 hN n9 n11 p65 kc66 n69; omega), (by clear hx1 hN9 hN n9 n11 p65 kc66 n69; omega)⟩ (by clear hx1 n9 n11 p65 kc66 n69; omega)
      · have kc660 := tq_eqn (x := r62) (y := (0 : Int32)) rfl (b := 0) (by decide) c66
        have kc66 : 1 ≤ r62.toInt := (by clear hx1 hx3 hN9 hN n9 n10 n11 kc12; omega)
        clear kc660
        have n246 := i_rng x2
        have l0 : (0 : Int32).toInt = 0 := by decide
        exact tl_X8_outs_L32 zkn zaG x1 x3 N9 ⟨(by clear hx3 hN9 hN n9 n10 n11 kc12 p65 kc66 n246; omega), (by clear hx3 hN9 hN n9 n10 n11 kc12 p65 kc66 n246; omega)⟩ ⟨(by clear hx1 hN9 hN n9 n11 p65 kc66 n246; omega), (by clear hx1 hN9 hN n9 n11 p65 kc66 n246; omega)⟩ hN9 k9 hk9 2000 x2 (0 : Int32) S L daG dpI dgI dkn hS ⟨(by clear hx1 hx3 hN9 hN n9 n10 n11 kc12 p65 kc66 n246; omega), (by clear hx1 hx3 hN9 hN n9 n10 n11 kc12 p65 kc66 n246; omega)⟩ (by clear hx1 hx3 hN9 hN n9 n10 n11 kc12 p65 kc66 n246; omega)
set_option maxHeartbeats 1000000 in
set_option maxRecDepth 100000 in
theorem t_X8_outs (S : Tr) (L : Lo) (x1 : Int32) (hS : iR BM S) (dpI : pI S) (dgI : gI x1.toNatClampNeg S) (hx1 : 0 ≤ x1.toInt ∧ x1.toInt ≤ 1) : D (f_X8_outs S L x1) (fun (q : Tr × Lo) => (iR BM (q.1)) ∧ (aG x1.toNatClampNeg S (q.1)) ∧ (pI (q.1)) ∧ (gI x1.toNatClampNeg (q.1)) ∧ ((q.1) 62 x1.toNatClampNeg = (S 62 x1.toNatClampNeg))) := by
  unfold f_X8_outs
  have n1 : 0 ≤ (S 0 14).toInt ∧ (S 0 14).toInt ≤ 10 := hS 0 14
  refine D_lt (fun S_2 eS_2 => ?_)
  have hS_2 : iR BM S_2 := by rw [eS_2]; exact iR_setU hS rfl
  have kaG_t3 : aG x1.toNatClampNeg S S_2 := (by rw [eS_2]; exact aG_set aG_rfl (Wb_t rfl))
  have kpI_t4 : pI S_2 := by rw [eS_2]; exact dpI
  have kgI_t5 : gI x1.toNatClampNeg S_2 := by rw [eS_2]; exact dgI
  have kkn_t6 : S_2 62 x1.toNatClampNeg = (S 62 x1.toNatClampNeg) := by rw [eS_2]; exact rfl
  have n7 : (S_2 0 14).toInt = (S 0 14).toInt := by rw [eS_2]; rfl
  have l0 : (0 : Int32).toInt = 0 := by decide
  have n8 : (S_2 0 72).toInt = (0 : Int32).toInt := by rw [eS_2]; rfl
  have l1 : (1 : Int32).toInt = 1 := by decide
  exact tl_X8_outs_L9 (S 62 x1.toNatClampNeg) S x1 ⟨(by clear n1 n7 n8; omega), (by clear n1 n7 n8; omega)⟩   2000 (1 : Int32) (0 : Int32) S_2 L kaG_t3 kpI_t4 kgI_t5 kkn_t6 hS_2 ⟨(by clear hx1 n1 n7 n8; omega), (by clear hx1 n1 n7 n8; omega)⟩ (by clear hx1 n1 n7 n8; omega)
set_option maxHeartbeats 1000000 in
set_option maxRecDepth 100000 in
theorem t_X8_doesHold (S : Tr) (x1 : Int32) (x2 : Int32) (x3 : Int32) (hS : iR BM S) (hx1 : 0 ≤ x1.toInt ∧ x1.toInt ≤ 1) (hx2 : 0 ≤ x2.toInt ∧ x2.toInt ≤ 4) (hx3 : 0 ≤ x3.toInt ∧ x3.toInt ≤ 9) : D (f_X8_doesHold S x1 x2 x3) (fun (q : Int32) => (0 ≤ q.toInt ∧ q.toInt ≤ 1)) := by
  unfold f_X8_doesHold
  refine D_bd (t_X8_weightIn S x1 x2 hS ⟨(by omega), (by omega)⟩ ⟨(by omega), (by omega)⟩) (fun r1 eq3 hq2 => ?_)
  have n4 := i_rng r1
  refine D_ck (okI_of (by clear hx1 hx2 n4; omega) (by clear hx1 hx2 n4; omega)) ?_
  refine D_ck (okI_of (by clear hx1 hx3 n4; omega) (by clear hx1 hx3 n4; omega)) ?_
  have n6 := i_rng (r1 + (S 31 x3.toNatClampNeg))
  have n7 := i_rng (S 25 x2.toNatClampNeg)
  refine D_ite (fun c5 => ?_) (fun c5 => ?_)
  · have kc5 := tq_lt (x := (S 25 x2.toNatClampNeg)) (y := (r1 + (S 31 x3.toNatClampNeg))) rfl rfl c5
    have l0 : (0 : Int32).toInt = 0 := by decide
    exact D_some (show (0 ≤ (0 : Int32).toInt ∧ (0 : Int32).toInt ≤ 1) from ⟨(by clear hx1 hx2 hx3 n4 n6 n7 kc5; omega), (by clear hx1 hx2 hx3 n4 n6 n7 kc5; omega)⟩)
  · have kc5 := tq_ltn (x := (S 25 x2.toNatClampNeg)) (y := (r1 + (S 31 x3.toNatClampNeg))) rfl rfl c5
    have l1 : (1 : Int32).toInt = 1 := by decide
    exact D_some (show (0 ≤ (1 : Int32).toInt ∧ (1 : Int32).toInt ≤ 1) from ⟨(by clear hx1 hx2 hx3 n4 n6 n7 kc5; omega), (by clear hx1 hx2 hx3 n4 n6 n7 kc5; omega)⟩)
set_option maxHeartbeats 1000000 in
set_option maxRecDepth 100000 in
theorem tl_X8_placeFor_L75 (S : Tr) (x1 : Int32) (x2 : Int32) (hS : iR BM S) (hx1 : 0 ≤ x1.toInt ∧ x1.toInt ≤ 1) (hx2 : 0 ≤ x2.toInt ∧ x2.toInt ≤ 9)   (N : Nat) : ∀ (x3 : Int32) (x4 : Int32), (-1) ≤ x3.toInt ∧ x3.toInt ≤ 4 → 0 ≤ x4.toInt ∧ x4.toInt ≤ 1000 → 1000 - x4.toInt < (N : Int) → D (lpF (fun _ _ => none) (fB_X8_placeFor_L75 S x1 x2) N x3 x4) (fun (q : Int32) => ((-1) ≤ q.toInt ∧ q.toInt ≤ 4)) := by
  induction N with
  | zero =>
    intro x3 x4 hx3 hx4 hN
    exfalso
    omega
  | succ N75 ih =>
    intro x3 x4 hx3 hx4 hN
    have hk75 : ∀ (x3 : Int32) (x4 : Int32), (-1) ≤ x3.toInt ∧ x3.toInt ≤ 4 → 0 ≤ x4.toInt ∧ x4.toInt ≤ 1000 → 1000 - x4.toInt < (N75 : Int) → D (lpF (fun _ _ => none) (fB_X8_placeFor_L75 S x1 x2) N75 x3 x4) (fun (q : Int32) => ((-1) ≤ q.toInt ∧ q.toInt ≤ 4)) := ih
    show D (fB_X8_placeFor_L75 S x1 x2 (lpF (fun _ _ => none) (fB_X8_placeFor_L75 S x1 x2) N75) x3 x4) _
    generalize lpF (fun _ _ => none) (fB_X8_placeFor_L75 S x1 x2) N75 = k75 at hk75 ⊢
    have hN75 : 1000 - x4.toInt < (N75 : Int) + 1 := by omega
    clear ih
    unfold fB_X8_placeFor_L75
    have n6 : 0 ≤ (S 0 12).toInt ∧ (S 0 12).toInt ≤ 5 := hS 0 12
    refine D_ite (fun c5 => ?_) (fun c5 => ?_)
    · have kc5 := tq_le (x := (S 0 12)) (y := x4) rfl rfl c5
      exact D_some (show ((-1) ≤ x3.toInt ∧ x3.toInt ≤ 4) from ⟨(by clear hx1 hx2 hx4 hN75 hN n6 kc5; omega), (by clear hx1 hx2 hx4 hN75 hN n6 kc5; omega)⟩)
    · have kc5 := tq_len (x := (S 0 12)) (y := x4) rfl rfl c5
      refine D_bd (t_X8_doesHold S x1 x4 x2 hS ⟨(by clear hx2 hx3 hx4 hN75 hN n6 kc5; omega), (by clear hx2 hx3 hx4 hN75 hN n6 kc5; omega)⟩ ⟨(by clear hx1 hx2 hx3 hN75 hN; omega), (by clear hx1 hx2 hx3 hN75 hN; omega)⟩ ⟨(by clear hx1 hx3 hx4 hN75 hN n6 kc5; omega), (by clear hx1 hx3 hx4 hN75 hN n6 kc5; omega)⟩) (fun r7 eq9 hq8 => ?_)
      have p10 : 0 ≤ r7.toInt ∧ r7.toInt ≤ 1 := hq8
      refine D_ite (fun c11 => ?_) (fun c11 => ?_)
      · have kc11 := tq_eq (x := r7) (y := (0 : Int32)) rfl (b := 0) (by decide) c11
        have n13 : (x4 + 1).toInt = x4.toInt + 1 := i_addK rfl (by decide) (by clear hx1 hx2 hx3 hN75 hN p10 kc11; omega) (by clear hx1 hx2 hx3 hN75 hN p10 kc11; omega)
        refine D_lt (fun y12 ey12 => ?_)
        have hy12 : y12.toInt = (x4 + 1 : Int32).toInt := by rw [ey12]
        exact hk75 x3 y12 ⟨(by clear hx1 hx2 hx4 hN75 hN n6 kc5 p10 kc11 n13 hy12; omega), (by clear hx1 hx2 hx4 hN75 hN n6 kc5 p10 kc11 n13 hy12; omega)⟩ ⟨(by clear hx1 hx2 hx3 hN75 hN p10 kc11; omega), (by clear hx1 hx2 hx3 hN75 hN p10 kc11; omega)⟩ (by clear hx1 hx2 hx3 p10 kc11; omega)
      · have kc110 := tq_eqn (x := r7) (y := (0 : Int32)) rfl (b := 0) (by decide) c11
        have kc11 : 1 ≤ r7.toInt := (by clear hx1 hx2 hx3 hx4 hN75 hN n6 kc5; omega)
        clear kc110
        refine D_ite (fun c14 => ?_) (fun c14 => ?_)
        · have kc14 := tq_lt (x := x3) (y := (0 : Int32)) rfl (b := 0) (by decide) c14
          have n16 : (x4 + 1).toInt = x4.toInt + 1 := i_addK rfl (by decide) (by clear hx1 hx2 hx3 hN75 hN p10 kc11 kc14; omega) (by clear hx1 hx2 hx3 hN75 hN p10 kc11 kc14; omega)
          refine D_lt (fun y15 ey15 => ?_)
          have hy15 : y15.toInt = (x4 + 1 : Int32).toInt := by rw [ey15]
          exact hk75 x4 y15 ⟨(by clear hx1 hx2 hx3 hN75 hN p10 kc11 kc14; omega), (by clear hx1 hx2 hx3 hN75 hN p10 kc11 kc14; omega)⟩ ⟨(by clear hx1 hx2 hx3 hN75 hN p10 kc11 kc14; omega), (by clear hx1 hx2 hx3 hN75 hN p10 kc11 kc14; omega)⟩ (by clear hx1 hx2 hx3 p10 kc11 kc14; omega)
        · have kc14 := tq_ltn (x := x3) (y := (0 : Int32)) rfl (b := 0) (by decide) c14
          have n18 := i_rng (S 0 64)
          refine D_ite (fun c17 => ?_) (fun c17 => ?_)
          · have kc17 := tq_eq (x := (S 0 64)) (y := (2 : Int32)) rfl (b := 2) (by decide) c17
            have n20 : (x4 + 1).toInt = x4.toInt + 1 := i_addK rfl (by decide) (by clear hx1 hx2 hx3 hN75 hN p10 kc11 kc14 n18 kc17; omega) (by clear hx1 hx2 hx3 hN75 hN p10 kc11 kc14 n18 kc17; omega)
            refine D_lt (fun y19 ey19 => ?_)
            have hy19 : y19.toInt = (x4 + 1 : Int32).toInt := by rw [ey19]
            exact hk75 x4 y19 ⟨(by clear hx1 hx2 hx3 hN75 hN p10 kc11 kc14 n18 kc17; omega), (by clear hx1 hx2 hx3 hN75 hN p10 kc11 kc14 n18 kc17; omega)⟩ ⟨(by clear hx1 hx2 hx3 hN75 hN p10 kc11 kc14 n18 kc17; omega), (by clear hx1 hx2 hx3 hN75 hN p10 kc11 kc14 n18 kc17; omega)⟩ (by clear hx1 hx2 hx3 p10 kc11 kc14 n18 kc17; omega)
          · skip
            refine D_ite (fun c21 => ?_) (fun c21 => ?_)
            · have kc21 := tq_eq (x := (S 0 64)) (y := (1 : Int32)) rfl (b := 1) (by decide) c21
              refine D_bd (t_X8_weightIn S x1 x4 hS ⟨(by clear hx2 hx3 hx4 hN75 hN n6 kc5 p10 kc11 kc14 n18 kc21; omega), (by clear hx2 hx3 hx4 hN75 hN n6 kc5 p10 kc11 kc14 n18 kc21; omega)⟩ ⟨(by clear hx1 hx2 hx3 hN75 hN p10 kc11 kc14 n18 kc21; omega), (by clear hx1 hx2 hx3 hN75 hN p10 kc11 kc14 n18 kc21; omega)⟩) (fun r22 eq24 hq23 => ?_)
              have n25 := i_rng r22
              refine D_bd (t_X8_weightIn S x1 x3 hS ⟨(by clear hx2 hx3 hx4 hN75 hN n6 kc5 p10 kc11 kc14 n18 kc21 n25; omega), (by clear hx2 hx3 hx4 hN75 hN n6 kc5 p10 kc11 kc14 n18 kc21 n25; omega)⟩ ⟨(by clear hx1 hx2 hx4 hN75 hN n6 kc5 p10 kc11 n18 kc21 n25; omega), (by clear hx1 hx2 hx4 hN75 hN n6 kc5 p10 kc11 n18 kc21 n25; omega)⟩) (fun r26 eq28 hq27 => ?_)
              have n29 := i_rng r26
              refine D_ite (fun c30 => ?_) (fun c30 => ?_)
              · have kc30 := tq_le (x := r26) (y := r22) rfl rfl c30
                have n32 : (x4 + 1).toInt = x4.toInt + 1 := i_addK rfl (by decide) (by clear hx1 hx2 hx3 hN75 hN p10 kc11 kc14 n18 kc21 n25 n29 kc30; omega) (by clear hx1 hx2 hx3 hN75 hN p10 kc11 kc14 n18 kc21 n25 n29 kc30; omega)
                refine D_lt (fun y31 ey31 => ?_)
                have hy31 : y31.toInt = (x4 + 1 : Int32).toInt := by rw [ey31]
                exact hk75 x3 y31 ⟨(by clear hx1 hx2 hx4 hN75 hN n6 kc5 p10 kc11 n18 kc21 n25 n29 kc30 n32 hy31; omega), (by clear hx1 hx2 hx4 hN75 hN n6 kc5 p10 kc11 n18 kc21 n25 n29 kc30 n32 hy31; omega)⟩ ⟨(by clear hx1 hx2 hx3 hN75 hN p10 kc11 kc14 n18 kc21 n25 n29 kc30; omega), (by clear hx1 hx2 hx3 hN75 hN p10 kc11 kc14 n18 kc21 n25 n29 kc30; omega)⟩ (by clear hx1 hx2 hx3 p10 kc11 kc14 n18 kc21 n25 n29 kc30; omega)
              · have kc30 := tq_len (x := r26) (y := r22) rfl rfl c30
                have n34 : (x4 + 1).toInt = x4.toInt + 1 := i_addK rfl (by decide) (by clear hx1 hx2 hx3 hN75 hN p10 kc11 kc14 n18 kc21 n25 n29 kc30; omega) (by clear hx1 hx2 hx3 hN75 hN p10 kc11 kc14 n18 kc21 n25 n29 kc30; omega)
                refine D_lt (fun y33 ey33 => ?_)
                have hy33 : y33.toInt = (x4 + 1 : Int32).toInt := by rw [ey33]
                exact hk75 x4 y33 ⟨(by clear hx1 hx2 hx3 hN75 hN p10 kc11 kc14 n18 kc21 n25 n29 kc30; omega), (by clear hx1 hx2 hx3 hN75 hN p10 kc11 kc14 n18 kc21 n25 n29 kc30; omega)⟩ ⟨(by clear hx1 hx2 hx3 hN75 hN p10 kc11 kc14 n18 kc21 n25 n29 kc30; omega), (by clear hx1 hx2 hx3 hN75 hN p10 kc11 kc14 n18 kc21 n25 n29 kc30; omega)⟩ (by clear hx1 hx2 hx3 p10 kc11 kc14 n18 kc21 n25 n29 kc30; omega)
            · skip
              have n36 : (x4 + 1).toInt = x4.toInt + 1 := i_addK rfl (by decide) (by clear hx1 hx2 hx3 hN75 hN p10 kc11 kc14 n18; omega) (by clear hx1 hx2 hx3 hN75 hN p10 kc11 kc14 n18; omega)
              refine D_lt (fun y35 ey35 => ?_)
              have hy35 : y35.toInt = (x4 + 1 : Int32).toInt := by rw [ey35]
              exact hk75 x3 y35 ⟨(by clear hx1 hx2 hx4 hN75 hN n6 kc5 p10 kc11 n18 n36 hy35; omega), (by clear hx1 hx2 hx4 hN75 hN n6 kc5 p10 kc11 n18 n36 hy35; omega)⟩ ⟨(by clear hx1 hx2 hx3 hN75 hN p10 kc11 kc14 n18; omega), (by clear hx1 hx2 hx3 hN75 hN p10 kc11 kc14 n18; omega)⟩ (by clear hx1 hx2 hx3 p10 kc11 kc14 n18; omega)
set_option maxHeartbeats 1000000 in
set_option maxRecDepth 100000 in
theorem t_X8_placeFor (S : Tr) (x1 : Int32) (x2 : Int32) (hS : iR BM S) (hx1 : 0 ≤ x1.toInt ∧ x1.toInt ≤ 1) (hx2 : 0 ≤ x2.toInt ∧ x2.toInt ≤ 9) : D (f_X8_placeFor S x1 x2) (fun (q : Int32) => ((-1) ≤ q.toInt ∧ q.toInt ≤ 4)) := by
  unfold f_X8_placeFor
  refine D_ck (okI_of (by omega) (by omega)) ?_
  have n2 : (-1) ≤ (S 72 x2.toNatClampNeg).toInt ∧ (S 72 x2.toNatClampNeg).toInt ≤ 4 := hS 72 x2.toNatClampNeg
  refine D_ite (fun c1 => ?_) (fun c1 => ?_)
  · have kc1 := tq_lt (x := (S 72 x2.toNatClampNeg)) (y := (0 : Int32)) rfl (b := 0) (by decide) c1
    refine D_ck (okI_of (by clear hx1 n2 kc1; omega) (by clear hx1 n2 kc1; omega)) ?_
    have n4 : (-1) ≤ (S 33 x2.toNatClampNeg).toInt ∧ (S 33 x2.toNatClampNeg).toInt ≤ 4 := hS 33 x2.toNatClampNeg
    refine D_ite (fun c3 => ?_) (fun c3 => ?_)
    · have kc3 := tq_lt (x := (S 33 x2.toNatClampNeg)) (y := (0 : Int32)) rfl (b := 0) (by decide) c3
      have lm1 : ((-1) : Int32).toInt = (-1) := by decide
      have l0 : (0 : Int32).toInt = 0 := by decide
      exact tl_X8_placeFor_L75 S x1 x2 hS ⟨(by clear hx2 n2 kc1 n4 kc3; omega), (by clear hx2 n2 kc1 n4 kc3; omega)⟩ ⟨(by clear hx1 n2 kc1 n4 kc3; omega), (by clear hx1 n2 kc1 n4 kc3; omega)⟩   2000 ((-1) : Int32) (0 : Int32) ⟨(by clear hx1 hx2 n2 kc1 n4 kc3; omega), (by clear hx1 hx2 n2 kc1 n4 kc3; omega)⟩ ⟨(by clear hx1 hx2 n2 kc1 n4 kc3; omega), (by clear hx1 hx2 n2 kc1 n4 kc3; omega)⟩ (by clear hx1 hx2 n2 kc1 n4 kc3; omega)
    · have kc3 := tq_ltn (x := (S 33 x2.toNatClampNeg)) (y := (0 : Int32)) rfl (b := 0) (by decide) c3
      refine D_bd (t_X8_doesHold S x1 (S 33 x2.toNatClampNeg) x2 hS ⟨(by clear hx2 n2 kc1 n4 kc3; omega), (by clear hx2 n2 kc1 n4 kc3; omega)⟩ ⟨(by clear hx1 hx2 n2 kc1; omega), (by clear hx1 hx2 n2 kc1; omega)⟩ ⟨(by clear hx1 n2 kc1 n4 kc3; omega), (by clear hx1 n2 kc1 n4 kc3; omega)⟩) (fun r37 eq39 hq38 => ?_)
      have p40 : 0 ≤ r37.toInt ∧ r37.toInt ≤ 1 := hq38
      refine D_ite (fun c41 => ?_) (fun c41 => ?_)
      · have kc41 := tq_eq (x := r37) (y := (0 : Int32)) rfl (b := 0) (by decide) c41
        have lm1 : ((-1) : Int32).toInt = (-1) := by decide
        exact D_some (show ((-1) ≤ ((-1) : Int32).toInt ∧ ((-1) : Int32).toInt ≤ 4) from ⟨(by clear hx1 hx2 n2 kc1 n4 kc3 p40 kc41; omega), (by clear hx1 hx2 n2 kc1 n4 kc3 p40 kc41; omega)⟩)
      · have kc410 := tq_eqn (x := r37) (y := (0 : Int32)) rfl (b := 0) (by decide) c41
        have kc41 : 1 ≤ r37.toInt := (by clear hx1 hx2 n2 kc1 n4 kc3; omega)
        clear kc410
        exact D_some (show ((-1) ≤ (S 33 x2.toNatClampNeg).toInt ∧ (S 33 x2.toNatClampNeg).toInt ≤ 4) from ⟨(by clear hx1 hx2 n2 kc1 p40 kc41; omega), (by clear hx1 hx2 n2 kc1 p40 kc41; omega)⟩)
  · have kc1 := tq_ltn (x := (S 72 x2.toNatClampNeg)) (y := (0 : Int32)) rfl (b := 0) (by decide) c1
    refine D_bd (t_X8_doesHold S x1 (S 72 x2.toNatClampNeg) x2 hS ⟨(by clear hx2 n2 kc1; omega), (by clear hx2 n2 kc1; omega)⟩ ⟨(by omega), (by omega)⟩ ⟨(by clear hx1 n2 kc1; omega), (by clear hx1 n2 kc1; omega)⟩) (fun r42 eq44 hq43 => ?_)
    have p45 : 0 ≤ r42.toInt ∧ r42.toInt ≤ 1 := hq43
    refine D_ite (fun c46 => ?_) (fun c46 => ?_)
    · have kc46 := tq_eq (x := r42) (y := (0 : Int32)) rfl (b := 0) (by decide) c46
      have lm1 : ((-1) : Int32).toInt = (-1) := by decide
      exact D_some (show ((-1) ≤ ((-1) : Int32).toInt ∧ ((-1) : Int32).toInt ≤ 4) from ⟨(by clear hx1 hx2 n2 kc1 p45 kc46; omega), (by clear hx1 hx2 n2 kc1 p45 kc46; omega)⟩)
    · have kc460 := tq_eqn (x := r42) (y := (0 : Int32)) rfl (b := 0) (by decide) c46
      have kc46 : 1 ≤ r42.toInt := (by clear hx1 hx2 n2 kc1; omega)
      clear kc460
      exact D_some (show ((-1) ≤ (S 72 x2.toNatClampNeg).toInt ∧ (S 72 x2.toNatClampNeg).toInt ≤ 4) from ⟨(by clear hx1 hx2 p45 kc46; omega), (by clear hx1 hx2 p45 kc46; omega)⟩)
set_option maxHeartbeats 1000000 in
set_option maxRecDepth 100000 in
theorem tl_X8_ins_L146 (zkn : Int32) (zaG : Tr) (x1 : Int32) (hx1 : 0 ≤ x1.toInt ∧ x1.toInt ≤ 1)   (N : Nat) : ∀ (x2 : Int32) (S : Tr), aG x1.toNatClampNeg zaG S → pI S → gI x1.toNatClampNeg S → S 62 x1.toNatClampNeg = zkn → iR BM S → 0 ≤ x2.toInt ∧ x2.toInt ≤ 1000 → 1000 - x2.toInt < (N : Int) → D (lpF (fun _ _ => none) (fB_X8_ins_L146 x1) N x2 S) (fun (q : Tr) => (iR BM q) ∧ (aG x1.toNatClampNeg zaG q) ∧ (pI q) ∧ (gI x1.toNatClampNeg q) ∧ (q 62 x1.toNatClampNeg = zkn)) := by
  induction N with
  | zero =>
    intro x2 S daG dpI dgI dkn hS hx2 hN
    exfalso
    omega
  | succ N146 ih =>
    intro x2 S daG dpI dgI dkn hS hx2 hN
    have hk146 : ∀ (x2 : Int32) (S : Tr), aG x1.toNatClampNeg zaG S → pI S → gI x1.toNatClampNeg S → S 62 x1.toNatClampNeg = zkn → iR BM S → 0 ≤ x2.toInt ∧ x2.toInt ≤ 1000 → 1000 - x2.toInt < (N146 : Int) → D (lpF (fun _ _ => none) (fB_X8_ins_L146 x1) N146 x2 S) (fun (q : Tr) => (iR BM q) ∧ (aG x1.toNatClampNeg zaG q) ∧ (pI q) ∧ (gI x1.toNatClampNeg q) ∧ (q 62 x1.toNatClampNeg = zkn)) := ih
    show D (fB_X8_ins_L146 x1 (lpF (fun _ _ => none) (fB_X8_ins_L146 x1) N146) x2 S) _
    generalize lpF (fun _ _ => none) (fB_X8_ins_L146 x1) N146 = k146 at hk146 ⊢
    have hN146 : 1000 - x2.toInt < (N146 : Int) + 1 := by omega
    clear ih
    unfold fB_X8_ins_L146
    have n6 : 0 ≤ (S 0 14).toInt ∧ (S 0 14).toInt ≤ 10 := hS 0 14
    have n7 : 0 ≤ (S 0 13).toInt ∧ (S 0 13).toInt ≤ 6 := hS 0 13
    have n8 : 0 ≤ (S 0 12).toInt ∧ (S 0 12).toInt ≤ 5 := hS 0 12
    refine D_ite (fun c9 => ?_) (fun c9 => ?_)
    · have kc9 := tq_le (x := (S 0 12)) (y := x2) rfl rfl c9
      exact D_some (show (iR BM S) ∧ (aG x1.toNatClampNeg zaG S) ∧ (pI S) ∧ (gI x1.toNatClampNeg S) ∧ (S 62 x1.toNatClampNeg = zkn) from ⟨hS, daG, dpI, dgI, dkn⟩)
    · have kc9 := tq_len (x := (S 0 12)) (y := x2) rfl rfl c9
      refine D_ck (okI_of (by clear hx2 hN146 hN n6 n7 n8 kc9; omega) (by clear hx2 hN146 hN n6 n7 n8 kc9; omega)) ?_
      refine D_ck (okI_of (by clear hx1 hN146 hN n6 n7; omega) (by clear hx1 hN146 hN n6 n7; omega)) ?_
      have n11 := i_rng (S 24 x2.toNatClampNeg)
      refine D_ite (fun c10 => ?_) (fun c10 => ?_)
      · have kc10 := tq_eq (x := (S 24 x2.toNatClampNeg)) (y := (2 : Int32)) rfl (b := 2) (by decide) c10
        have n12 := i_mulL (a := (5 : Int32)) (b := x1) 5 (by decide) (by clear hx2 hN146 hN n6 n7 n8 kc9 n11 kc10; omega) (by clear hx2 hN146 hN n6 n7 n8 kc9 n11 kc10; omega)
        have n13 : (((5 : Int32) * x1) + x2).toInt = ((5 : Int32) * x1).toInt + x2.toInt := i_addK rfl rfl (by clear hN146 hN n6 n7 n11 kc10; omega) (by clear hN146 hN n6 n7 n11 kc10; omega)
        refine D_ck (okI_of (by clear hN146 hN n6 n7 n11 kc10; omega) (by clear hN146 hN n6 n7 n11 kc10; omega)) ?_
        unfold fJ_X8_ins_J185
        refine D_ck (okI_of (by clear hN146 hN n6 n7 n11 kc10; omega) (by clear hN146 hN n6 n7 n11 kc10; omega)) ?_
        refine D_lt (fun S_14 eS_14 => ?_)
        have hS_14 : iR BM S_14 := by rw [eS_14]; exact iR_setU hS rfl
        have kaG_t15 : aG x1.toNatClampNeg zaG S_14 := (by rw [eS_14]; exact aG_set daG (Wb_63 (inB_of (by clear hN146 hN n6 n7 n11 kc10; simp only [i_cl]; omega) (by clear hN146 hN n6 n7 n11 kc10; simp only [i_cl]; omega))))
        have kpI_t16 : pI S_14 := by rw [eS_14]; exact dpI
        have kgI_t17 : gI x1.toNatClampNeg S_14 := by rw [eS_14]; exact dgI
        have kkn_t18 : S_14 62 x1.toNatClampNeg = zkn := by rw [eS_14]; exact dkn
        have n19 : (S_14 0 13).toInt = (S 0 13).toInt := by rw [eS_14]; rfl
        have n20 : (S_14 0 12).toInt = (S 0 12).toInt := by rw [eS_14]; rfl
        have n21 : (S_14 0 14).toInt = (S 0 14).toInt := by rw [eS_14]; rfl
        have n23 : (x2 + 1).toInt = x2.toInt + 1 := i_addK rfl (by decide) (by clear hN146 hN n6 n7 n11 kc10 n19 n21; omega) (by clear hN146 hN n6 n7 n11 kc10 n19 n21; omega)
        refine D_lt (fun y22 ey22 => ?_)
        have hy22 : y22.toInt = (x2 + 1 : Int32).toInt := by rw [ey22]
        exact hk146 y22 S_14 kaG_t15 kpI_t16 kgI_t17 kkn_t18 hS_14 ⟨(by clear hN146 hN n6 n7 n11 kc10 n19 n21; omega), (by clear hN146 hN n6 n7 n11 kc10 n19 n21; omega)⟩ (by clear n6 n7 n11 kc10 n19 n21; omega)
      · skip
        unfold fJ_X8_ins_J185
        refine D_ck (okI_of (by clear hx2 hN146 hN n6 n7 n8 kc9 n11; omega) (by clear hx2 hN146 hN n6 n7 n8 kc9 n11; omega)) ?_
        refine D_lt (fun S_24 eS_24 => ?_)
        have hS_24 : iR BM S_24 := by rw [eS_24]; exact iR_setU hS rfl
        have kaG_t25 : aG x1.toNatClampNeg zaG S_24 := (by rw [eS_24]; exact aG_set daG (Wb_63 (inB_of (by clear hx2 hN146 hN n6 n7 n8 kc9 n11; simp only [i_cl]; omega) (by clear hx2 hN146 hN n6 n7 n8 kc9 n11; simp only [i_cl]; omega))))
        have kpI_t26 : pI S_24 := by rw [eS_24]; exact dpI
        have kgI_t27 : gI x1.toNatClampNeg S_24 := by rw [eS_24]; exact dgI
        have kkn_t28 : S_24 62 x1.toNatClampNeg = zkn := by rw [eS_24]; exact dkn
        have n29 : (S_24 0 13).toInt = (S 0 13).toInt := by rw [eS_24]; rfl
        have n30 : (S_24 0 12).toInt = (S 0 12).toInt := by rw [eS_24]; rfl
        have n31 : (S_24 0 14).toInt = (S 0 14).toInt := by rw [eS_24]; rfl
        have n33 : (x2 + 1).toInt = x2.toInt + 1 := i_addK rfl (by decide) (by clear hx1 hN146 hN n6 n7 n11 n29 n31; omega) (by clear hx1 hN146 hN n6 n7 n11 n29 n31; omega)
        refine D_lt (fun y32 ey32 => ?_)
        have hy32 : y32.toInt = (x2 + 1 : Int32).toInt := by rw [ey32]
        exact hk146 y32 S_24 kaG_t25 kpI_t26 kgI_t27 kkn_t28 hS_24 ⟨(by clear hx1 hN146 hN n6 n7 n11 n29 n31; omega), (by clear hx1 hN146 hN n6 n7 n11 n29 n31; omega)⟩ (by clear hx1 n6 n7 n11 n29 n31; omega)
set_option maxHeartbeats 1000000 in
set_option maxRecDepth 100000 in
theorem tl_X8_ins_L61 (zkn : Int32) (zaG : Tr) (x1 : Int32) (x2 : Int32) (N2 : Nat) (hx1 : 0 ≤ x1.toInt ∧ x1.toInt ≤ 1) (hx2 : 0 ≤ x2.toInt ∧ x2.toInt ≤ 5) (hN2 : 1000 - x2.toInt < (N2 : Int) + 1) (k2 : Int32 → Tr → Option (Tr)) (hk2 : ∀ (x2 : Int32) (S : Tr), aG x1.toNatClampNeg zaG S → pI S → gI x1.toNatClampNeg S → S 62 x1.toNatClampNeg = zkn → iR BM S → 0 ≤ x2.toInt ∧ x2.toInt ≤ 1000 → 1000 - x2.toInt < (N2 : Int) → D (k2 x2 S) (fun (q : Tr) => (iR BM q) ∧ (aG x1.toNatClampNeg zaG q) ∧ (pI q) ∧ (gI x1.toNatClampNeg q) ∧ (q 62 x1.toNatClampNeg = zkn))) (N : Nat) : ∀ (x3 : Int32) (S : Tr), aG x1.toNatClampNeg zaG S → pI S → gI x1.toNatClampNeg S → S 62 x1.toNatClampNeg = zkn → iR BM S → 0 ≤ x3.toInt ∧ x3.toInt ≤ 1000 → 1000 - x3.toInt < (N : Int) → D (lpF (fun _ _ => none) (fB_X8_ins_L61 k2 x1 x2) N x3 S) (fun (q : Tr) => (iR BM q) ∧ (aG x1.toNatClampNeg zaG q) ∧ (pI q) ∧ (gI x1.toNatClampNeg q) ∧ (q 62 x1.toNatClampNeg = zkn)) := by
  induction N with
  | zero =>
    intro x3 S daG dpI dgI dkn hS hx3 hN
    exfalso
    omega
  | succ N61 ih =>
    intro x3 S daG dpI dgI dkn hS hx3 hN
    have hk61 : ∀ (x3 : Int32) (S : Tr), aG x1.toNatClampNeg zaG S → pI S → gI x1.toNatClampNeg S → S 62 x1.toNatClampNeg = zkn → iR BM S → 0 ≤ x3.toInt ∧ x3.toInt ≤ 1000 → 1000 - x3.toInt < (N61 : Int) → D (lpF (fun _ _ => none) (fB_X8_ins_L61 k2 x1 x2) N61 x3 S) (fun (q : Tr) => (iR BM q) ∧ (aG x1.toNatClampNeg zaG q) ∧ (pI q) ∧ (gI x1.toNatClampNeg q) ∧ (q 62 x1.toNatClampNeg = zkn)) := ih
    show D (fB_X8_ins_L61 k2 x1 x2 (lpF (fun _ _ => none) (fB_X8_ins_L61 k2 x1 x2) N61) x3 S) _
    generalize lpF (fun _ _ => none) (fB_X8_ins_L61 k2 x1 x2) N61 = k61 at hk61 ⊢
    have hN61 : 1000 - x3.toInt < (N61 : Int) + 1 := by omega
    clear ih
    unfold fB_X8_ins_L61
    have n49 : 0 ≤ (S 0 14).toInt ∧ (S 0 14).toInt ≤ 10 := hS 0 14
    have n50 : 0 ≤ (S 0 13).toInt ∧ (S 0 13).toInt ≤ 6 := hS 0 13
    have n51 : 0 ≤ (S 0 12).toInt ∧ (S 0 12).toInt ≤ 5 := hS 0 12
    refine D_ite (fun c52 => ?_) (fun c52 => ?_)
    · have kc52 := tq_le (x := (S 0 14)) (y := x3) rfl rfl c52
      have n54 : (x2 + 1).toInt = x2.toInt + 1 := i_addK rfl (by decide) (by clear hx1 hx3 hN2 hN61 hN n49 n50 n51 kc52; omega) (by clear hx1 hx3 hN2 hN61 hN n49 n50 n51 kc52; omega)
      refine D_lt (fun y53 ey53 => ?_)
      have hy53 : y53.toInt = (x2 + 1 : Int32).toInt := by rw [ey53]
      exact hk2 y53 S daG dpI dgI dkn hS ⟨(by clear hx1 hx3 hN2 hN61 hN n49 n50 n51 kc52; omega), (by clear hx1 hx3 hN2 hN61 hN n49 n50 n51 kc52; omega)⟩ (by clear hx1 hx3 hN61 hN n49 n50 n51 kc52; omega)
    · have kc52 := tq_len (x := (S 0 14)) (y := x3) rfl rfl c52
      refine D_ck (okI_of (by clear hx1 hx2 hN2 hN61 hN n50 n51; omega) (by clear hx1 hx2 hN2 hN61 hN n50 n51; omega)) ?_
      have n56 : 0 ≤ (S 30 x3.toNatClampNeg).toInt ∧ (S 30 x3.toNatClampNeg).toInt ≤ 5 := hS 30 x3.toNatClampNeg
      refine D_ite (fun c55 => ?_) (fun c55 => ?_)
      · have kc55 := tq_eq (x := (S 30 x3.toNatClampNeg)) (y := x2) rfl rfl c55
        have n57 := i_mulL (a := (10 : Int32)) (b := x1) 10 (by decide) (by clear hx2 hx3 hN2 hN61 hN n49 n50 n51 kc52 n56 kc55; omega) (by clear hx2 hx3 hN2 hN61 hN n49 n50 n51 kc52 n56 kc55; omega)
        have n58 : (((10 : Int32) * x1) + x3).toInt = ((10 : Int32) * x1).toInt + x3.toInt := i_addK rfl rfl (by clear hx2 hN2 hN61 hN n50 n51 n56 kc55; omega) (by clear hx2 hN2 hN61 hN n50 n51 n56 kc55; omega)
        refine D_ck (okI_of (by clear hx2 hN2 hN61 hN n50 n51 n56 kc55; omega) (by clear hx2 hN2 hN61 hN n50 n51 n56 kc55; omega)) ?_
        have n60 : 0 ≤ (S 53 (((10 : Int32) * x1) + x3).toNatClampNeg).toInt ∧ (S 53 (((10 : Int32) * x1) + x3).toNatClampNeg).toInt ≤ 5 := hS 53 ((((10 : Int32) * x1) + x3).toNatClampNeg)
        refine D_ite (fun c59 => ?_) (fun c59 => ?_)
        · have kc59 := tq_eq (x := (S 53 (((10 : Int32) * x1) + x3).toNatClampNeg)) (y := (0 : Int32)) rfl (b := 0) (by decide) c59
          refine D_bd (t_X8_placeFor S x1 x3 hS ⟨(by clear hx2 hN2 hN61 hN n50 n51 n56 kc55 n60 kc59; omega), (by clear hx2 hN2 hN61 hN n50 n51 n56 kc55 n60 kc59; omega)⟩ ⟨(by clear hx2 hN2 hN61 hN n50 n51 n56 kc55 n60 kc59; omega), (by clear hx2 hN2 hN61 hN n50 n51 n56 kc55 n60 kc59; omega)⟩) (fun r61 eq63 hq62 => ?_)
          have p64 : (-1) ≤ r61.toInt ∧ r61.toInt ≤ 4 := hq62
          refine D_ite (fun c65 => ?_) (fun c65 => ?_)
          · have kc65 := tq_le (x := (0 : Int32)) (y := r61) (a := 0) (by decide) rfl c65
            refine D_bd (t_X8_lays2 S x1 r61 x3 hS dgI ⟨(by clear hx2 hN2 hN61 hN n50 n51 n56 kc55 n60 kc59 p64 kc65; omega), (by clear hx2 hN2 hN61 hN n50 n51 n56 kc55 n60 kc59 p64 kc65; omega)⟩ ⟨(by clear hx1 hx2 hx3 hN2 hN61 hN n49 n50 n51 kc52 n56 kc55 n57 n58 n60 kc59; omega), (by clear hx1 hx2 hx3 hN2 hN61 hN n49 n50 n51 kc52 n56 kc55 n57 n58 n60 kc59; omega)⟩ ⟨(by clear hx2 hN2 hN61 hN n50 n51 n56 kc55 n60 kc59 p64 kc65; omega), (by clear hx2 hN2 hN61 hN n50 n51 n56 kc55 n60 kc59 p64 kc65; omega)⟩ (by rw [c59]; decide) (by first | assumption | exact (by clear hx2 hN2 hN61 hN n50 n51 n56 kc55 n60 kc59 p64 kc65; omega))) (fun S_66 eq68 hq67 => ?_)
            obtain ⟨p69, p70, p71, p72⟩ : (iR BM S_66) ∧ (gI x1.toNatClampNeg S_66) ∧ (aG x1.toNatClampNeg S S_66) ∧ (S_66 62 x1.toNatClampNeg = (S 62 x1.toNatClampNeg)) := hq67
            have k73 : aG x1.toNatClampNeg zaG S_66 := aG_tr daG p71
            have k74 : S_66 62 x1.toNatClampNeg = zkn := p72.trans dkn
            have n75 : (S_66 0 12).toInt = (S 0 12).toInt := congrArg Int32.toInt (p71 0 _ rfl)
            have n76 : (S_66 0 13).toInt = (S 0 13).toInt := congrArg Int32.toInt (p71 0 _ rfl)
            have n77 : (S_66 0 14).toInt = (S 0 14).toInt := congrArg Int32.toInt (p71 0 _ rfl)
            have kpI_t78 : pI S_66 := (pI_aG dpI p71)
            have n80 : (x3 + 1).toInt = x3.toInt + 1 := i_addK rfl (by decide) (by clear hx2 hN2 hN61 hN n50 n51 n56 kc55 n60 kc59 p64 kc65 n75 n76; omega) (by clear hx2 hN2 hN61 hN n50 n51 n56 kc55 n60 kc59 p64 kc65 n75 n76; omega)
            refine D_lt (fun y79 ey79 => ?_)
            have hy79 : y79.toInt = (x3 + 1 : Int32).toInt := by rw [ey79]
            exact hk61 y79 S_66 k73 kpI_t78 p70 k74 p69 ⟨(by clear hx2 hN2 hN61 hN n50 n51 n56 kc55 n60 kc59 p64 kc65 n75 n76; omega), (by clear hx2 hN2 hN61 hN n50 n51 n56 kc55 n60 kc59 p64 kc65 n75 n76; omega)⟩ (by clear hx2 hN2 n50 n51 n56 kc55 n60 kc59 p64 kc65 n75 n76; omega)
          · have kc65 := tq_len (x := (0 : Int32)) (y := r61) (a := 0) (by decide) rfl c65
            have l5 : (5 : Int32).toInt = 5 := by decide
            refine D_lt (fun S_81 eS_81 => ?_)
            have hS_81 : iR BM S_81 := by rw [eS_81]; exact iR_set hS (show (0 : Int) ≤ _ from (by clear hx1 hx2 hx3 hN2 hN61 hN n49 n50 n51 kc52 n56 kc55 n57 n58 n60 kc59 p64 kc65; omega)) (show _ ≤ (5 : Int) from (by clear hx1 hx2 hx3 hN2 hN61 hN n49 n50 n51 kc52 n56 kc55 n57 n58 n60 kc59 p64 kc65; omega))
            have kaG_t82 : aG x1.toNatClampNeg zaG S_81 := (by rw [eS_81]; exact aG_set daG (Wb_53 (inB_of (by clear hx2 hN2 hN61 hN n50 n51 n56 kc55 n60 kc59 p64 kc65; simp only [i_cl]; omega) (by clear hx2 hN2 hN61 hN n50 n51 n56 kc55 n60 kc59 p64 kc65; simp only [i_cl]; omega))))
            have kpI_t83 : pI S_81 := by rw [eS_81]; exact dpI
            have kgI_t84 : gI x1.toNatClampNeg S_81 := (by rw [eS_81]; exact gI_53 dgI hx1 ⟨(by clear hx2 hN2 hN61 hN n50 n51 n56 kc55 n60 kc59 p64 kc65; omega), (by clear hx2 hN2 hN61 hN n50 n51 n56 kc55 n60 kc59 p64 kc65; omega)⟩ (by rw [c59]; decide) (by decide))
            have kkn_t85 : S_81 62 x1.toNatClampNeg = zkn := by rw [eS_81]; exact dkn
            have n86 : (S_81 0 12).toInt = (S 0 12).toInt := by rw [eS_81]; rfl
            have n87 : (S_81 0 14).toInt = (S 0 14).toInt := by rw [eS_81]; rfl
            have n88 : (S_81 0 13).toInt = (S 0 13).toInt := by rw [eS_81]; rfl
            have n90 : (x3 + 1).toInt = x3.toInt + 1 := i_addK rfl (by decide) (by clear hx2 hN2 hN61 hN n50 n51 n56 kc55 n60 kc59 p64 kc65 n86 n88; omega) (by clear hx2 hN2 hN61 hN n50 n51 n56 kc55 n60 kc59 p64 kc65 n86 n88; omega)
            refine D_lt (fun y89 ey89 => ?_)
            have hy89 : y89.toInt = (x3 + 1 : Int32).toInt := by rw [ey89]
            exact hk61 y89 S_81 kaG_t82 kpI_t83 kgI_t84 kkn_t85 hS_81 ⟨(by clear hx2 hN2 hN61 hN n50 n51 n56 kc55 n60 kc59 p64 kc65 n86 n88; omega), (by clear hx2 hN2 hN61 hN n50 n51 n56 kc55 n60 kc59 p64 kc65 n86 n88; omega)⟩ (by clear hx2 hN2 n50 n51 n56 kc55 n60 kc59 p64 kc65 n86 n88; omega)
        · have kc590 := tq_eqn (x := (S 53 (((10 : Int32) * x1) + x3).toNatClampNeg)) (y := (0 : Int32)) rfl (b := 0) (by decide) c59
          have kc59 : 1 ≤ (S 53 (((10 : Int32) * x1) + x3).toNatClampNeg).toInt := (by clear hx1 hx2 hx3 hN2 hN61 hN n49 n50 n51 kc52 n56 kc55 n57 n58; omega)
          clear kc590
          have n92 : (x3 + 1).toInt = x3.toInt + 1 := i_addK rfl (by decide) (by clear hx2 hN2 hN61 hN n50 n51 n56 kc55 n60 kc59; omega) (by clear hx2 hN2 hN61 hN n50 n51 n56 kc55 n60 kc59; omega)
          refine D_lt (fun y91 ey91 => ?_)
          have hy91 : y91.toInt = (x3 + 1 : Int32).toInt := by rw [ey91]
          exact hk61 y91 S daG dpI dgI dkn hS ⟨(by clear hx2 hN2 hN61 hN n50 n51 n56 kc55 n60 kc59; omega), (by clear hx2 hN2 hN61 hN n50 n51 n56 kc55 n60 kc59; omega)⟩ (by clear hx2 hN2 n50 n51 n56 kc55 n60 kc59; omega)
      · skip
        have n94 : (x3 + 1).toInt = x3.toInt + 1 := i_addK rfl (by decide) (by clear hx1 hx2 hN2 hN61 hN n50 n51 n56; omega) (by clear hx1 hx2 hN2 hN61 hN n50 n51 n56; omega)
        refine D_lt (fun y93 ey93 => ?_)
        have hy93 : y93.toInt = (x3 + 1 : Int32).toInt := by rw [ey93]
        exact hk61 y93 S daG dpI dgI dkn hS ⟨(by clear hx1 hx2 hN2 hN61 hN n50 n51 n56; omega), (by clear hx1 hx2 hN2 hN61 hN n50 n51 n56; omega)⟩ (by clear hx1 hx2 hN2 n50 n51 n56; omega)
set_option maxHeartbeats 1000000 in
set_option maxRecDepth 100000 in
theorem tl_X8_ins_L2 (zkn : Int32) (zaG : Tr) (x1 : Int32) (hx1 : 0 ≤ x1.toInt ∧ x1.toInt ≤ 1)   (N : Nat) : ∀ (x2 : Int32) (S : Tr), aG x1.toNatClampNeg zaG S → pI S → gI x1.toNatClampNeg S → S 62 x1.toNatClampNeg = zkn → iR BM S → 0 ≤ x2.toInt ∧ x2.toInt ≤ 1000 → 1000 - x2.toInt < (N : Int) → D (lpF (fun _ _ => none) (fB_X8_ins_L2 x1) N x2 S) (fun (q : Tr) => (iR BM q) ∧ (aG x1.toNatClampNeg zaG q) ∧ (pI q) ∧ (gI x1.toNatClampNeg q) ∧ (q 62 x1.toNatClampNeg = zkn)) := by
  induction N with
  | zero =>
    intro x2 S daG dpI dgI dkn hS hx2 hN
    exfalso
    omega
  | succ N2 ih =>
    intro x2 S daG dpI dgI dkn hS hx2 hN
    have hk2 : ∀ (x2 : Int32) (S : Tr), aG x1.toNatClampNeg zaG S → pI S → gI x1.toNatClampNeg S → S 62 x1.toNatClampNeg = zkn → iR BM S → 0 ≤ x2.toInt ∧ x2.toInt ≤ 1000 → 1000 - x2.toInt < (N2 : Int) → D (lpF (fun _ _ => none) (fB_X8_ins_L2 x1) N2 x2 S) (fun (q : Tr) => (iR BM q) ∧ (aG x1.toNatClampNeg zaG q) ∧ (pI q) ∧ (gI x1.toNatClampNeg q) ∧ (q 62 x1.toNatClampNeg = zkn)) := ih
    show D (fB_X8_ins_L2 x1 (lpF (fun _ _ => none) (fB_X8_ins_L2 x1) N2) x2 S) _
    generalize lpF (fun _ _ => none) (fB_X8_ins_L2 x1) N2 = k2 at hk2 ⊢
    have hN2 : 1000 - x2.toInt < (N2 : Int) + 1 := by omega
    clear ih
    unfold fB_X8_ins_L2
    have n2 : 0 ≤ (S 0 14).toInt ∧ (S 0 14).toInt ≤ 10 := hS 0 14
    have n3 : 0 ≤ (S 0 13).toInt ∧ (S 0 13).toInt ≤ 6 := hS 0 13
    have n4 : 0 ≤ (S 0 12).toInt ∧ (S 0 12).toInt ≤ 5 := hS 0 12
    refine D_ite (fun c5 => ?_) (fun c5 => ?_)
    · have kc5 := tq_le (x := (S 0 13)) (y := x2) rfl rfl c5
      have l0 : (0 : Int32).toInt = 0 := by decide
      exact tl_X8_ins_L146 zkn zaG x1 ⟨(by clear hx2 hN2 hN n2 n3 n4 kc5; omega), (by clear hx2 hN2 hN n2 n3 n4 kc5; omega)⟩   2000 (0 : Int32) S daG dpI dgI dkn hS ⟨(by clear hx1 hx2 hN2 hN n2 n3 n4 kc5; omega), (by clear hx1 hx2 hN2 hN n2 n3 n4 kc5; omega)⟩ (by clear hx1 hx2 hN2 hN n2 n3 n4 kc5; omega)
    · have kc5 := tq_len (x := (S 0 13)) (y := x2) rfl rfl c5
      have n34 := i_mulL (a := (6 : Int32)) (b := x1) 6 (by decide) (by clear hx2 hN2 hN n2 n3 n4 kc5; omega) (by clear hx2 hN2 hN n2 n3 n4 kc5; omega)
      have n35 : (((6 : Int32) * x1) + x2).toInt = ((6 : Int32) * x1).toInt + x2.toInt := i_addK rfl rfl (by clear hN2 hN n2 n4; omega) (by clear hN2 hN n2 n4; omega)
      refine D_ck (okI_of (by clear hN2 hN n2 n4; omega) (by clear hN2 hN n2 n4; omega)) ?_
      refine D_ck (okI_of (by clear hN2 hN n2 n4; omega) (by clear hN2 hN n2 n4; omega)) ?_
      have n37 := i_rng (S 57 (((6 : Int32) * x1) + x2).toNatClampNeg)
      have n38 : 0 ≤ (S 62 x1.toNatClampNeg).toInt ∧ (S 62 x1.toNatClampNeg).toInt ≤ 21 := hS 62 x1.toNatClampNeg
      refine D_ite (fun c36 => ?_) (fun c36 => ?_)
      · have kc36 := tq_eq (x := (S 57 (((6 : Int32) * x1) + x2).toNatClampNeg)) (y := (S 62 x1.toNatClampNeg)) rfl rfl c36
        have n40 := i_rng (S 59 (((6 : Int32) * x1) + x2).toNatClampNeg)
        refine D_ite (fun c39 => ?_) (fun c39 => ?_)
        · have kc39 := tq_eq (x := (S 59 (((6 : Int32) * x1) + x2).toNatClampNeg)) (y := (0 : Int32)) rfl (b := 0) (by decide) c39
          refine D_lt (fun S_41 eS_41 => ?_)
          have hS_41 : iR BM S_41 := by rw [eS_41]; exact iR_setU hS rfl
          have kaG_t42 : aG x1.toNatClampNeg zaG S_41 := (by rw [eS_41]; exact aG_set daG (Wb_59 (inB_of (by clear hN2 hN n2 n4 n37 n38 kc36 n40 kc39; simp only [i_cl]; omega) (by clear hN2 hN n2 n4 n37 n38 kc36 n40 kc39; simp only [i_cl]; omega))))
          have kpI_t43 : pI S_41 := by rw [eS_41]; exact dpI
          have kgI_t44 : gI x1.toNatClampNeg S_41 := by rw [eS_41]; exact dgI
          have kkn_t45 : S_41 62 x1.toNatClampNeg = zkn := by rw [eS_41]; exact dkn
          have n46 : (S_41 0 12).toInt = (S 0 12).toInt := by rw [eS_41]; rfl
          have n47 : (S_41 0 14).toInt = (S 0 14).toInt := by rw [eS_41]; rfl
          have n48 : (S_41 0 13).toInt = (S 0 13).toInt := by rw [eS_41]; rfl
          have l0 : (0 : Int32).toInt = 0 := by decide
          exact tl_X8_ins_L61 zkn zaG x1 x2 N2 ⟨(by clear hN2 hN n2 n4 n37 n38 kc36 n40 kc39 n46 n47; omega), (by clear hN2 hN n2 n4 n37 n38 kc36 n40 kc39 n46 n47; omega)⟩ ⟨(by clear hN2 hN n2 n4 n37 n38 kc36 n40 kc39 n46 n47; omega), (by clear hN2 hN n2 n4 n37 n38 kc36 n40 kc39 n46 n47; omega)⟩ hN2 k2 hk2 2000 (0 : Int32) S_41 kaG_t42 kpI_t43 kgI_t44 kkn_t45 hS_41 ⟨(by clear hx1 hx2 hN2 hN n2 n3 n4 kc5 n34 n35 n37 n38 kc36 n40 kc39 n46 n47 n48; omega), (by clear hx1 hx2 hN2 hN n2 n3 n4 kc5 n34 n35 n37 n38 kc36 n40 kc39 n46 n47 n48; omega)⟩ (by clear hx1 hx2 hN2 hN n2 n3 n4 kc5 n34 n35 n37 n38 kc36 n40 kc39 n46 n47 n48; omega)
        · skip
          have n96 : (x2 + 1).toInt = x2.toInt + 1 := i_addK rfl (by decide) (by clear hN2 hN n2 n4 n37 n38 kc36 n40; omega) (by clear hN2 hN n2 n4 n37 n38 kc36 n40; omega)
          refine D_lt (fun y95 ey95 => ?_)
          have hy95 : y95.toInt = (x2 + 1 : Int32).toInt := by rw [ey95]
          exact hk2 y95 S daG dpI dgI dkn hS ⟨(by clear hN2 hN n2 n4 n37 n38 kc36 n40; omega), (by clear hN2 hN n2 n4 n37 n38 kc36 n40; omega)⟩ (by clear n2 n4 n37 n38 kc36 n40; omega)
      · skip
        have n98 : (x2 + 1).toInt = x2.toInt + 1 := i_addK rfl (by decide) (by clear hN2 hN n2 n4 n37 n38; omega) (by clear hN2 hN n2 n4 n37 n38; omega)
        refine D_lt (fun y97 ey97 => ?_)
        have hy97 : y97.toInt = (x2 + 1 : Int32).toInt := by rw [ey97]
        exact hk2 y97 S daG dpI dgI dkn hS ⟨(by clear hN2 hN n2 n4 n37 n38; omega), (by clear hN2 hN n2 n4 n37 n38; omega)⟩ (by clear n2 n4 n37 n38; omega)
set_option maxHeartbeats 1000000 in
set_option maxRecDepth 100000 in
theorem t_X8_ins (S : Tr) (x1 : Int32) (hS : iR BM S) (dpI : pI S) (dgI : gI x1.toNatClampNeg S) (hx1 : 0 ≤ x1.toInt ∧ x1.toInt ≤ 1) : D (f_X8_ins S x1) (fun (q : Tr) => (iR BM q) ∧ (aG x1.toNatClampNeg S q) ∧ (pI q) ∧ (gI x1.toNatClampNeg q) ∧ (q 62 x1.toNatClampNeg = (S 62 x1.toNatClampNeg))) := by
  unfold f_X8_ins
  have n1 : 0 ≤ (S 0 14).toInt ∧ (S 0 14).toInt ≤ 10 := hS 0 14
  have l0 : (0 : Int32).toInt = 0 := by decide
  exact tl_X8_ins_L2 (S 62 x1.toNatClampNeg) S x1 ⟨(by omega), (by omega)⟩   2000 (0 : Int32) S aG_rfl dpI dgI rfl hS ⟨(by omega), (by omega)⟩ (by omega)
set_option maxHeartbeats 1000000 in
set_option maxRecDepth 100000 in
theorem t_X8_fallOf (S : Tr) (L : Lo) (x1 : Int32) (x2 : Int32) (hS : iR BM S) (dpI : pI S) (dgI : gI x1.toNatClampNeg S) (hx1 : 0 ≤ x1.toInt ∧ x1.toInt ≤ 1) (hx2 : 0 ≤ x2.toInt ∧ x2.toInt ≤ 9) (hly : 0 ≤ (S 54 (((10 : Int32) * x1) + x2).toNatClampNeg).toInt) : D (f_X8_fallOf S L x1 x2) (fun (q : Int32 × Tr × Lo) => (iR BM (q.2.1)) ∧ (aT S (q.2.1)) ∧ (pI (q.2.1)) ∧ (gI x1.toNatClampNeg (q.2.1))) := by
  unfold f_X8_fallOf
  have n2 : 0 ≤ (S 0 68).toInt ∧ (S 0 68).toInt ≤ 1 := hS 0 68
  refine D_ite (fun c1 => ?_) (fun c1 => ?_)
  · have kc1 := tq_eq (x := (S 0 68)) (y := (0 : Int32)) rfl (b := 0) (by decide) c1
    unfold fJ_X8_fallOf_J17
    refine D_bd (t_X8_belowOf S x1 x2 hS ⟨(by clear hx2 hly n2 kc1; omega), (by clear hx2 hly n2 kc1; omega)⟩ ⟨(by clear hx1 hly n2 kc1; omega), (by clear hx1 hly n2 kc1; omega)⟩ dgI.1 (by first | assumption | exact (by clear hx1 hx2 n2 kc1; omega))) (fun r3 eq5 hq4 => ?_)
    obtain ⟨p6, p7, p8⟩ : (0 ≤ r3.toInt ∧ r3.toInt ≤ 9) ∧ (r3.toInt < (S 56 (((5 : Int32) * x1) + (S 54 (((10 : Int32) * x1) + x2).toNatClampNeg)).toNatClampNeg).toInt) ∧ (S 55 (50 * x1.toNatClampNeg + 10 * (S 54 (((10 : Int32) * x1) + x2).toNatClampNeg).toNatClampNeg + r3.toNatClampNeg) = x2) := hq4
    refine D_ck (okI_of (by clear hx1 hly n2 kc1 p6 p7; omega) (by clear hx1 hly n2 kc1 p6 p7; omega)) ?_
    refine D_lt (fun y9 ey9 => ?_)
    have n10 := i_rng (((S 23 1) + ((10 : Int32) * r3)) - (S 31 x2.toNatClampNeg))
    have hy9 : y9.toInt = (((S 23 1) + ((10 : Int32) * r3)) - (S 31 x2.toNatClampNeg)).toInt := by rw [ey9]
    have n11 : 0 ≤ (S 30 x2.toNatClampNeg).toInt ∧ (S 30 x2.toNatClampNeg).toInt ≤ 5 := hS 30 x2.toNatClampNeg
    refine D_bd (t_X8_layNames S L x1 x2 (S 30 x2.toNatClampNeg) hS ⟨(by clear hx2 hly n2 kc1 p6 p7 n10 hy9 n11; omega), (by clear hx2 hly n2 kc1 p6 p7 n10 hy9 n11; omega)⟩ ⟨(by clear hx1 hly n2 kc1 p6 p7 n10 hy9 n11; omega), (by clear hx1 hly n2 kc1 p6 p7 n10 hy9 n11; omega)⟩ ⟨(by clear hx1 hx2 hly n2 kc1 p6 p7 n10 hy9; omega), (by clear hx1 hx2 hly n2 kc1 p6 p7 n10 hy9; omega)⟩ dgI.1 hly) (fun L_12 eq14 hq13 => ?_)
    refine D_ite (fun c15 => ?_) (fun c15 => ?_)
    · have kc15 := tq_le (x := (0 : Int32)) (y := y9) (a := 0) (by decide) rfl c15
      unfold fJ_X8_fallOf_J58
      have l1 : (1 : Int32).toInt = 1 := by decide
      have l100 : (100 : Int32).toInt = 100 := by decide
      refine D_bd3 (t_X8_boundLaw S L_12 (1 : Int32) y9 (100 : Int32) hS dpI ⟨(by clear hx1 hx2 hly n2 kc1 p6 p7 n10 hy9 n11 kc15; omega), (by clear hx1 hx2 hly n2 kc1 p6 p7 n10 hy9 n11 kc15; omega)⟩) (fun r16 S_17 L_18 eq20 hq19 => ?_)
      refine D_lte (y := r16) rfl ?_
      refine D_lte (y := S_17) rfl ?_
      refine D_lte (y := L_18) rfl ?_
      obtain ⟨p21, p22, p23⟩ : (iR BM S_17) ∧ (aT S S_17) ∧ (pI S_17) := hq19
      have n24 := i_rng r16
      have k25 : aT S S_17 := p22
      have kgI_t26 : gI x1.toNatClampNeg S_17 := (gI_aT dgI p22)
      exact D_some (show (iR BM S_17) ∧ (aT S S_17) ∧ (pI S_17) ∧ (gI x1.toNatClampNeg S_17) from ⟨p21, k25, p23, kgI_t26⟩)
    · have kc15 := tq_len (x := (0 : Int32)) (y := y9) (a := 0) (by decide) rfl c15
      unfold fJ_X8_fallOf_J58
      have l1 : (1 : Int32).toInt = 1 := by decide
      have l0 : (0 : Int32).toInt = 0 := by decide
      have l100 : (100 : Int32).toInt = 100 := by decide
      refine D_bd3 (t_X8_boundLaw S L_12 (1 : Int32) (0 : Int32) (100 : Int32) hS dpI ⟨(by clear hx1 hx2 hly n2 kc1 p6 p7 n10 hy9 n11 kc15; omega), (by clear hx1 hx2 hly n2 kc1 p6 p7 n10 hy9 n11 kc15; omega)⟩) (fun r27 S_28 L_29 eq31 hq30 => ?_)
      refine D_lte (y := r27) rfl ?_
      refine D_lte (y := S_28) rfl ?_
      refine D_lte (y := L_29) rfl ?_
      obtain ⟨p32, p33, p34⟩ : (iR BM S_28) ∧ (aT S S_28) ∧ (pI S_28) := hq30
      have n35 := i_rng r27
      have k36 : aT S S_28 := p33
      have kgI_t37 : gI x1.toNatClampNeg S_28 := (gI_aT dgI p33)
      exact D_some (show (iR BM S_28) ∧ (aT S S_28) ∧ (pI S_28) ∧ (gI x1.toNatClampNeg S_28) from ⟨p32, k36, p34, kgI_t37⟩)
  · have kc10 := tq_eqn (x := (S 0 68)) (y := (0 : Int32)) rfl (b := 0) (by decide) c1
    have kc1 : 1 ≤ (S 0 68).toInt := (by clear hx1 hx2 hly; omega)
    clear kc10
    unfold fJ_X8_fallOf_J17
    refine D_bd (t_X8_belowOf S x1 x2 hS ⟨(by clear hx2 hly n2 kc1; omega), (by clear hx2 hly n2 kc1; omega)⟩ ⟨(by clear hx1 hly n2 kc1; omega), (by clear hx1 hly n2 kc1; omega)⟩ dgI.1 (by first | assumption | exact (by clear hx1 hx2 n2 kc1; omega))) (fun r38 eq40 hq39 => ?_)
    obtain ⟨p41, p42, p43⟩ : (0 ≤ r38.toInt ∧ r38.toInt ≤ 9) ∧ (r38.toInt < (S 56 (((5 : Int32) * x1) + (S 54 (((10 : Int32) * x1) + x2).toNatClampNeg)).toNatClampNeg).toInt) ∧ (S 55 (50 * x1.toNatClampNeg + 10 * (S 54 (((10 : Int32) * x1) + x2).toNatClampNeg).toNatClampNeg + r38.toNatClampNeg) = x2) := hq39
    refine D_ck (okI_of (by clear hx1 hly n2 kc1 p41 p42; omega) (by clear hx1 hly n2 kc1 p41 p42; omega)) ?_
    refine D_lt (fun y44 ey44 => ?_)
    have n45 := i_rng (((0 : Int32) + ((10 : Int32) * r38)) - (S 31 x2.toNatClampNeg))
    have hy44 : y44.toInt = (((0 : Int32) + ((10 : Int32) * r38)) - (S 31 x2.toNatClampNeg)).toInt := by rw [ey44]
    have n46 : 0 ≤ (S 30 x2.toNatClampNeg).toInt ∧ (S 30 x2.toNatClampNeg).toInt ≤ 5 := hS 30 x2.toNatClampNeg
    refine D_bd (t_X8_layNames S L x1 x2 (S 30 x2.toNatClampNeg) hS ⟨(by clear hx2 hly n2 kc1 p41 p42 n45 hy44 n46; omega), (by clear hx2 hly n2 kc1 p41 p42 n45 hy44 n46; omega)⟩ ⟨(by clear hx1 hly n2 kc1 p41 p42 n45 hy44 n46; omega), (by clear hx1 hly n2 kc1 p41 p42 n45 hy44 n46; omega)⟩ ⟨(by clear hx1 hx2 hly n2 kc1 p41 p42 n45 hy44; omega), (by clear hx1 hx2 hly n2 kc1 p41 p42 n45 hy44; omega)⟩ dgI.1 hly) (fun L_47 eq49 hq48 => ?_)
    refine D_ite (fun c50 => ?_) (fun c50 => ?_)
    · have kc50 := tq_le (x := (0 : Int32)) (y := y44) (a := 0) (by decide) rfl c50
      unfold fJ_X8_fallOf_J58
      have l1 : (1 : Int32).toInt = 1 := by decide
      have l100 : (100 : Int32).toInt = 100 := by decide
      refine D_bd3 (t_X8_boundLaw S L_47 (1 : Int32) y44 (100 : Int32) hS dpI ⟨(by clear hx1 hx2 hly n2 kc1 p41 p42 n45 hy44 n46 kc50; omega), (by clear hx1 hx2 hly n2 kc1 p41 p42 n45 hy44 n46 kc50; omega)⟩) (fun r51 S_52 L_53 eq55 hq54 => ?_)
      refine D_lte (y := r51) rfl ?_
      refine D_lte (y := S_52) rfl ?_
      refine D_lte (y := L_53) rfl ?_
      obtain ⟨p56, p57, p58⟩ : (iR BM S_52) ∧ (aT S S_52) ∧ (pI S_52) := hq54
      have n59 := i_rng r51
      have k60 : aT S S_52 := p57
      have kgI_t61 : gI x1.toNatClampNeg S_52 := (gI_aT dgI p57)
      exact D_some (show (iR BM S_52) ∧ (aT S S_52) ∧ (pI S_52) ∧ (gI x1.toNatClampNeg S_52) from ⟨p56, k60, p58, kgI_t61⟩)
    · have kc50 := tq_len (x := (0 : Int32)) (y := y44) (a := 0) (by decide) rfl c50
      unfold fJ_X8_fallOf_J58
      have l1 : (1 : Int32).toInt = 1 := by decide
      have l0 : (0 : Int32).toInt = 0 := by decide
      have l100 : (100 : Int32).toInt = 100 := by decide
      refine D_bd3 (t_X8_boundLaw S L_47 (1 : Int32) (0 : Int32) (100 : Int32) hS dpI ⟨(by clear hx1 hx2 hly n2 kc1 p41 p42 n45 hy44 n46 kc50; omega), (by clear hx1 hx2 hly n2 kc1 p41 p42 n45 hy44 n46 kc50; omega)⟩) (fun r62 S_63 L_64 eq66 hq65 => ?_)
      refine D_lte (y := r62) rfl ?_
      refine D_lte (y := S_63) rfl ?_
      refine D_lte (y := L_64) rfl ?_
      obtain ⟨p67, p68, p69⟩ : (iR BM S_63) ∧ (aT S S_63) ∧ (pI S_63) := hq65
      have n70 := i_rng r62
      have k71 : aT S S_63 := p68
      have kgI_t72 : gI x1.toNatClampNeg S_63 := (gI_aT dgI p68)
      exact D_some (show (iR BM S_63) ∧ (aT S S_63) ∧ (pI S_63) ∧ (gI x1.toNatClampNeg S_63) from ⟨p67, k71, p69, kgI_t72⟩)
set_option maxHeartbeats 1000000 in
set_option maxRecDepth 100000 in
theorem t_X8_number1 (L : Lo) (x1 : Int32) (hx1 : 1 ≤ x1.toInt ∧ x1.toInt ≤ 1000) : D (f_X8_number1 L x1) (fun (q : Int32 × Lo) => True) := by
  unfold f_X8_number1
  refine D_lt (fun L_1 eL_1 => ?_)
  refine D_ck (ok_nel (i64_ne (by omega))) ?_
  have n2 := i_rng ((((L_1 0 63) / 65536) - ((L_1 0 63) / 65536) / x1.toInt64 * x1.toInt64).toInt32)
  exact D_some trivial
set_option maxHeartbeats 1000000 in
set_option maxRecDepth 100000 in
theorem t_X8_isDrawn (S : Tr) (L : Lo) (x1 : Int32) (hS : iR BM S) : D (f_X8_isDrawn S L x1) (fun (q : Int32 × Lo) => (0 ≤ (q.1).toInt ∧ (q.1).toInt ≤ 1)) := by
  unfold f_X8_isDrawn
  have n2 : 0 ≤ (S 0 65).toInt ∧ (S 0 65).toInt ≤ 1 := hS 0 65
  refine D_ite (fun c1 => ?_) (fun c1 => ?_)
  · have kc1 := tq_eq (x := (S 0 65)) (y := (0 : Int32)) rfl (b := 0) (by decide) c1
    have n4 := i_rng x1
    refine D_ite (fun c3 => ?_) (fun c3 => ?_)
    · have kc3 := tq_lt (x := x1) (y := (50 : Int32)) rfl (b := 50) (by decide) c3
      have l0 : (0 : Int32).toInt = 0 := by decide
      exact D_some (show (0 ≤ (0 : Int32).toInt ∧ (0 : Int32).toInt ≤ 1) from ⟨(by clear n2 kc1 n4 kc3; omega), (by clear n2 kc1 n4 kc3; omega)⟩)
    · have kc3 := tq_ltn (x := x1) (y := (50 : Int32)) rfl (b := 50) (by decide) c3
      have l1 : (1 : Int32).toInt = 1 := by decide
      exact D_some (show (0 ≤ (1 : Int32).toInt ∧ (1 : Int32).toInt ≤ 1) from ⟨(by clear n2 kc1 n4 kc3; omega), (by clear n2 kc1 n4 kc3; omega)⟩)
  · have kc10 := tq_eqn (x := (S 0 65)) (y := (0 : Int32)) rfl (b := 0) (by decide) c1
    have kc1 : 1 ≤ (S 0 65).toInt := (by omega)
    clear kc10
    have l100 : (100 : Int32).toInt = 100 := by decide
    refine D_bd2 (t_X8_number1 L (100 : Int32) ⟨(by omega), (by omega)⟩) (fun r5 L_6 eq8 hq7 => ?_)
    refine D_lte (y := r5) rfl ?_
    refine D_lte (y := L_6) rfl ?_
    have n9 := i_rng r5
    have n11 := i_rng x1
    refine D_ite (fun c10 => ?_) (fun c10 => ?_)
    · have kc10 := tq_le (x := x1) (y := r5) rfl rfl c10
      have l0 : (0 : Int32).toInt = 0 := by decide
      exact D_some (show (0 ≤ (0 : Int32).toInt ∧ (0 : Int32).toInt ≤ 1) from ⟨(by clear n2 kc1 n9 n11 kc10; omega), (by clear n2 kc1 n9 n11 kc10; omega)⟩)
    · have kc10 := tq_len (x := x1) (y := r5) rfl rfl c10
      have l1 : (1 : Int32).toInt = 1 := by decide
      exact D_some (show (0 ≤ (1 : Int32).toInt ∧ (1 : Int32).toInt ≤ 1) from ⟨(by clear n2 kc1 n9 n11 kc10; omega), (by clear n2 kc1 n9 n11 kc10; omega)⟩)
set_option maxHeartbeats 1000000 in
set_option maxRecDepth 100000 in
theorem tl_X8_onTheWay_L90 (zkn : Int32) (zaG : Tr) (x1 : Int32) (hx1 : 0 ≤ x1.toInt ∧ x1.toInt ≤ 1)   (N : Nat) : ∀ (x2 : Int32) (S : Tr) (L : Lo), aG x1.toNatClampNeg zaG S → pI S → gI x1.toNatClampNeg S → S 62 x1.toNatClampNeg = zkn → iR BM S → 0 ≤ x2.toInt ∧ x2.toInt ≤ 1000 → 1000 - x2.toInt < (N : Int) → D (lpF (fun _ _ _ => none) (fB_X8_onTheWay_L90 x1) N x2 S L) (fun (q : Tr × Lo) => (iR BM (q.1)) ∧ (aG x1.toNatClampNeg zaG (q.1)) ∧ (pI (q.1)) ∧ (gI x1.toNatClampNeg (q.1)) ∧ ((q.1) 62 x1.toNatClampNeg = zkn)) := by
  induction N with
  | zero =>
    intro x2 S L daG dpI dgI dkn hS hx2 hN
    exfalso
    omega
  | succ N90 ih =>
    intro x2 S L daG dpI dgI dkn hS hx2 hN
    have hk90 : ∀ (x2 : Int32) (S : Tr) (L : Lo), aG x1.toNatClampNeg zaG S → pI S → gI x1.toNatClampNeg S → S 62 x1.toNatClampNeg = zkn → iR BM S → 0 ≤ x2.toInt ∧ x2.toInt ≤ 1000 → 1000 - x2.toInt < (N90 : Int) → D (lpF (fun _ _ _ => none) (fB_X8_onTheWay_L90 x1) N90 x2 S L) (fun (q : Tr × Lo) => (iR BM (q.1)) ∧ (aG x1.toNatClampNeg zaG (q.1)) ∧ (pI (q.1)) ∧ (gI x1.toNatClampNeg (q.1)) ∧ ((q.1) 62 x1.toNatClampNeg = zkn)) := ih
    show D (fB_X8_onTheWay_L90 x1 (lpF (fun _ _ _ => none) (fB_X8_onTheWay_L90 x1) N90) x2 S L) _
    generalize lpF (fun _ _ _ => none) (fB_X8_onTheWay_L90 x1) N90 = k90 at hk90 ⊢
    have hN90 : 1000 - x2.toInt < (N90 : Int) + 1 := by omega
    clear ih
    unfold fB_X8_onTheWay_L90
    have n6 : 0 ≤ (S 0 14).toInt ∧ (S 0 14).toInt ≤ 10 := hS 0 14
    have n7 : 0 ≤ (S 0 13).toInt ∧ (S 0 13).toInt ≤ 6 := hS 0 13
    have n8 : 0 ≤ (S 0 12).toInt ∧ (S 0 12).toInt ≤ 5 := hS 0 12
    refine D_ite (fun c9 => ?_) (fun c9 => ?_)
    · have kc9 := tq_le (x := (S 0 14)) (y := x2) rfl rfl c9
      exact D_some (show (iR BM S) ∧ (aG x1.toNatClampNeg zaG S) ∧ (pI S) ∧ (gI x1.toNatClampNeg S) ∧ (S 62 x1.toNatClampNeg = zkn) from ⟨hS, daG, dpI, dgI, dkn⟩)
    · have kc9 := tq_len (x := (S 0 14)) (y := x2) rfl rfl c9
      have n11 : 0 ≤ (S 0 67).toInt ∧ (S 0 67).toInt ≤ 1 := hS 0 67
      refine D_ite (fun c10 => ?_) (fun c10 => ?_)
      · have kc10 := tq_eq (x := (S 0 67)) (y := (0 : Int32)) rfl (b := 0) (by decide) c10
        have n12 := i_mulL (a := (10 : Int32)) (b := x1) 10 (by decide) (by clear hx2 hN90 hN n6 n7 n8 kc9 n11 kc10; omega) (by clear hx2 hN90 hN n6 n7 n8 kc9 n11 kc10; omega)
        have n13 : (((10 : Int32) * x1) + x2).toInt = ((10 : Int32) * x1).toInt + x2.toInt := i_addK rfl rfl (by clear hN90 hN n7 n8 n11 kc10; omega) (by clear hN90 hN n7 n8 n11 kc10; omega)
        refine D_ck (okI_of (by clear hN90 hN n7 n8 n11 kc10; omega) (by clear hN90 hN n7 n8 n11 kc10; omega)) ?_
        have n15 : 0 ≤ (S 53 (((10 : Int32) * x1) + x2).toNatClampNeg).toInt ∧ (S 53 (((10 : Int32) * x1) + x2).toNatClampNeg).toInt ≤ 5 := hS 53 ((((10 : Int32) * x1) + x2).toNatClampNeg)
        refine D_ite (fun c14 => ?_) (fun c14 => ?_)
        · have kc14 := tq_eq (x := (S 53 (((10 : Int32) * x1) + x2).toNatClampNeg)) (y := (1 : Int32)) rfl (b := 1) (by decide) c14
          have n16 : (-1) ≤ (S 54 (((10 : Int32) * x1) + x2).toNatClampNeg).toInt ∧ (S 54 (((10 : Int32) * x1) + x2).toNatClampNeg).toInt ≤ 4 := hS 54 ((((10 : Int32) * x1) + x2).toNatClampNeg)
          have n17 : 0 ≤ (S 54 (((10 : Int32) * x1) + x2).toNatClampNeg).toInt := ly_of dgI hx1 ⟨(by clear hN90 hN n7 n8 n11 kc10 n15 kc14 n16; omega), (by clear hN90 hN n7 n8 n11 kc10 n15 kc14 n16; omega)⟩ c14
          refine D_ck (okI_of (by clear hx1 hx2 hN90 hN n6 n7 n8 kc9 n11 kc10 n12 n13 n15 kc14; omega) (by clear hx1 hx2 hN90 hN n6 n7 n8 kc9 n11 kc10 n12 n13 n15 kc14; omega)) ?_
          have n19 := i_rng (S 24 (S 54 (((10 : Int32) * x1) + x2).toNatClampNeg).toNatClampNeg)
          refine D_ite (fun c18 => ?_) (fun c18 => ?_)
          · have kc18 := tq_eq (x := (S 24 (S 54 (((10 : Int32) * x1) + x2).toNatClampNeg).toNatClampNeg)) (y := (4 : Int32)) rfl (b := 4) (by decide) c18
            refine D_ck (okI_of (by clear hN90 hN n7 n8 n11 kc10 n15 kc14 n16 n17 n19 kc18; omega) (by clear hN90 hN n7 n8 n11 kc10 n15 kc14 n16 n17 n19 kc18; omega)) ?_
            have n20 : 0 ≤ (S 30 x2.toNatClampNeg).toInt ∧ (S 30 x2.toNatClampNeg).toInt ≤ 5 := hS 30 x2.toNatClampNeg
            refine D_bd (t_X8_layNames S L x1 x2 (S 30 x2.toNatClampNeg) hS ⟨(by clear hN90 hN n7 n8 n11 kc10 n15 kc14 n16 n17 n19 kc18 n20; omega), (by clear hN90 hN n7 n8 n11 kc10 n15 kc14 n16 n17 n19 kc18 n20; omega)⟩ ⟨(by clear hN90 hN n7 n8 n11 kc10 n15 kc14 n16 n17 n19 kc18 n20; omega), (by clear hN90 hN n7 n8 n11 kc10 n15 kc14 n16 n17 n19 kc18 n20; omega)⟩ ⟨(by clear hx1 hx2 hN90 hN n6 n7 n8 kc9 n11 kc10 n12 n13 n15 kc14 n16 n17 n19 kc18; omega), (by clear hx1 hx2 hN90 hN n6 n7 n8 kc9 n11 kc10 n12 n13 n15 kc14 n16 n17 n19 kc18; omega)⟩ dgI.1 (by first | assumption | exact (by clear hx1 hx2 hN90 hN n6 n7 n8 kc9 n11 kc10 n12 n13 n15 kc14 n19 kc18 n20; omega))) (fun L_21 eq23 hq22 => ?_)
            have l2 : (2 : Int32).toInt = 2 := by decide
            have l10 : (10 : Int32).toInt = 10 := by decide
            have l100 : (100 : Int32).toInt = 100 := by decide
            refine D_bd3 (t_X8_boundLaw S L_21 (2 : Int32) (10 : Int32) (100 : Int32) hS dpI ⟨(by clear hx1 hx2 hN90 hN n6 n7 n8 kc9 n11 kc10 n12 n13 n15 kc14 n16 n17 n19 kc18 n20; omega), (by clear hx1 hx2 hN90 hN n6 n7 n8 kc9 n11 kc10 n12 n13 n15 kc14 n16 n17 n19 kc18 n20; omega)⟩) (fun r24 S_25 L_26 eq28 hq27 => ?_)
            refine D_lte (y := r24) rfl ?_
            refine D_lte (y := S_25) rfl ?_
            refine D_lte (y := L_26) rfl ?_
            obtain ⟨p29, p30, p31⟩ : (iR BM S_25) ∧ (aT S S_25) ∧ (pI S_25) := hq27
            have n32 := i_rng r24
            have k33 : aG x1.toNatClampNeg zaG S_25 := aG_tr daG (aT_G p30)
            have n34 : (S_25 0 12).toInt = (S 0 12).toInt := congrArg Int32.toInt (p30 0 _ rfl)
            have n35 : (S_25 0 13).toInt = (S 0 13).toInt := congrArg Int32.toInt (p30 0 _ rfl)
            have n36 : (S_25 0 14).toInt = (S 0 14).toInt := congrArg Int32.toInt (p30 0 _ rfl)
            have n37 : (S_25 54 (((10 : Int32) * x1) + x2).toNatClampNeg).toInt = (S 54 (((10 : Int32) * x1) + x2).toNatClampNeg).toInt := congrArg Int32.toInt (p30 54 _ rfl)
            have kgI_t38 : gI x1.toNatClampNeg S_25 := (gI_aT dgI p30)
            have kkn_t39 : S_25 62 x1.toNatClampNeg = zkn := ((p30 62 _ rfl).trans dkn)
            refine D_bd2 (t_X8_isDrawn S_25 L_26 r24 p29) (fun r40 L_41 eq43 hq42 => ?_)
            refine D_lte (y := r40) rfl ?_
            refine D_lte (y := L_41) rfl ?_
            have p44 : 0 ≤ r40.toInt ∧ r40.toInt ≤ 1 := hq42
            refine D_ite (fun c45 => ?_) (fun c45 => ?_)
            · have kc45 := tq_eq (x := r40) (y := (0 : Int32)) rfl (b := 0) (by decide) c45
              have n47 : (x2 + 1).toInt = x2.toInt + 1 := i_addK rfl (by decide) (by clear hN90 hN n7 n8 n11 kc10 n15 kc14 n16 n17 n19 kc18 n20 n32 n34 n35 n37 p44 kc45; omega) (by clear hN90 hN n7 n8 n11 kc10 n15 kc14 n16 n17 n19 kc18 n20 n32 n34 n35 n37 p44 kc45; omega)
              refine D_lt (fun y46 ey46 => ?_)
              have hy46 : y46.toInt = (x2 + 1 : Int32).toInt := by rw [ey46]
              exact hk90 y46 S_25 L_41 k33 p31 kgI_t38 kkn_t39 p29 ⟨(by clear hN90 hN n7 n8 n11 kc10 n15 kc14 n16 n17 n19 kc18 n20 n32 n34 n35 n37 p44 kc45; omega), (by clear hN90 hN n7 n8 n11 kc10 n15 kc14 n16 n17 n19 kc18 n20 n32 n34 n35 n37 p44 kc45; omega)⟩ (by clear n7 n8 n11 kc10 n15 kc14 n16 n17 n19 kc18 n20 n32 n34 n35 n37 p44 kc45; omega)
            · have kc450 := tq_eqn (x := r40) (y := (0 : Int32)) rfl (b := 0) (by decide) c45
              have kc45 : 1 ≤ r40.toInt := (by clear hx1 hx2 hN90 hN n6 n7 n8 kc9 n11 kc10 n12 n13 n15 kc14 n16 n17 n19 kc18 n20 n32 n34 n35 n36 n37; omega)
              clear kc450
              have l4 : (4 : Int32).toInt = 4 := by decide
              refine D_bd (t_X8_takes2 S_25 x1 x2 (4 : Int32) p29 kgI_t38 ⟨(by clear hN90 hN n7 n8 n11 kc10 n15 kc14 n16 n17 n19 kc18 n20 n32 n34 n35 n37 p44 kc45; omega), (by clear hN90 hN n7 n8 n11 kc10 n15 kc14 n16 n17 n19 kc18 n20 n32 n34 n35 n37 p44 kc45; omega)⟩ ⟨(by clear hN90 hN n7 n8 n11 kc10 n15 kc14 n16 n17 n19 kc18 n20 n32 n34 n35 n37 p44 kc45; omega), (by clear hN90 hN n7 n8 n11 kc10 n15 kc14 n16 n17 n19 kc18 n20 n32 n34 n35 n37 p44 kc45; omega)⟩ ⟨(by clear hx1 hx2 hN90 hN n6 n7 n8 kc9 n11 kc10 n12 n13 n15 kc14 n16 n17 n19 kc18 n20 n32 n34 n35 n36 n37 p44 kc45; omega), (by clear hx1 hx2 hN90 hN n6 n7 n8 kc9 n11 kc10 n12 n13 n15 kc14 n16 n17 n19 kc18 n20 n32 n34 n35 n36 n37 p44 kc45; omega)⟩ (by first | assumption | exact (by clear hx1 hx2 hN90 hN n6 n7 n8 kc9 n11 kc10 n12 n13 n15 kc14 n19 kc18 n20 n32 n34 n35 n36 p44 kc45; omega)) (by first | assumption | exact (by clear hx1 hx2 hN90 hN n6 n7 n8 kc9 n11 kc10 n12 n13 n15 kc14 n16 n17 n19 kc18 n20 n32 n34 n35 n36 n37 p44 kc45; omega))) (fun S_48 eq50 hq49 => ?_)
              obtain ⟨p51, p52, p53, p54⟩ : (iR BM S_48) ∧ (gI x1.toNatClampNeg S_48) ∧ (aG x1.toNatClampNeg S_25 S_48) ∧ (S_48 62 x1.toNatClampNeg = (S_25 62 x1.toNatClampNeg)) := hq49
              have k55 : aG x1.toNatClampNeg zaG S_48 := aG_tr k33 p53
              have k56 : S_48 62 x1.toNatClampNeg = zkn := p54.trans kkn_t39
              have n57 : (S_48 0 12).toInt = (S_25 0 12).toInt := congrArg Int32.toInt (p53 0 _ rfl)
              have n58 : (S_48 0 13).toInt = (S_25 0 13).toInt := congrArg Int32.toInt (p53 0 _ rfl)
              have n59 : (S_48 0 14).toInt = (S_25 0 14).toInt := congrArg Int32.toInt (p53 0 _ rfl)
              have kpI_t60 : pI S_48 := (pI_aG p31 p53)
              have n62 : (x2 + 1).toInt = x2.toInt + 1 := i_addK rfl (by decide) (by clear hN90 hN n7 n8 n11 kc10 n15 kc14 n16 n17 n19 kc18 n20 n32 n34 n35 n37 p44 kc45 n57 n58; omega) (by clear hN90 hN n7 n8 n11 kc10 n15 kc14 n16 n17 n19 kc18 n20 n32 n34 n35 n37 p44 kc45 n57 n58; omega)
              refine D_lt (fun y61 ey61 => ?_)
              have hy61 : y61.toInt = (x2 + 1 : Int32).toInt := by rw [ey61]
              exact hk90 y61 S_48 L_41 k55 kpI_t60 p52 k56 p51 ⟨(by clear hN90 hN n7 n8 n11 kc10 n15 kc14 n16 n17 n19 kc18 n20 n32 n34 n35 n37 p44 kc45 n57 n58; omega), (by clear hN90 hN n7 n8 n11 kc10 n15 kc14 n16 n17 n19 kc18 n20 n32 n34 n35 n37 p44 kc45 n57 n58; omega)⟩ (by clear n7 n8 n11 kc10 n15 kc14 n16 n17 n19 kc18 n20 n32 n34 n35 n37 p44 kc45 n57 n58; omega)
          · skip
            have n64 : (x2 + 1).toInt = x2.toInt + 1 := i_addK rfl (by decide) (by clear hN90 hN n7 n8 n11 kc10 n15 kc14 n16 n17 n19; omega) (by clear hN90 hN n7 n8 n11 kc10 n15 kc14 n16 n17 n19; omega)
            refine D_lt (fun y63 ey63 => ?_)
            have hy63 : y63.toInt = (x2 + 1 : Int32).toInt := by rw [ey63]
            exact hk90 y63 S L daG dpI dgI dkn hS ⟨(by clear hN90 hN n7 n8 n11 kc10 n15 kc14 n16 n17 n19; omega), (by clear hN90 hN n7 n8 n11 kc10 n15 kc14 n16 n17 n19; omega)⟩ (by clear n7 n8 n11 kc10 n15 kc14 n16 n17 n19; omega)
        · skip
          have n66 : (x2 + 1).toInt = x2.toInt + 1 := i_addK rfl (by decide) (by clear hN90 hN n7 n8 n11 kc10 n15; omega) (by clear hN90 hN n7 n8 n11 kc10 n15; omega)
          refine D_lt (fun y65 ey65 => ?_)
          have hy65 : y65.toInt = (x2 + 1 : Int32).toInt := by rw [ey65]
          exact hk90 y65 S L daG dpI dgI dkn hS ⟨(by clear hN90 hN n7 n8 n11 kc10 n15; omega), (by clear hN90 hN n7 n8 n11 kc10 n15; omega)⟩ (by clear n7 n8 n11 kc10 n15; omega)
      · have kc100 := tq_eqn (x := (S 0 67)) (y := (0 : Int32)) rfl (b := 0) (by decide) c10
        have kc10 : 1 ≤ (S 0 67).toInt := (by clear hx1 hx2 hN90 hN n6 n7 n8 kc9; omega)
        clear kc100
        exact D_some (show (iR BM S) ∧ (aG x1.toNatClampNeg zaG S) ∧ (pI S) ∧ (gI x1.toNatClampNeg S) ∧ (S 62 x1.toNatClampNeg = zkn) from ⟨hS, daG, dpI, dgI, dkn⟩)
set_option maxHeartbeats 1000000 in
set_option maxRecDepth 100000 in
theorem tl_X8_onTheWay_L2 (zkn : Int32) (zaG : Tr) (x1 : Int32) (hx1 : 0 ≤ x1.toInt ∧ x1.toInt ≤ 1)   (N : Nat) : ∀ (x2 : Int32) (S : Tr) (L : Lo), aG x1.toNatClampNeg zaG S → pI S → gI x1.toNatClampNeg S → S 62 x1.toNatClampNeg = zkn → iR BM S → 0 ≤ x2.toInt ∧ x2.toInt ≤ 1000 → 1000 - x2.toInt < (N : Int) → D (lpF (fun _ _ _ => none) (fB_X8_onTheWay_L2 x1) N x2 S L) (fun (q : Tr × Lo) => (iR BM (q.1)) ∧ (aG x1.toNatClampNeg zaG (q.1)) ∧ (pI (q.1)) ∧ (gI x1.toNatClampNeg (q.1)) ∧ ((q.1) 62 x1.toNatClampNeg = zkn)) := by
  induction N with
  | zero =>
    intro x2 S L daG dpI dgI dkn hS hx2 hN
    exfalso
    omega
  | succ N2 ih =>
    intro x2 S L daG dpI dgI dkn hS hx2 hN
    have hk2 : ∀ (x2 : Int32) (S : Tr) (L : Lo), aG x1.toNatClampNeg zaG S → pI S → gI x1.toNatClampNeg S → S 62 x1.toNatClampNeg = zkn → iR BM S → 0 ≤ x2.toInt ∧ x2.toInt ≤ 1000 → 1000 - x2.toInt < (N2 : Int) → D (lpF (fun _ _ _ => none) (fB_X8_onTheWay_L2 x1) N2 x2 S L) (fun (q : Tr × Lo) => (iR BM (q.1)) ∧ (aG x1.toNatClampNeg zaG (q.1)) ∧ (pI (q.1)) ∧ (gI x1.toNatClampNeg (q.1)) ∧ ((q.1) 62 x1.toNatClampNeg = zkn)) := ih
    show D (fB_X8_onTheWay_L2 x1 (lpF (fun _ _ _ => none) (fB_X8_onTheWay_L2 x1) N2) x2 S L) _
    generalize lpF (fun _ _ _ => none) (fB_X8_onTheWay_L2 x1) N2 = k2 at hk2 ⊢
    have hN2 : 1000 - x2.toInt < (N2 : Int) + 1 := by omega
    clear ih
    unfold fB_X8_onTheWay_L2
    have n2 : 0 ≤ (S 0 14).toInt ∧ (S 0 14).toInt ≤ 10 := hS 0 14
    have n3 : 0 ≤ (S 0 13).toInt ∧ (S 0 13).toInt ≤ 6 := hS 0 13
    have n4 : 0 ≤ (S 0 12).toInt ∧ (S 0 12).toInt ≤ 5 := hS 0 12
    refine D_ite (fun c5 => ?_) (fun c5 => ?_)
    · have kc5 := tq_le (x := (S 0 12)) (y := x2) rfl rfl c5
      have l0 : (0 : Int32).toInt = 0 := by decide
      exact tl_X8_onTheWay_L90 zkn zaG x1 ⟨(by clear hx2 hN2 hN n2 n3 n4 kc5; omega), (by clear hx2 hN2 hN n2 n3 n4 kc5; omega)⟩   2000 (0 : Int32) S L daG dpI dgI dkn hS ⟨(by clear hx1 hx2 hN2 hN n2 n3 n4 kc5; omega), (by clear hx1 hx2 hN2 hN n2 n3 n4 kc5; omega)⟩ (by clear hx1 hx2 hN2 hN n2 n3 n4 kc5; omega)
    · have kc5 := tq_len (x := (S 0 12)) (y := x2) rfl rfl c5
      have n68 : 0 ≤ (S 0 66).toInt ∧ (S 0 66).toInt ≤ 1 := hS 0 66
      refine D_ite (fun c67 => ?_) (fun c67 => ?_)
      · have kc67 := tq_eq (x := (S 0 66)) (y := (0 : Int32)) rfl (b := 0) (by decide) c67
        refine D_ck (okI_of (by clear hx1 hN2 hN n2 n3 n68 kc67; omega) (by clear hx1 hN2 hN n2 n3 n68 kc67; omega)) ?_
        have n70 := i_rng (S 24 x2.toNatClampNeg)
        refine D_ite (fun c69 => ?_) (fun c69 => ?_)
        · have kc69 := tq_lt (x := (1 : Int32)) (y := (S 24 x2.toNatClampNeg)) (a := 1) (by decide) rfl c69
          have n72 : (x2 + 1).toInt = x2.toInt + 1 := i_addK rfl (by decide) (by clear hx1 hN2 hN n2 n3 n68 kc67 n70 kc69; omega) (by clear hx1 hN2 hN n2 n3 n68 kc67 n70 kc69; omega)
          refine D_lt (fun y71 ey71 => ?_)
          have hy71 : y71.toInt = (x2 + 1 : Int32).toInt := by rw [ey71]
          exact hk2 y71 S L daG dpI dgI dkn hS ⟨(by clear hx1 hN2 hN n2 n3 n68 kc67 n70 kc69; omega), (by clear hx1 hN2 hN n2 n3 n68 kc67 n70 kc69; omega)⟩ (by clear hx1 n2 n3 n68 kc67 n70 kc69; omega)
        · have kc69 := tq_ltn (x := (1 : Int32)) (y := (S 24 x2.toNatClampNeg)) (a := 1) (by decide) rfl c69
          have n73 := i_mulL (a := (5 : Int32)) (b := x1) 5 (by decide) (by clear hx2 hN2 hN n2 n3 n4 kc5 n68 kc67 n70 kc69; omega) (by clear hx2 hN2 hN n2 n3 n4 kc5 n68 kc67 n70 kc69; omega)
          have n74 : (((5 : Int32) * x1) + x2).toInt = ((5 : Int32) * x1).toInt + x2.toInt := i_addK rfl rfl (by clear hN2 hN n2 n3 n68 kc67 n70 kc69; omega) (by clear hN2 hN n2 n3 n68 kc67 n70 kc69; omega)
          refine D_ck (okI_of (by clear hN2 hN n2 n3 n68 kc67 n70 kc69; omega) (by clear hN2 hN n2 n3 n68 kc67 n70 kc69; omega)) ?_
          have n76 : 0 ≤ (S 56 (((5 : Int32) * x1) + x2).toNatClampNeg).toInt ∧ (S 56 (((5 : Int32) * x1) + x2).toNatClampNeg).toInt ≤ 10 := hS 56 ((((5 : Int32) * x1) + x2).toNatClampNeg)
          refine D_ite (fun c75 => ?_) (fun c75 => ?_)
          · have kc75 := tq_eq (x := (S 56 (((5 : Int32) * x1) + x2).toNatClampNeg)) (y := (0 : Int32)) rfl (b := 0) (by decide) c75
            have n78 : (x2 + 1).toInt = x2.toInt + 1 := i_addK rfl (by decide) (by clear hN2 hN n2 n3 n68 kc67 n70 kc69 n76 kc75; omega) (by clear hN2 hN n2 n3 n68 kc67 n70 kc69 n76 kc75; omega)
            refine D_lt (fun y77 ey77 => ?_)
            have hy77 : y77.toInt = (x2 + 1 : Int32).toInt := by rw [ey77]
            exact hk2 y77 S L daG dpI dgI dkn hS ⟨(by clear hN2 hN n2 n3 n68 kc67 n70 kc69 n76 kc75; omega), (by clear hN2 hN n2 n3 n68 kc67 n70 kc69 n76 kc75; omega)⟩ (by clear n2 n3 n68 kc67 n70 kc69 n76 kc75; omega)
          · have kc750 := tq_eqn (x := (S 56 (((5 : Int32) * x1) + x2).toNatClampNeg)) (y := (0 : Int32)) rfl (b := 0) (by decide) c75
            have kc75 : 1 ≤ (S 56 (((5 : Int32) * x1) + x2).toNatClampNeg).toInt := (by clear hx1 hx2 hN2 hN n2 n3 n4 kc5 n68 kc67 n70 kc69 n73 n74; omega)
            clear kc750
            have n79 : ((S 56 (((5 : Int32) * x1) + x2).toNatClampNeg) - 1).toInt = (S 56 (((5 : Int32) * x1) + x2).toNatClampNeg).toInt - 1 := i_subK rfl (by decide) (by clear hx1 hx2 hN2 hN n2 n3 n4 kc5 n68 kc67 n70 kc69 n73 n74; omega) (by clear hx1 hx2 hN2 hN n2 n3 n4 kc5 n68 kc67 n70 kc69 n73 n74; omega)
            refine D_bd (t_X8_stackAt2 S x1 x2 ((S 56 (((5 : Int32) * x1) + x2).toNatClampNeg) - 1) hS ⟨(by clear hN2 hN n2 n3 n68 kc67 n70 kc69 n76 kc75 n79; omega), (by clear hN2 hN n2 n3 n68 kc67 n70 kc69 n76 kc75 n79; omega)⟩ ⟨(by clear hN2 hN n2 n3 n68 kc67 n70 kc69 n76 kc75 n79; omega), (by clear hN2 hN n2 n3 n68 kc67 n70 kc69 n76 kc75 n79; omega)⟩ ⟨(by clear hx1 hx2 hN2 hN n2 n3 n4 kc5 n68 kc67 n70 kc69 n73 n74; omega), (by clear hx1 hx2 hN2 hN n2 n3 n4 kc5 n68 kc67 n70 kc69 n73 n74; omega)⟩) (fun r80 eq82 hq81 => ?_)
            obtain ⟨p83, p84⟩ : (0 ≤ r80.toInt ∧ r80.toInt ≤ 9) ∧ (r80 = S 55 (50 * x1.toNatClampNeg + 10 * x2.toNatClampNeg + ((S 56 (((5 : Int32) * x1) + x2).toNatClampNeg) - 1).toNatClampNeg)) := hq81
            have n85 : (-1) ≤ (S 54 (((10 : Int32) * x1) + r80).toNatClampNeg).toInt ∧ (S 54 (((10 : Int32) * x1) + r80).toNatClampNeg).toInt ≤ 4 := hS 54 ((((10 : Int32) * x1) + r80).toNatClampNeg)
            have n86 := sk_ly (k := ((S 56 (((5 : Int32) * x1) + x2).toNatClampNeg) - 1)) dgI.1 hS hx1 ⟨(by clear hN2 hN n2 n3 n68 kc67 n70 kc69 n76 kc75 n79 p83 n85; omega), (by clear hN2 hN n2 n3 n68 kc67 n70 kc69 n76 kc75 n79 p83 n85; omega)⟩ (by clear hx1 hx2 hN2 hN n2 n3 n4 kc5 n68 kc67 n70 kc69 n73 n74 p83 n85; omega) (by clear hx1 hx2 hN2 hN n2 n3 n4 kc5 n68 kc67 n70 kc69 n73 n74 p83 n85; omega) p84
            have n87 : 0 ≤ (S 54 (((10 : Int32) * x1) + r80).toNatClampNeg).toInt := n86.1
            clear n86
            refine D_bd3 (t_X8_fallOf S L x1 r80 hS dpI dgI ⟨(by clear hN2 hN n2 n3 n68 kc67 n70 kc69 n76 kc75 n79 p83 n85 n87; omega), (by clear hN2 hN n2 n3 n68 kc67 n70 kc69 n76 kc75 n79 p83 n85 n87; omega)⟩ ⟨(by clear hx1 hx2 hN2 hN n2 n3 n4 kc5 n68 kc67 n70 kc69 n73 n74 n76 kc75 n79 n85 n87; omega), (by clear hx1 hx2 hN2 hN n2 n3 n4 kc5 n68 kc67 n70 kc69 n73 n74 n76 kc75 n79 n85 n87; omega)⟩ (by first | assumption | exact (by clear hx1 hx2 hN2 hN n2 n3 n4 kc5 n68 kc67 n70 kc69 n73 n74 n76 kc75 n79 p83; omega))) (fun r88 S_89 L_90 eq92 hq91 => ?_)
            refine D_lte (y := r88) rfl ?_
            refine D_lte (y := S_89) rfl ?_
            refine D_lte (y := L_90) rfl ?_
            obtain ⟨p93, p94, p95, p96⟩ : (iR BM S_89) ∧ (aT S S_89) ∧ (pI S_89) ∧ (gI x1.toNatClampNeg S_89) := hq91
            have n97 := i_rng r88
            have k98 : aG x1.toNatClampNeg zaG S_89 := aG_tr daG (aT_G p94)
            have n99 : (S_89 0 12).toInt = (S 0 12).toInt := congrArg Int32.toInt (p94 0 _ rfl)
            have n100 : (S_89 0 13).toInt = (S 0 13).toInt := congrArg Int32.toInt (p94 0 _ rfl)
            have n101 : (S_89 0 14).toInt = (S 0 14).toInt := congrArg Int32.toInt (p94 0 _ rfl)
            have n102 : (S_89 54 (((10 : Int32) * x1) + r80).toNatClampNeg).toInt = (S 54 (((10 : Int32) * x1) + r80).toNatClampNeg).toInt := congrArg Int32.toInt (p94 54 _ rfl)
            have kkn_t103 : S_89 62 x1.toNatClampNeg = zkn := ((p94 62 _ rfl).trans dkn)
            refine D_bd2 (t_X8_isDrawn S_89 L_90 r88 p93) (fun r104 L_105 eq107 hq106 => ?_)
            refine D_lte (y := r104) rfl ?_
            refine D_lte (y := L_105) rfl ?_
            have p108 : 0 ≤ r104.toInt ∧ r104.toInt ≤ 1 := hq106
            refine D_ite (fun c109 => ?_) (fun c109 => ?_)
            · have kc109 := tq_eq (x := r104) (y := (0 : Int32)) rfl (b := 0) (by decide) c109
              have n111 : (x2 + 1).toInt = x2.toInt + 1 := i_addK rfl (by decide) (by clear hN2 hN n2 n3 n68 kc67 n70 kc69 n76 kc75 n79 p83 n85 n87 n97 n100 n101 n102 p108 kc109; omega) (by clear hN2 hN n2 n3 n68 kc67 n70 kc69 n76 kc75 n79 p83 n85 n87 n97 n100 n101 n102 p108 kc109; omega)
              refine D_lt (fun y110 ey110 => ?_)
              have hy110 : y110.toInt = (x2 + 1 : Int32).toInt := by rw [ey110]
              exact hk2 y110 S_89 L_105 k98 p95 p96 kkn_t103 p93 ⟨(by clear hN2 hN n2 n3 n68 kc67 n70 kc69 n76 kc75 n79 p83 n85 n87 n97 n100 n101 n102 p108 kc109; omega), (by clear hN2 hN n2 n3 n68 kc67 n70 kc69 n76 kc75 n79 p83 n85 n87 n97 n100 n101 n102 p108 kc109; omega)⟩ (by clear n2 n3 n68 kc67 n70 kc69 n76 kc75 n79 p83 n85 n87 n97 n100 n101 n102 p108 kc109; omega)
            · have kc1090 := tq_eqn (x := r104) (y := (0 : Int32)) rfl (b := 0) (by decide) c109
              have kc109 : 1 ≤ r104.toInt := (by clear hx1 hx2 hN2 hN n2 n3 n4 kc5 n68 kc67 n70 kc69 n73 n74 n76 kc75 n79 p83 n85 n87 n97 n99 n100 n101 n102; omega)
              clear kc1090
              have l3 : (3 : Int32).toInt = 3 := by decide
              refine D_bd (t_X8_takes2 S_89 x1 r80 (3 : Int32) p93 p96 ⟨(by clear hN2 hN n2 n3 n68 kc67 n70 kc69 n76 kc75 n79 p83 n85 n87 n97 n100 n101 n102 p108 kc109; omega), (by clear hN2 hN n2 n3 n68 kc67 n70 kc69 n76 kc75 n79 p83 n85 n87 n97 n100 n101 n102 p108 kc109; omega)⟩ ⟨(by clear hx1 hx2 hN2 hN n2 n3 n4 kc5 n68 kc67 n70 kc69 n73 n74 n76 kc75 n79 n85 n87 n97 n99 n100 n101 n102 p108 kc109; omega), (by clear hx1 hx2 hN2 hN n2 n3 n4 kc5 n68 kc67 n70 kc69 n73 n74 n76 kc75 n79 n85 n87 n97 n99 n100 n101 n102 p108 kc109; omega)⟩ ⟨(by clear hx1 hx2 hN2 hN n2 n3 n4 kc5 n68 kc67 n70 kc69 n73 n74 n76 kc75 n79 p83 n85 n87 n97 n99 n100 n101 n102 p108 kc109; omega), (by clear hx1 hx2 hN2 hN n2 n3 n4 kc5 n68 kc67 n70 kc69 n73 n74 n76 kc75 n79 p83 n85 n87 n97 n99 n100 n101 n102 p108 kc109; omega)⟩ (by first | assumption | exact (by clear hx1 hx2 hN2 hN n2 n3 n4 kc5 n68 kc67 n70 kc69 n73 n74 n76 kc75 n79 p83 n97 n99 n100 n101 p108 kc109; omega)) (by first | assumption | exact (by clear hx1 hx2 hN2 hN n2 n3 n4 kc5 n68 kc67 n70 kc69 n73 n74 n76 kc75 n79 p83 n85 n87 n97 n99 n100 n101 n102 p108 kc109; omega))) (fun S_112 eq114 hq113 => ?_)
              obtain ⟨p115, p116, p117, p118⟩ : (iR BM S_112) ∧ (gI x1.toNatClampNeg S_112) ∧ (aG x1.toNatClampNeg S_89 S_112) ∧ (S_112 62 x1.toNatClampNeg = (S_89 62 x1.toNatClampNeg)) := hq113
              have k119 : aG x1.toNatClampNeg zaG S_112 := aG_tr k98 p117
              have k120 : S_112 62 x1.toNatClampNeg = zkn := p118.trans kkn_t103
              have n121 : (S_112 0 12).toInt = (S_89 0 12).toInt := congrArg Int32.toInt (p117 0 _ rfl)
              have n122 : (S_112 0 13).toInt = (S_89 0 13).toInt := congrArg Int32.toInt (p117 0 _ rfl)
              have n123 : (S_112 0 14).toInt = (S_89 0 14).toInt := congrArg Int32.toInt (p117 0 _ rfl)
              have kpI_t124 : pI S_112 := (pI_aG p95 p117)
              have n126 : (x2 + 1).toInt = x2.toInt + 1 := i_addK rfl (by decide) (by clear hN2 hN n2 n3 n68 kc67 n70 kc69 n76 kc75 n79 p83 n85 n87 n97 n100 n101 n102 p108 kc109 n122 n123; omega) (by clear hN2 hN n2 n3 n68 kc67 n70 kc69 n76 kc75 n79 p83 n85 n87 n97 n100 n101 n102 p108 kc109 n122 n123; omega)
              refine D_lt (fun y125 ey125 => ?_)
              have hy125 : y125.toInt = (x2 + 1 : Int32).toInt := by rw [ey125]
              exact hk2 y125 S_112 L_105 k119 kpI_t124 p116 k120 p115 ⟨(by clear hN2 hN n2 n3 n68 kc67 n70 kc69 n76 kc75 n79 p83 n85 n87 n97 n100 n101 n102 p108 kc109 n122 n123; omega), (by clear hN2 hN n2 n3 n68 kc67 n70 kc69 n76 kc75 n79 p83 n85 n87 n97 n100 n101 n102 p108 kc109 n122 n123; omega)⟩ (by clear n2 n3 n68 kc67 n70 kc69 n76 kc75 n79 p83 n85 n87 n97 n100 n101 n102 p108 kc109 n122 n123; omega)
      · have kc670 := tq_eqn (x := (S 0 66)) (y := (0 : Int32)) rfl (b := 0) (by decide) c67
        have kc67 : 1 ≤ (S 0 66).toInt := (by clear hx1 hx2 hN2 hN n2 n3 n4 kc5; omega)
        clear kc670
        have l0 : (0 : Int32).toInt = 0 := by decide
        exact tl_X8_onTheWay_L90 zkn zaG x1 ⟨(by clear hx2 hN2 hN n2 n3 n4 kc5 n68 kc67; omega), (by clear hx2 hN2 hN n2 n3 n4 kc5 n68 kc67; omega)⟩   2000 (0 : Int32) S L daG dpI dgI dkn hS ⟨(by clear hx1 hx2 hN2 hN n2 n3 n4 kc5 n68 kc67; omega), (by clear hx1 hx2 hN2 hN n2 n3 n4 kc5 n68 kc67; omega)⟩ (by clear hx1 hx2 hN2 hN n2 n3 n4 kc5 n68 kc67; omega)
set_option maxHeartbeats 1000000 in
set_option maxRecDepth 100000 in
theorem t_X8_onTheWay (S : Tr) (L : Lo) (x1 : Int32) (hS : iR BM S) (dpI : pI S) (dgI : gI x1.toNatClampNeg S) (hx1 : 0 ≤ x1.toInt ∧ x1.toInt ≤ 1) : D (f_X8_onTheWay S L x1) (fun (q : Tr × Lo) => (iR BM (q.1)) ∧ (aG x1.toNatClampNeg S (q.1)) ∧ (pI (q.1)) ∧ (gI x1.toNatClampNeg (q.1)) ∧ ((q.1) 62 x1.toNatClampNeg = (S 62 x1.toNatClampNeg))) := by
  unfold f_X8_onTheWay
  have n1 : 0 ≤ (S 0 14).toInt ∧ (S 0 14).toInt ≤ 10 := hS 0 14
  have l0 : (0 : Int32).toInt = 0 := by decide
  exact tl_X8_onTheWay_L2 (S 62 x1.toNatClampNeg) S x1 ⟨(by omega), (by omega)⟩   2000 (0 : Int32) S L aG_rfl dpI dgI rfl hS ⟨(by omega), (by omega)⟩ (by omega)
set_option maxHeartbeats 1000000 in
set_option maxRecDepth 100000 in
theorem t_X8_goOn (S : Tr) (L : Lo) (x1 : Int32) (hS : iR BM S) (dpI : pI S) (dgI : gI x1.toNatClampNeg S) (hx1 : 0 ≤ x1.toInt ∧ x1.toInt ≤ 1) (hn : (S 62 x1.toNatClampNeg).toInt ≤ 20) : D (f_X8_goOn S L x1) (fun (q : Tr × Lo) => (iR BM (q.1)) ∧ (aG x1.toNatClampNeg S (q.1)) ∧ (pI (q.1)) ∧ (gI x1.toNatClampNeg (q.1)) ∧ (((q.1) 62 x1.toNatClampNeg).toInt = (S 62 x1.toNatClampNeg).toInt + 1)) := by
  unfold f_X8_goOn
  refine D_bd2 (t_X8_outs S L x1 hS dpI dgI ⟨(by omega), (by omega)⟩) (fun S_1 L_2 eq4 hq3 => ?_)
  refine D_lte (y := S_1) rfl ?_
  refine D_lte (y := L_2) rfl ?_
  obtain ⟨p5, p6, p7, p8, p9⟩ : (iR BM S_1) ∧ (aG x1.toNatClampNeg S S_1) ∧ (pI S_1) ∧ (gI x1.toNatClampNeg S_1) ∧ (S_1 62 x1.toNatClampNeg = (S 62 x1.toNatClampNeg)) := hq3
  have k10 : aG x1.toNatClampNeg S S_1 := p6
  have k11 : S_1 62 x1.toNatClampNeg = (S 62 x1.toNatClampNeg) := p9
  refine D_bd (t_X8_ins S_1 x1 p5 p7 p8 ⟨(by omega), (by omega)⟩) (fun S_12 eq14 hq13 => ?_)
  obtain ⟨p15, p16, p17, p18, p19⟩ : (iR BM S_12) ∧ (aG x1.toNatClampNeg S_1 S_12) ∧ (pI S_12) ∧ (gI x1.toNatClampNeg S_12) ∧ (S_12 62 x1.toNatClampNeg = (S_1 62 x1.toNatClampNeg)) := hq13
  have k20 : aG x1.toNatClampNeg S S_12 := aG_tr k10 p16
  have k21 : S_12 62 x1.toNatClampNeg = (S 62 x1.toNatClampNeg) := p19.trans k11
  refine D_ck (okI_of (by omega) (by omega)) ?_
  have n23 : 0 ≤ (S_12 62 x1.toNatClampNeg).toInt ∧ (S_12 62 x1.toNatClampNeg).toInt ≤ 21 := p15 62 x1.toNatClampNeg
  refine D_ite (fun c22 => ?_) (fun c22 => ?_)
  · have kc22 := tq_le (x := (20 : Int32)) (y := (S_12 62 x1.toNatClampNeg)) (a := 20) (by decide) rfl c22
    unfold fJ_X8_goOn_J26
    refine D_ck (okI_of (by clear hn n23 kc22; omega) (by clear hn n23 kc22; omega)) ?_
    have n25 : ((S_12 62 x1.toNatClampNeg) + 1).toInt = (S_12 62 x1.toNatClampNeg).toInt + 1 := i_addK rfl (by decide) (by omega) (by omega)
    have kz26 : (S_12 62 x1.toNatClampNeg).toInt = (S 62 x1.toNatClampNeg).toInt := congrArg Int32.toInt k21
    refine D_lt (fun S_24 eS_24 => ?_)
    have hS_24 : iR BM S_24 := by rw [eS_24]; exact iR_set p15 (show (0 : Int) ≤ _ from (by omega)) (show _ ≤ (21 : Int) from (by omega))
    have kaG_t27 : aG x1.toNatClampNeg S S_24 := (by rw [eS_24]; exact aG_set k20 (Wb_62 (inB_of (by clear hn n23 kc22 n25 kz26; simp only [i_cl]; omega) (by clear hn n23 kc22 n25 kz26; simp only [i_cl]; omega))))
    have kpI_t28 : pI S_24 := by rw [eS_24]; exact p17
    have kgI_t29 : gI x1.toNatClampNeg S_24 := by rw [eS_24]; exact p18
    have hz : (S_24 62 x1.toNatClampNeg).toInt = (S 62 x1.toNatClampNeg).toInt + 1 := by rw [eS_24, st_same]; omega
    exact D_some (show (iR BM S_24) ∧ (aG x1.toNatClampNeg S S_24) ∧ (pI S_24) ∧ (gI x1.toNatClampNeg S_24) ∧ ((S_24 62 x1.toNatClampNeg).toInt = (S 62 x1.toNatClampNeg).toInt + 1) from ⟨hS_24, kaG_t27, kpI_t28, kgI_t29, hz⟩)
  · have kc22 := tq_len (x := (20 : Int32)) (y := (S_12 62 x1.toNatClampNeg)) (a := 20) (by decide) rfl c22
    refine D_bd2 (t_X8_onTheWay S_12 L_2 x1 p15 p17 p18 ⟨(by clear hn n23 kc22; omega), (by clear hn n23 kc22; omega)⟩) (fun S_31 L_32 eq34 hq33 => ?_)
    refine D_lte (y := S_31) rfl ?_
    refine D_lte (y := L_32) rfl ?_
    obtain ⟨p35, p36, p37, p38, p39⟩ : (iR BM S_31) ∧ (aG x1.toNatClampNeg S_12 S_31) ∧ (pI S_31) ∧ (gI x1.toNatClampNeg S_31) ∧ (S_31 62 x1.toNatClampNeg = (S_12 62 x1.toNatClampNeg)) := hq33
    have k40 : aG x1.toNatClampNeg S S_31 := aG_tr k20 p36
    have k41 : S_31 62 x1.toNatClampNeg = (S 62 x1.toNatClampNeg) := p39.trans k21
    unfold fJ_X8_goOn_J26
    refine D_ck (okI_of (by clear hn n23 kc22; omega) (by clear hn n23 kc22; omega)) ?_
    have n43 : 0 ≤ (S_31 62 x1.toNatClampNeg).toInt ∧ (S_31 62 x1.toNatClampNeg).toInt ≤ 21 := p35 62 x1.toNatClampNeg
    have n44 : ((S_31 62 x1.toNatClampNeg) + 1).toInt = (S_31 62 x1.toNatClampNeg).toInt + 1 := i_addK rfl (by decide) (by clear hx1 hn n23 kc22; omega) (by clear hx1 hn n23 kc22; omega)
    have kz45 : (S_31 62 x1.toNatClampNeg).toInt = (S 62 x1.toNatClampNeg).toInt := congrArg Int32.toInt k41
    refine D_lt (fun S_42 eS_42 => ?_)
    have hS_42 : iR BM S_42 := by rw [eS_42]; exact iR_set p35 (show (0 : Int) ≤ _ from (by clear hx1 n23 kc22; omega)) (show _ ≤ (21 : Int) from (by clear hx1 n23 kc22; omega))
    have kaG_t46 : aG x1.toNatClampNeg S S_42 := (by rw [eS_42]; exact aG_set k40 (Wb_62 (inB_of (by clear hn n23 kc22 n43 n44 kz45; simp only [i_cl]; omega) (by clear hn n23 kc22 n43 n44 kz45; simp only [i_cl]; omega))))
    have kpI_t47 : pI S_42 := by rw [eS_42]; exact p37
    have kgI_t48 : gI x1.toNatClampNeg S_42 := by rw [eS_42]; exact p38
    have hz : (S_42 62 x1.toNatClampNeg).toInt = (S 62 x1.toNatClampNeg).toInt + 1 := by rw [eS_42, st_same]; clear hx1 n23 kc22; omega
    exact D_some (show (iR BM S_42) ∧ (aG x1.toNatClampNeg S S_42) ∧ (pI S_42) ∧ (gI x1.toNatClampNeg S_42) ∧ ((S_42 62 x1.toNatClampNeg).toInt = (S 62 x1.toNatClampNeg).toInt + 1) from ⟨hS_42, kaG_t46, kpI_t47, kgI_t48, hz⟩)
set_option maxHeartbeats 1000000 in
set_option maxRecDepth 100000 in
theorem tl_X8_toEnd_L0 (zaG : Tr)    (N : Nat) : ∀ (S : Tr) (L : Lo), aG 1 zaG S → pI S → gI 1 S → iR BM S → 22 - (S 62 1).toInt < (N : Int) → D (lpF (fun _ _ => none) (fB_X8_toEnd_L0 ) N S L) (fun (q : Tr × Lo) => (iR BM (q.1)) ∧ (aG 1 zaG (q.1)) ∧ (pI (q.1)) ∧ (gI 1 (q.1))) := by
  induction N with
  | zero =>
    intro S L daG dpI dgI hS hN
    exfalso
    have n13 : 0 ≤ (S 62 1).toInt ∧ (S 62 1).toInt ≤ 21 := hS 62 1
    omega
  | succ N0 ih =>
    intro S L daG dpI dgI hS hN
    have hk0 : ∀ (S : Tr) (L : Lo), aG 1 zaG S → pI S → gI 1 S → iR BM S → 22 - (S 62 1).toInt < (N0 : Int) → D (lpF (fun _ _ => none) (fB_X8_toEnd_L0 ) N0 S L) (fun (q : Tr × Lo) => (iR BM (q.1)) ∧ (aG 1 zaG (q.1)) ∧ (pI (q.1)) ∧ (gI 1 (q.1))) := ih
    show D (fB_X8_toEnd_L0  (lpF (fun _ _ => none) (fB_X8_toEnd_L0 ) N0) S L) _
    generalize lpF (fun _ _ => none) (fB_X8_toEnd_L0 ) N0 = k0 at hk0 ⊢
    have hN0 : 22 - (S 62 1).toInt < (N0 : Int) + 1 := by omega
    clear ih
    unfold fB_X8_toEnd_L0
    have n2 : 0 ≤ (S 62 1).toInt ∧ (S 62 1).toInt ≤ 21 := hS 62 1
    refine D_ite (fun c1 => ?_) (fun c1 => ?_)
    · have kc1 := tq_le (x := (21 : Int32)) (y := (S 62 1)) (a := 21) (by decide) rfl c1
      exact D_some (show (iR BM S) ∧ (aG 1 zaG S) ∧ (pI S) ∧ (gI 1 S) from ⟨hS, daG, dpI, dgI⟩)
    · have kc1 := tq_len (x := (21 : Int32)) (y := (S 62 1)) (a := 21) (by decide) rfl c1
      have l1 : (1 : Int32).toInt = 1 := by decide
      refine D_bd2 (t_X8_goOn S L (1 : Int32) hS dpI dgI ⟨(by clear hN0 hN n2 kc1; omega), (by clear hN0 hN n2 kc1; omega)⟩ (show (S 62 1).toInt ≤ 20 from (by first | assumption | exact (by omega)))) (fun S_3 L_4 eq6 hq5 => ?_)
      refine D_lte (y := S_3) rfl ?_
      refine D_lte (y := L_4) rfl ?_
      obtain ⟨p7, p8, p9, p10, p11⟩ : (iR BM S_3) ∧ (aG 1 S S_3) ∧ (pI S_3) ∧ (gI 1 S_3) ∧ ((S_3 62 1).toInt = (S 62 1).toInt + 1) := hq5
      have k12 : aG 1 zaG S_3 := aG_tr daG p8
      have hb62 : (S_3 62 1).toInt = (S 62 1).toInt + 1 := p11
      exact hk0 S_3 L_4 k12 p9 p10 p7 (by omega)
set_option maxHeartbeats 1000000 in
set_option maxRecDepth 100000 in
theorem t_X8_toEnd (S : Tr) (L : Lo) (hS : iR BM S) (dpI : pI S) (dgI : gI 1 S) : D (f_X8_toEnd S L) (fun (q : Tr × Lo) => (iR BM (q.1)) ∧ (aG 1 S (q.1)) ∧ (pI (q.1)) ∧ (gI 1 (q.1))) := by
  unfold f_X8_toEnd
  have n14 : 0 ≤ (S 62 1).toInt ∧ (S 62 1).toInt ≤ 21 := hS 62 1
  exact tl_X8_toEnd_L0 S    2000 S L aG_rfl dpI dgI hS (by omega)
set_option maxHeartbeats 1000000 in
set_option maxRecDepth 100000 in
theorem t_X8_more (S : Tr) (hS : iR BM S) : D (f_X8_more S) (fun (q : Int32) => True) := by
  unfold f_X8_more
  have n1 := i_rng ((S 61 1) - (S 61 0))
  exact D_some trivial
set_option maxHeartbeats 1000000 in
set_option maxRecDepth 100000 in
theorem t_X8_liftsBy (S : Tr) (L : Lo) (x1 : Int32) (hS : iR BM S) (dpI : pI S) (dg0 : gI 0 S) : D (f_X8_liftsBy S L x1) (fun (q : Int32 × Tr × Lo) => (iR BM (q.2.1)) ∧ (aG 1 S (q.2.1)) ∧ (pI (q.2.1)) ∧ (gI 0 (q.2.1))) := by
  unfold f_X8_liftsBy
  refine D_bd (t_X8_layTried S hS dg0 dpI) (fun S_1 eq3 hq2 => ?_)
  obtain ⟨p4, p5, p6, p7, p8, p9⟩ : (iR BM S_1) ∧ (aG 1 S S_1) ∧ (gI 1 S_1) ∧ (pI S_1) ∧ (S_1 62 1 = S 62 0) ∧ (S_1 61 1 = S 61 0) := hq2
  have k10 : aG 1 S S_1 := p5
  have kpI_t11 : pI S_1 := (pI_aG dpI p5)
  have kg0_t12 : gI 0 S_1 := (gI0_G1 hS dg0 p5)
  have kgI_t13 : gI 1 S_1 := p6
  have n14 : 0 ≤ (S_1 62 1).toInt ∧ (S_1 62 1).toInt ≤ 21 := p4 62 1
  have n15 : 0 ≤ (S 62 0).toInt ∧ (S 62 0).toInt ≤ 21 := hS 62 0
  have kz16 : (S_1 62 1).toInt = (S 62 0).toInt := congrArg Int32.toInt p8
  refine D_lt (fun S_17 eS_17 => ?_)
  have hS_17 : iR BM S_17 := by rw [eS_17]; exact iR_setU p4 rfl
  have kaG_t18 : aG 1 S S_17 := (by rw [eS_17]; exact aG_set k10 (Wb_t rfl))
  have kpI_t19 : pI S_17 := by rw [eS_17]; exact kpI_t11
  have kg0_t20 : gI 0 S_17 := by rw [eS_17]; exact kg0_t12
  have kgI_t21 : gI 1 S_17 := by rw [eS_17]; exact kgI_t13
  have n22 : (S_17 62 1).toInt = (S_1 62 1).toInt := by rw [eS_17]; rfl
  have n23 := i_rng x1
  have n24 : (S_17 0 64).toInt = x1.toInt := by rw [eS_17]; rfl
  refine D_bd2 (t_X8_toEnd S_17 L hS_17 kpI_t19 kgI_t21) (fun S_25 L_26 eq28 hq27 => ?_)
  refine D_lte (y := S_25) rfl ?_
  refine D_lte (y := L_26) rfl ?_
  obtain ⟨p29, p30, p31, p32⟩ : (iR BM S_25) ∧ (aG 1 S_17 S_25) ∧ (pI S_25) ∧ (gI 1 S_25) := hq27
  have k33 : aG 1 S S_25 := aG_tr kaG_t18 p30
  have kg0_t34 : gI 0 S_25 := (gI0_G1 hS_17 kg0_t20 p30)
  refine D_bd (t_X8_more S_25 p29) (fun r35 eq37 hq36 => ?_)
  have n38 := i_rng r35
  exact D_some (show (iR BM S_25) ∧ (aG 1 S S_25) ∧ (pI S_25) ∧ (gI 0 S_25) from ⟨p29, k33, p31, kg0_t34⟩)
set_option maxHeartbeats 1000000 in
set_option maxRecDepth 100000 in
theorem t_X8_isBelow (S : Tr) (x1 : Int32) (x2 : Int32) (hS : iR BM S) (hx1 : 0 ≤ x1.toInt ∧ x1.toInt ≤ 9) (hx2 : 0 ≤ x2.toInt ∧ x2.toInt ≤ 9) : D (f_X8_isBelow S x1 x2) (fun (q : Int32) => (0 ≤ q.toInt ∧ q.toInt ≤ 1)) := by
  unfold f_X8_isBelow
  refine D_ck (okI_of (by omega) (by omega)) ?_
  have n1 : 0 ≤ (S 30 x1.toNatClampNeg).toInt ∧ (S 30 x1.toNatClampNeg).toInt ≤ 5 := hS 30 x1.toNatClampNeg
  refine D_ck (okI_of (by omega) (by omega)) ?_
  refine D_lt (fun y2 ey2 => ?_)
  have n3 : 0 ≤ (S 28 (S 30 x1.toNatClampNeg).toNatClampNeg).toInt ∧ (S 28 (S 30 x1.toNatClampNeg).toNatClampNeg).toInt ≤ 20 := hS 28 ((S 30 x1.toNatClampNeg).toNatClampNeg)
  have hy2 : y2.toInt = (S 28 (S 30 x1.toNatClampNeg).toNatClampNeg).toInt := by rw [ey2]
  refine D_ck (okI_of (by clear hx1 n1 n3 hy2; omega) (by clear hx1 n1 n3 hy2; omega)) ?_
  have n4 : 0 ≤ (S 30 x2.toNatClampNeg).toInt ∧ (S 30 x2.toNatClampNeg).toInt ≤ 5 := hS 30 x2.toNatClampNeg
  refine D_ck (okI_of (by clear hx1 hx2 n1 n3 hy2; omega) (by clear hx1 hx2 n1 n3 hy2; omega)) ?_
  refine D_lt (fun y5 ey5 => ?_)
  have n6 : 0 ≤ (S 28 (S 30 x2.toNatClampNeg).toNatClampNeg).toInt ∧ (S 28 (S 30 x2.toNatClampNeg).toNatClampNeg).toInt ≤ 20 := hS 28 ((S 30 x2.toNatClampNeg).toNatClampNeg)
  have hy5 : y5.toInt = (S 28 (S 30 x2.toNatClampNeg).toNatClampNeg).toInt := by rw [ey5]
  refine D_ite (fun c7 => ?_) (fun c7 => ?_)
  · have kc7 := tq_lt (x := y5) (y := y2) rfl rfl c7
    have l1 : (1 : Int32).toInt = 1 := by decide
    exact D_some (show (0 ≤ (1 : Int32).toInt ∧ (1 : Int32).toInt ≤ 1) from ⟨(by clear hx1 hx2 n1 n3 hy2 n4 n6 hy5 kc7; omega), (by clear hx1 hx2 n1 n3 hy2 n4 n6 hy5 kc7; omega)⟩)
  · have kc7 := tq_ltn (x := y5) (y := y2) rfl rfl c7
    refine D_ite (fun c8 => ?_) (fun c8 => ?_)
    · have kc8 := tq_eq (x := y2) (y := y5) rfl rfl c8
      refine D_ite (fun c9 => ?_) (fun c9 => ?_)
      · have kc9 := tq_le (x := x1) (y := x2) rfl rfl c9
        have l0 : (0 : Int32).toInt = 0 := by decide
        exact D_some (show (0 ≤ (0 : Int32).toInt ∧ (0 : Int32).toInt ≤ 1) from ⟨(by clear hx1 hx2 n1 n3 hy2 n4 n6 hy5 kc7 kc8 kc9; omega), (by clear hx1 hx2 n1 n3 hy2 n4 n6 hy5 kc7 kc8 kc9; omega)⟩)
      · have kc9 := tq_len (x := x1) (y := x2) rfl rfl c9
        have l1 : (1 : Int32).toInt = 1 := by decide
        exact D_some (show (0 ≤ (1 : Int32).toInt ∧ (1 : Int32).toInt ≤ 1) from ⟨(by clear hx1 hx2 n1 n3 hy2 n4 n6 hy5 kc7 kc8 kc9; omega), (by clear hx1 hx2 n1 n3 hy2 n4 n6 hy5 kc7 kc8 kc9; omega)⟩)
    · skip
      have l0 : (0 : Int32).toInt = 0 := by decide
      exact D_some (show (0 ≤ (0 : Int32).toInt ∧ (0 : Int32).toInt ≤ 1) from ⟨(by clear hx1 hx2 n1 n3 hy2 n4 n6 hy5 kc7; omega), (by clear hx1 hx2 n1 n3 hy2 n4 n6 hy5 kc7; omega)⟩)
set_option maxHeartbeats 1000000 in
set_option maxRecDepth 100000 in
theorem tl_X8_asking_L33 (zaG : Tr) (L : Lo) (x1 : Int32) (N20 : Nat)  (k20 : Tr → Lo → Option (Int32 × Tr × Lo)) (hk20 : ∀ (S : Tr) (L : Lo), aG 1 zaG S → pI S → gI 0 S → gI 1 S → iR BM S → 22 - (S 62 1).toInt < (N20 : Int) → D (k20 S L) (fun (q : Int32 × Tr × Lo) => (iR BM (q.2.1)) ∧ (aG 1 zaG (q.2.1)) ∧ (pI (q.2.1)) ∧ (gI 0 (q.2.1)))) (N : Nat) : ∀ (x2 : Int32) (S : Tr), 22 - (S 62 1).toInt < (N20 : Int) + 1 → aG 1 zaG S → pI S → gI 0 S → gI 1 S → iR BM S → 0 ≤ x2.toInt ∧ x2.toInt ≤ 1000 → (S 62 1).toInt ≤ 20 → 1000 - x2.toInt < (N : Int) → D (lpF (fun _ _ => none) (fB_X8_asking_L33 k20 L x1) N x2 S) (fun (q : Int32 × Tr × Lo) => (iR BM (q.2.1)) ∧ (aG 1 zaG (q.2.1)) ∧ (pI (q.2.1)) ∧ (gI 0 (q.2.1))) := by
  induction N with
  | zero =>
    intro x2 S hN20 daG dpI dg0 dgI hS hx2 h621 hN
    exfalso
    omega
  | succ N33 ih =>
    intro x2 S hN20 daG dpI dg0 dgI hS hx2 h621 hN
    have hk33 : ∀ (x2 : Int32) (S : Tr), 22 - (S 62 1).toInt < (N20 : Int) + 1 → aG 1 zaG S → pI S → gI 0 S → gI 1 S → iR BM S → 0 ≤ x2.toInt ∧ x2.toInt ≤ 1000 → (S 62 1).toInt ≤ 20 → 1000 - x2.toInt < (N33 : Int) → D (lpF (fun _ _ => none) (fB_X8_asking_L33 k20 L x1) N33 x2 S) (fun (q : Int32 × Tr × Lo) => (iR BM (q.2.1)) ∧ (aG 1 zaG (q.2.1)) ∧ (pI (q.2.1)) ∧ (gI 0 (q.2.1))) := ih
    show D (fB_X8_asking_L33 k20 L x1 (lpF (fun _ _ => none) (fB_X8_asking_L33 k20 L x1) N33) x2 S) _
    generalize lpF (fun _ _ => none) (fB_X8_asking_L33 k20 L x1) N33 = k33 at hk33 ⊢
    have hN33 : 1000 - x2.toInt < (N33 : Int) + 1 := by omega
    clear ih
    unfold fB_X8_asking_L33
    have n53 : 0 ≤ (S 62 1).toInt ∧ (S 62 1).toInt ≤ 21 := hS 62 1
    have n54 : 0 ≤ (S 0 14).toInt ∧ (S 0 14).toInt ≤ 10 := hS 0 14
    have n55 : 0 ≤ (S 0 13).toInt ∧ (S 0 13).toInt ≤ 6 := hS 0 13
    have n56 : 0 ≤ (S 0 12).toInt ∧ (S 0 12).toInt ≤ 5 := hS 0 12
    refine D_ite (fun c57 => ?_) (fun c57 => ?_)
    · have kc57 := tq_le (x := (S 0 12)) (y := x2) rfl rfl c57
      unfold fJ_X8_asking_J68
      have l1 : (1 : Int32).toInt = 1 := by decide
      refine D_bd2 (t_X8_goOn S L (1 : Int32) hS dpI dgI ⟨(by clear hx2 h621 hN20 hN33 hN n53 n54 n55 n56 kc57; omega), (by clear hx2 h621 hN20 hN33 hN n53 n54 n55 n56 kc57; omega)⟩ (show (S 62 1).toInt ≤ 20 from (by first | assumption | exact (by clear hx2 hN20 hN33 hN n54 n55 n56 kc57; omega)))) (fun S_58 L_59 eq61 hq60 => ?_)
      refine D_lte (y := S_58) rfl ?_
      refine D_lte (y := L_59) rfl ?_
      obtain ⟨p62, p63, p64, p65, p66⟩ : (iR BM S_58) ∧ (aG 1 S S_58) ∧ (pI S_58) ∧ (gI 1 S_58) ∧ ((S_58 62 1).toInt = (S 62 1).toInt + 1) := hq60
      have k67 : aG 1 zaG S_58 := aG_tr daG p63
      have n68 : (S_58 0 12).toInt = (S 0 12).toInt := congrArg Int32.toInt (p63 0 _ rfl)
      have n69 : (S_58 0 13).toInt = (S 0 13).toInt := congrArg Int32.toInt (p63 0 _ rfl)
      have n70 : (S_58 0 14).toInt = (S 0 14).toInt := congrArg Int32.toInt (p63 0 _ rfl)
      have kg0_t71 : gI 0 S_58 := (gI0_G1 hS dg0 p63)
      have n72 : (S_58 62 1).toInt = (S 62 1).toInt + 1 := p66
      exact hk20 S_58 L_59 k67 p64 kg0_t71 p65 p62 (by clear hx2 hN33 hN n54 n55 n56 kc57 n68 n69 n70; omega)
    · have kc57 := tq_len (x := (S 0 12)) (y := x2) rfl rfl c57
      refine D_ck (okI_of (by clear h621 hN20 hN33 hN n53 n54 n55; omega) (by clear h621 hN20 hN33 hN n53 n54 n55; omega)) ?_
      have n74 := i_rng (S 24 x2.toNatClampNeg)
      refine D_ite (fun c73 => ?_) (fun c73 => ?_)
      · have kc73 := tq_le (x := (2 : Int32)) (y := (S 24 x2.toNatClampNeg)) (a := 2) (by decide) rfl c73
        have n76 : (x2 + 1).toInt = x2.toInt + 1 := i_addK rfl (by decide) (by clear h621 hN20 hN33 hN n53 n54 n55 n74 kc73; omega) (by clear h621 hN20 hN33 hN n53 n54 n55 n74 kc73; omega)
        refine D_lt (fun y75 ey75 => ?_)
        have hy75 : y75.toInt = (x2 + 1 : Int32).toInt := by rw [ey75]
        exact hk33 y75 S (by clear hx2 hN33 hN n54 n55 n56 kc57 n74 kc73 n76 hy75; omega) daG dpI dg0 dgI hS ⟨(by clear h621 hN20 hN33 hN n53 n54 n55 n74 kc73; omega), (by clear h621 hN20 hN33 hN n53 n54 n55 n74 kc73; omega)⟩ (by clear hx2 hN20 hN33 hN n54 n55 n56 kc57 n74 kc73 n76 hy75; omega) (by clear h621 hN20 n53 n54 n55 n74 kc73; omega)
      · have kc73 := tq_len (x := (2 : Int32)) (y := (S 24 x2.toNatClampNeg)) (a := 2) (by decide) rfl c73
        have l1 : (1 : Int32).toInt = 1 := by decide
        refine D_bd2 (t_X8_turns S (1 : Int32) x2 hS dgI ⟨(by clear hx2 h621 hN20 hN33 hN n53 n54 n55 n56 kc57 n74 kc73; omega), (by clear hx2 h621 hN20 hN33 hN n53 n54 n55 n56 kc57 n74 kc73; omega)⟩ ⟨(by clear h621 hN20 hN33 hN n53 n54 n55 n74 kc73; omega), (by clear h621 hN20 hN33 hN n53 n54 n55 n74 kc73; omega)⟩) (fun r77 S_78 eq80 hq79 => ?_)
        refine D_lte (y := r77) rfl ?_
        refine D_lte (y := S_78) rfl ?_
        obtain ⟨p81, p82, p83, p84, p85⟩ : (iR BM S_78) ∧ (gI 1 S_78) ∧ (aG 1 S S_78) ∧ (S_78 62 1 = (S 62 1)) ∧ (∀ a j, a ≠ 55 → a ≠ 74 → S_78 a j = S a j) := hq79
        have n86 := i_rng r77
        have k87 : aG 1 zaG S_78 := aG_tr daG p83
        have n88 : (S_78 0 12).toInt = (S 0 12).toInt := congrArg Int32.toInt (p83 0 _ rfl)
        have n89 : (S_78 0 13).toInt = (S 0 13).toInt := congrArg Int32.toInt (p83 0 _ rfl)
        have n90 : (S_78 0 14).toInt = (S 0 14).toInt := congrArg Int32.toInt (p83 0 _ rfl)
        have kpI_t91 : pI S_78 := (pI_aG dpI p83)
        have kg0_t92 : gI 0 S_78 := (gI0_G1 hS dg0 p83)
        have n93 : 0 ≤ (S_78 62 1).toInt ∧ (S_78 62 1).toInt ≤ 21 := p81 62 1
        have kz94 : (S_78 62 1).toInt = (S 62 1).toInt := congrArg Int32.toInt p84
        have n96 : (x2 + 1).toInt = x2.toInt + 1 := i_addK rfl (by decide) (by clear h621 hN20 hN33 hN n53 n54 n55 n74 kc73 n86 n89 n90 n93 kz94; omega) (by clear h621 hN20 hN33 hN n53 n54 n55 n74 kc73 n86 n89 n90 n93 kz94; omega)
        refine D_lt (fun y95 ey95 => ?_)
        have hy95 : y95.toInt = (x2 + 1 : Int32).toInt := by rw [ey95]
        exact hk33 y95 S_78 (by clear hx2 hN33 hN n54 n55 n56 kc57 n74 kc73 n86 n88 n89 n90 n96 hy95; omega) k87 kpI_t91 kg0_t92 p82 p81 ⟨(by clear h621 hN20 hN33 hN n53 n54 n55 n74 kc73 n86 n89 n90 n93 kz94; omega), (by clear h621 hN20 hN33 hN n53 n54 n55 n74 kc73 n86 n89 n90 n93 kz94; omega)⟩ (by clear hx2 hN20 hN33 hN n54 n55 n56 kc57 n74 kc73 n86 n88 n89 n90 n96 hy95; omega) (by clear h621 hN20 n53 n54 n55 n74 kc73 n86 n89 n90 n93 kz94; omega)
set_option maxHeartbeats 1000000 in
set_option maxRecDepth 100000 in
theorem tl_X8_asking_L20 (zaG : Tr) (x1 : Int32)    (N : Nat) : ∀ (S : Tr) (L : Lo), aG 1 zaG S → pI S → gI 0 S → gI 1 S → iR BM S → 22 - (S 62 1).toInt < (N : Int) → D (lpF (fun _ _ => none) (fB_X8_asking_L20 x1) N S L) (fun (q : Int32 × Tr × Lo) => (iR BM (q.2.1)) ∧ (aG 1 zaG (q.2.1)) ∧ (pI (q.2.1)) ∧ (gI 0 (q.2.1))) := by
  induction N with
  | zero =>
    intro S L daG dpI dg0 dgI hS hN
    exfalso
    have n98 : 0 ≤ (S 62 1).toInt ∧ (S 62 1).toInt ≤ 21 := hS 62 1
    omega
  | succ N20 ih =>
    intro S L daG dpI dg0 dgI hS hN
    have hk20 : ∀ (S : Tr) (L : Lo), aG 1 zaG S → pI S → gI 0 S → gI 1 S → iR BM S → 22 - (S 62 1).toInt < (N20 : Int) → D (lpF (fun _ _ => none) (fB_X8_asking_L20 x1) N20 S L) (fun (q : Int32 × Tr × Lo) => (iR BM (q.2.1)) ∧ (aG 1 zaG (q.2.1)) ∧ (pI (q.2.1)) ∧ (gI 0 (q.2.1))) := ih
    show D (fB_X8_asking_L20 x1 (lpF (fun _ _ => none) (fB_X8_asking_L20 x1) N20) S L) _
    generalize lpF (fun _ _ => none) (fB_X8_asking_L20 x1) N20 = k20 at hk20 ⊢
    have hN20 : 22 - (S 62 1).toInt < (N20 : Int) + 1 := by omega
    clear ih
    unfold fB_X8_asking_L20
    have n37 : 0 ≤ (S 62 1).toInt ∧ (S 62 1).toInt ≤ 21 := hS 62 1
    have n38 : 0 ≤ (S 0 14).toInt ∧ (S 0 14).toInt ≤ 10 := hS 0 14
    have n39 : 0 ≤ (S 0 13).toInt ∧ (S 0 13).toInt ≤ 6 := hS 0 13
    have n40 : 0 ≤ (S 0 12).toInt ∧ (S 0 12).toInt ≤ 5 := hS 0 12
    refine D_ite (fun c41 => ?_) (fun c41 => ?_)
    · have kc41 := tq_le (x := (21 : Int32)) (y := (S 62 1)) (a := 21) (by decide) rfl c41
      unfold fJ_X8_asking_J76
      refine D_bd (t_X8_more S hS) (fun r42 eq44 hq43 => ?_)
      have n45 := i_rng r42
      have n47 := i_rng x1
      refine D_ite (fun c46 => ?_) (fun c46 => ?_)
      · have kc46 := tq_le (x := x1) (y := r42) rfl rfl c46
        have l0 : (0 : Int32).toInt = 0 := by decide
        exact D_some (show (iR BM S) ∧ (aG 1 zaG S) ∧ (pI S) ∧ (gI 0 S) from ⟨hS, daG, dpI, dg0⟩)
      · have kc46 := tq_len (x := x1) (y := r42) rfl rfl c46
        refine D_bd (t_X8_more S hS) (fun r48 eq50 hq49 => ?_)
        have n51 := i_rng r48
        have n52 := i_rng (x1 - r48)
        exact D_some (show (iR BM S) ∧ (aG 1 zaG S) ∧ (pI S) ∧ (gI 0 S) from ⟨hS, daG, dpI, dg0⟩)
    · have kc41 := tq_len (x := (21 : Int32)) (y := (S 62 1)) (a := 21) (by decide) rfl c41
      have l0 : (0 : Int32).toInt = 0 := by decide
      have n97 := i_rng x1
      exact tl_X8_asking_L33 zaG L x1 N20  k20 hk20 2000 (0 : Int32) S (by clear n38 n39 n40 n97; omega) daG dpI dg0 dgI hS ⟨(by clear hN20 hN n37 n38 n39 n40 kc41 n97; omega), (by clear hN20 hN n37 n38 n39 n40 kc41 n97; omega)⟩ (by clear hN20 hN n38 n39 n40 n97; omega) (by clear hN20 hN n37 n38 n39 n40 kc41 n97; omega)
set_option maxHeartbeats 1000000 in
set_option maxRecDepth 100000 in
theorem t_X8_asking (S : Tr) (L : Lo) (hS : iR BM S) (dpI : pI S) (dg0 : gI 0 S) : D (f_X8_asking S L) (fun (q : Int32 × Tr × Lo) => (iR BM (q.2.1)) ∧ (aG 1 S (q.2.1)) ∧ (pI (q.2.1)) ∧ (gI 0 (q.2.1))) := by
  unfold f_X8_asking
  refine D_lt (fun S_1 eS_1 => ?_)
  have hS_1 : iR BM S_1 := by rw [eS_1]; exact iR_setU hS rfl
  have kaG_t2 : aG 1 S S_1 := (by rw [eS_1]; exact aG_set aG_rfl (Wb_t rfl))
  have kpI_t3 : pI S_1 := by rw [eS_1]; exact dpI
  have kg0_t4 : gI 0 S_1 := by rw [eS_1]; exact dg0
  have l0 : (0 : Int32).toInt = 0 := by decide
  have n6 : (S_1 0 2).toInt = (0 : Int32).toInt := by rw [eS_1]; rfl
  have n7 := i_rng (S_1 23 0)
  refine D_bd3 (t_X8_liftsBy S_1 L (S_1 23 0) hS_1 kpI_t3 kg0_t4) (fun r8 S_9 L_10 eq12 hq11 => ?_)
  refine D_lte (y := r8) rfl ?_
  refine D_lte (y := S_9) rfl ?_
  refine D_lte (y := L_10) rfl ?_
  obtain ⟨p13, p14, p15, p16⟩ : (iR BM S_9) ∧ (aG 1 S_1 S_9) ∧ (pI S_9) ∧ (gI 0 S_9) := hq11
  have n17 := i_rng r8
  have k18 : aG 1 S S_9 := aG_tr kaG_t2 p14
  have n19 : (S_9 23 0).toInt = (S_1 23 0).toInt := congrArg Int32.toInt (p14 23 _ rfl)
  refine D_bd (t_X8_layTried S_9 p13 p16 p15) (fun S_20 eq22 hq21 => ?_)
  obtain ⟨p23, p24, p25, p26, p27, p28⟩ : (iR BM S_20) ∧ (aG 1 S_9 S_20) ∧ (gI 1 S_20) ∧ (pI S_20) ∧ (S_20 62 1 = S_9 62 0) ∧ (S_20 61 1 = S_9 61 0) := hq21
  have k29 : aG 1 S S_20 := aG_tr k18 p24
  have n30 : (S_20 23 0).toInt = (S_9 23 0).toInt := congrArg Int32.toInt (p24 23 _ rfl)
  have kpI_t31 : pI S_20 := (pI_aG p15 p24)
  have kg0_t32 : gI 0 S_20 := (gI0_G1 p13 p16 p24)
  have kgI_t33 : gI 1 S_20 := p25
  have n34 : 0 ≤ (S_20 62 1).toInt ∧ (S_20 62 1).toInt ≤ 21 := p23 62 1
  have n35 : 0 ≤ (S_9 62 0).toInt ∧ (S_9 62 0).toInt ≤ 21 := p13 62 0
  have kz36 : (S_20 62 1).toInt = (S_9 62 0).toInt := congrArg Int32.toInt p27
  exact tl_X8_asking_L20 S r8    2000 S_20 L_10 k29 kpI_t31 kg0_t32 kgI_t33 p23 (by clear n6 n7 n17 n19 n30; omega)
set_option maxHeartbeats 1000000 in
set_option maxRecDepth 100000 in
theorem tl_X8_atFirst_L64 (zaG : Tr) (x1 : Int32) (hx1 : 0 ≤ x1.toInt ∧ x1.toInt ≤ 1) (hpz : pI zaG)   (N : Nat) : ∀ (x2 : Int32) (S : Tr), aG x1.toNatClampNeg zaG S → iR BM S → 0 ≤ x2.toInt ∧ x2.toInt ≤ 1000 → (∀ j : Nat, j < 10 → S 53 (10 * x1.toNatClampNeg + j) = 0) → (∀ j : Nat, j < 10 → S 54 (10 * x1.toNatClampNeg + j) = (-1)) → (∀ j : Nat, j < 5 → S 56 (5 * x1.toNatClampNeg + j) = 0) → (∀ j : Nat, (j : Int) < x2.toInt → S 58 (6 * x1.toNatClampNeg + j) = zaG 29 j) → 1000 - x2.toInt < (N : Int) → D (lpF (fun _ _ => none) (fB_X8_atFirst_L64 x1) N x2 S) (fun (q : Tr) => (iR BM q) ∧ (aG x1.toNatClampNeg zaG q) ∧ (gI x1.toNatClampNeg q) ∧ (pI q) ∧ (q 62 x1.toNatClampNeg = 0)) := by
  induction N with
  | zero =>
    intro x2 S daG hS hx2 hc53 hc54 hc56 hc58 hN
    exfalso
    omega
  | succ N64 ih =>
    intro x2 S daG hS hx2 hc53 hc54 hc56 hc58 hN
    have hk64 : ∀ (x2 : Int32) (S : Tr), aG x1.toNatClampNeg zaG S → iR BM S → 0 ≤ x2.toInt ∧ x2.toInt ≤ 1000 → (∀ j : Nat, j < 10 → S 53 (10 * x1.toNatClampNeg + j) = 0) → (∀ j : Nat, j < 10 → S 54 (10 * x1.toNatClampNeg + j) = (-1)) → (∀ j : Nat, j < 5 → S 56 (5 * x1.toNatClampNeg + j) = 0) → (∀ j : Nat, (j : Int) < x2.toInt → S 58 (6 * x1.toNatClampNeg + j) = zaG 29 j) → 1000 - x2.toInt < (N64 : Int) → D (lpF (fun _ _ => none) (fB_X8_atFirst_L64 x1) N64 x2 S) (fun (q : Tr) => (iR BM q) ∧ (aG x1.toNatClampNeg zaG q) ∧ (gI x1.toNatClampNeg q) ∧ (pI q) ∧ (q 62 x1.toNatClampNeg = 0)) := ih
    show D (fB_X8_atFirst_L64 x1 (lpF (fun _ _ => none) (fB_X8_atFirst_L64 x1) N64) x2 S) _
    generalize lpF (fun _ _ => none) (fB_X8_atFirst_L64 x1) N64 = k64 at hk64 ⊢
    have hN64 : 1000 - x2.toInt < (N64 : Int) + 1 := by omega
    clear ih
    unfold fB_X8_atFirst_L64
    refine D_ite (fun c3 => ?_) (fun c3 => ?_)
    · have kc3 := tq_le (x := (6 : Int32)) (y := x2) (a := 6) (by decide) rfl c3
      unfold fJ_X8_atFirst_J134
      refine D_ck (okI_of (by clear hx2 hc58 hN64 hN kc3; omega) (by clear hx2 hc58 hN64 hN kc3; omega)) ?_
      refine D_lt (fun S_4 eS_4 => ?_)
      have hS_4 : iR BM S_4 := by rw [eS_4]; exact iR_setU hS rfl
      have kaG_t5 : aG x1.toNatClampNeg zaG S_4 := (by rw [eS_4]; exact aG_set daG (Wb_61 (inB_of (by clear hx2 hc58 hN64 hN kc3; simp only [i_cl]; omega) (by clear hx2 hc58 hN64 hN kc3; simp only [i_cl]; omega))))
      have l0 : (0 : Int32).toInt = 0 := by decide
      refine D_lt (fun S_6 eS_6 => ?_)
      have hS_6 : iR BM S_6 := by rw [eS_6]; exact iR_set hS_4 (show (0 : Int) ≤ _ from (by clear hx1 hx2 hc58 hN64 hN kc3; omega)) (show _ ≤ (21 : Int) from (by clear hx1 hx2 hc58 hN64 hN kc3; omega))
      have kaG_t7 : aG x1.toNatClampNeg zaG S_6 := (by rw [eS_6]; exact aG_set kaG_t5 (Wb_62 (inB_of (by clear hx2 hc58 hN64 hN kc3; simp only [i_cl]; omega) (by clear hx2 hc58 hN64 hN kc3; simp only [i_cl]; omega))))
      refine D_lt (fun S_8 eS_8 => ?_)
      have hS_8 : iR BM S_8 := by rw [eS_8]; exact iR_setU hS_6 rfl
      have kaG_t9 : aG x1.toNatClampNeg zaG S_8 := (by rw [eS_8]; exact aG_set kaG_t7 (Wb_63 (inB_of (by clear hx2 hc58 hN64 hN kc3; simp only [i_cl]; omega) (by clear hx2 hc58 hN64 hN kc3; simp only [i_cl]; omega))))
      exact D_some (show (iR BM S_8) ∧ (aG x1.toNatClampNeg zaG S_8) ∧ (gI x1.toNatClampNeg S_8) ∧ (pI S_8) ∧ (S_8 62 x1.toNatClampNeg = 0) from ⟨hS_8, kaG_t9, (gI_new (fun j hj => by rw [eS_8, eS_6, eS_4]; exact hc53 j hj) (fun j hj => by rw [eS_8, eS_6, eS_4]; exact hc54 j hj) (fun j hj => by rw [eS_8, eS_6, eS_4]; exact hc56 j hj) (fun j hj hq => by rw [eS_8, eS_6, eS_4] at hq ⊢; have hq : (j : Int) < (S 0 13).toInt := hq; show 1 ≤ (S 58 (6 * x1.toNatClampNeg + j)).toInt; rw [hc58 j (by omega)]; rw [daG 0 13 rfl] at hq; exact hpz.2.2.2 j hj hq)), (pI_aG hpz kaG_t9), (by rw [eS_8, st_oth (by decide), eS_6, st_same])⟩)
    · have kc3 := tq_len (x := (6 : Int32)) (y := x2) (a := 6) (by decide) rfl c3
      refine D_ck (okI_of (by clear hx1 hN64 hN; omega) (by clear hx1 hN64 hN; omega)) ?_
      have n10 := i_mulL (a := (6 : Int32)) (b := x1) 6 (by decide) (by clear hx2 hc58 hN64 hN kc3; omega) (by clear hx2 hc58 hN64 hN kc3; omega)
      have n11 : (((6 : Int32) * x1) + x2).toInt = ((6 : Int32) * x1).toInt + x2.toInt := i_addK rfl rfl (by omega) (by omega)
      refine D_ck (okI_of (by omega) (by omega)) ?_
      refine D_lt (fun S_12 eS_12 => ?_)
      have hS_12 : iR BM S_12 := by rw [eS_12]; exact iR_setU hS rfl
      have kaG_t13 : aG x1.toNatClampNeg zaG S_12 := (by rw [eS_12]; exact aG_set daG (Wb_57 (inB_of (by simp only [i_cl]; omega) (by simp only [i_cl]; omega))))
      refine D_lt (fun S_14 eS_14 => ?_)
      have hS_14 : iR BM S_14 := by rw [eS_14]; exact iR_setU hS_12 rfl
      have kaG_t15 : aG x1.toNatClampNeg zaG S_14 := (by rw [eS_14]; exact aG_set kaG_t13 (Wb_58 (inB_of (by simp only [i_cl]; omega) (by simp only [i_cl]; omega))))
      refine D_lt (fun S_16 eS_16 => ?_)
      have hS_16 : iR BM S_16 := by rw [eS_16]; exact iR_setU hS_14 rfl
      have kaG_t17 : aG x1.toNatClampNeg zaG S_16 := (by rw [eS_16]; exact aG_set kaG_t15 (Wb_59 (inB_of (by simp only [i_cl]; omega) (by simp only [i_cl]; omega))))
      refine D_lt (fun S_18 eS_18 => ?_)
      have hS_18 : iR BM S_18 := by rw [eS_18]; exact iR_setU hS_16 rfl
      have kaG_t19 : aG x1.toNatClampNeg zaG S_18 := (by rw [eS_18]; exact aG_set kaG_t17 (Wb_60 (inB_of (by simp only [i_cl]; omega) (by simp only [i_cl]; omega))))
      have n21 : (x2 + 1).toInt = x2.toInt + 1 := i_addK rfl (by decide) (by omega) (by omega)
      refine D_lt (fun y20 ey20 => ?_)
      have hy20 : y20.toInt = (x2 + 1 : Int32).toInt := by rw [ey20]
      exact hk64 y20 S_18 kaG_t19 hS_18 ⟨(by omega), (by omega)⟩ (by rw [eS_18, eS_16, eS_14, eS_12]; exact hc53) (by rw [eS_18, eS_16, eS_14, eS_12]; exact hc54) (by rw [eS_18, eS_16, eS_14, eS_12]; exact hc56) (cp_s (g := zaG 29) (v := S 29 x2.toNatClampNeg) (c := 6 * x1.toNatClampNeg) (x := x2) (i := (((6 : Int32) * x1) + x2).toNatClampNeg) hc58 (by omega) (by simp only [i_cl]; omega) (daG 29 _ rfl) (by rw [eS_18, eS_16, eS_14, eS_12]; rfl) (by omega)) (by omega)
set_option maxHeartbeats 1000000 in
set_option maxRecDepth 100000 in
theorem tl_X8_atFirst_L40 (zaG : Tr) (x1 : Int32) (hx1 : 0 ≤ x1.toInt ∧ x1.toInt ≤ 1) (hpz : pI zaG)   (N : Nat) : ∀ (x2 : Int32) (S : Tr), aG x1.toNatClampNeg zaG S → iR BM S → 0 ≤ x2.toInt ∧ x2.toInt ≤ 1000 → (∀ j : Nat, j < 10 → S 53 (10 * x1.toNatClampNeg + j) = 0) → (∀ j : Nat, j < 10 → S 54 (10 * x1.toNatClampNeg + j) = (-1)) → (∀ j : Nat, (j : Int) < x2.toInt → S 56 (5 * x1.toNatClampNeg + j) = 0) → 1000 - x2.toInt < (N : Int) → D (lpF (fun _ _ => none) (fB_X8_atFirst_L40 x1) N x2 S) (fun (q : Tr) => (iR BM q) ∧ (aG x1.toNatClampNeg zaG q) ∧ (gI x1.toNatClampNeg q) ∧ (pI q) ∧ (q 62 x1.toNatClampNeg = 0)) := by
  induction N with
  | zero =>
    intro x2 S daG hS hx2 hc53 hc54 hc56 hN
    exfalso
    omega
  | succ N40 ih =>
    intro x2 S daG hS hx2 hc53 hc54 hc56 hN
    have hk40 : ∀ (x2 : Int32) (S : Tr), aG x1.toNatClampNeg zaG S → iR BM S → 0 ≤ x2.toInt ∧ x2.toInt ≤ 1000 → (∀ j : Nat, j < 10 → S 53 (10 * x1.toNatClampNeg + j) = 0) → (∀ j : Nat, j < 10 → S 54 (10 * x1.toNatClampNeg + j) = (-1)) → (∀ j : Nat, (j : Int) < x2.toInt → S 56 (5 * x1.toNatClampNeg + j) = 0) → 1000 - x2.toInt < (N40 : Int) → D (lpF (fun _ _ => none) (fB_X8_atFirst_L40 x1) N40 x2 S) (fun (q : Tr) => (iR BM q) ∧ (aG x1.toNatClampNeg zaG q) ∧ (gI x1.toNatClampNeg q) ∧ (pI q) ∧ (q 62 x1.toNatClampNeg = 0)) := ih
    show D (fB_X8_atFirst_L40 x1 (lpF (fun _ _ => none) (fB_X8_atFirst_L40 x1) N40) x2 S) _
    generalize lpF (fun _ _ => none) (fB_X8_atFirst_L40 x1) N40 = k40 at hk40 ⊢
    have hN40 : 1000 - x2.toInt < (N40 : Int) + 1 := by omega
    clear ih
    unfold fB_X8_atFirst_L40
    refine D_ite (fun c2 => ?_) (fun c2 => ?_)
    · have kc2 := tq_le (x := (5 : Int32)) (y := x2) (a := 5) (by decide) rfl c2
      have l0 : (0 : Int32).toInt = 0 := by decide
      exact tl_X8_atFirst_L64 zaG x1 ⟨(by clear hx2 hc56 hN40 hN kc2; omega), (by clear hx2 hc56 hN40 hN kc2; omega)⟩ hpz   2000 (0 : Int32) S daG hS ⟨(by clear hx1 hx2 hc56 hN40 hN kc2; omega), (by clear hx1 hx2 hc56 hN40 hN kc2; omega)⟩ hc53 hc54 (fun j hj => hc56 j (by omega)) (fun j hj => absurd hj (by show ¬ (j : Int) < 0; omega)) (by clear hx1 hx2 hc56 hN40 hN kc2; omega)
    · have kc2 := tq_len (x := (5 : Int32)) (y := x2) (a := 5) (by decide) rfl c2
      have n22 := i_mulL (a := (5 : Int32)) (b := x1) 5 (by decide) (by clear hx2 hc56 hN40 hN kc2; omega) (by clear hx2 hc56 hN40 hN kc2; omega)
      have n23 : (((5 : Int32) * x1) + x2).toInt = ((5 : Int32) * x1).toInt + x2.toInt := i_addK rfl rfl (by omega) (by omega)
      refine D_ck (okI_of (by omega) (by omega)) ?_
      have l0 : (0 : Int32).toInt = 0 := by decide
      refine D_lt (fun S_24 eS_24 => ?_)
      have hS_24 : iR BM S_24 := by rw [eS_24]; exact iR_set hS (show (0 : Int) ≤ _ from (by clear hx1 hx2 hc56 hN40 hN kc2 n22 n23; omega)) (show _ ≤ (10 : Int) from (by clear hx1 hx2 hc56 hN40 hN kc2 n22 n23; omega))
      have kaG_t25 : aG x1.toNatClampNeg zaG S_24 := (by rw [eS_24]; exact aG_set daG (Wb_56 (inB_of (by simp only [i_cl]; omega) (by simp only [i_cl]; omega))))
      have n27 : (x2 + 1).toInt = x2.toInt + 1 := i_addK rfl (by decide) (by omega) (by omega)
      refine D_lt (fun y26 ey26 => ?_)
      have hy26 : y26.toInt = (x2 + 1 : Int32).toInt := by rw [ey26]
      exact hk40 y26 S_24 kaG_t25 hS_24 ⟨(by omega), (by omega)⟩ (by rw [eS_24]; exact hc53) (by rw [eS_24]; exact hc54) (cp_s (g := fun _ => 0) (v := 0) (c := 5 * x1.toNatClampNeg) (x := x2) (i := (((5 : Int32) * x1) + x2).toNatClampNeg) hc56 (by omega) (by simp only [i_cl]; omega) rfl (by rw [eS_24]; rfl) (by omega)) (by omega)
set_option maxHeartbeats 1000000 in
set_option maxRecDepth 100000 in
theorem tl_X8_atFirst_L2 (zaG : Tr) (x1 : Int32) (hx1 : 0 ≤ x1.toInt ∧ x1.toInt ≤ 1) (hpz : pI zaG)   (N : Nat) : ∀ (x2 : Int32) (S : Tr), aG x1.toNatClampNeg zaG S → iR BM S → 0 ≤ x2.toInt ∧ x2.toInt ≤ 1000 → (∀ j : Nat, (j : Int) < x2.toInt → S 53 (10 * x1.toNatClampNeg + j) = 0) → (∀ j : Nat, (j : Int) < x2.toInt → S 54 (10 * x1.toNatClampNeg + j) = (-1)) → 1000 - x2.toInt < (N : Int) → D (lpF (fun _ _ => none) (fB_X8_atFirst_L2 x1) N x2 S) (fun (q : Tr) => (iR BM q) ∧ (aG x1.toNatClampNeg zaG q) ∧ (gI x1.toNatClampNeg q) ∧ (pI q) ∧ (q 62 x1.toNatClampNeg = 0)) := by
  induction N with
  | zero =>
    intro x2 S daG hS hx2 hc53 hc54 hN
    exfalso
    omega
  | succ N2 ih =>
    intro x2 S daG hS hx2 hc53 hc54 hN
    have hk2 : ∀ (x2 : Int32) (S : Tr), aG x1.toNatClampNeg zaG S → iR BM S → 0 ≤ x2.toInt ∧ x2.toInt ≤ 1000 → (∀ j : Nat, (j : Int) < x2.toInt → S 53 (10 * x1.toNatClampNeg + j) = 0) → (∀ j : Nat, (j : Int) < x2.toInt → S 54 (10 * x1.toNatClampNeg + j) = (-1)) → 1000 - x2.toInt < (N2 : Int) → D (lpF (fun _ _ => none) (fB_X8_atFirst_L2 x1) N2 x2 S) (fun (q : Tr) => (iR BM q) ∧ (aG x1.toNatClampNeg zaG q) ∧ (gI x1.toNatClampNeg q) ∧ (pI q) ∧ (q 62 x1.toNatClampNeg = 0)) := ih
    show D (fB_X8_atFirst_L2 x1 (lpF (fun _ _ => none) (fB_X8_atFirst_L2 x1) N2) x2 S) _
    generalize lpF (fun _ _ => none) (fB_X8_atFirst_L2 x1) N2 = k2 at hk2 ⊢
    have hN2 : 1000 - x2.toInt < (N2 : Int) + 1 := by omega
    clear ih
    unfold fB_X8_atFirst_L2
    refine D_ite (fun c1 => ?_) (fun c1 => ?_)
    · have kc1 := tq_le (x := (10 : Int32)) (y := x2) (a := 10) (by decide) rfl c1
      have l0 : (0 : Int32).toInt = 0 := by decide
      exact tl_X8_atFirst_L40 zaG x1 ⟨(by clear hx2 hc53 hc54 hN2 hN kc1; omega), (by clear hx2 hc53 hc54 hN2 hN kc1; omega)⟩ hpz   2000 (0 : Int32) S daG hS ⟨(by clear hx1 hx2 hc53 hc54 hN2 hN kc1; omega), (by clear hx1 hx2 hc53 hc54 hN2 hN kc1; omega)⟩ (fun j hj => hc53 j (by omega)) (fun j hj => hc54 j (by omega)) (fun j hj => absurd hj (by show ¬ (j : Int) < 0; omega)) (by clear hx1 hx2 hc53 hc54 hN2 hN kc1; omega)
    · have kc1 := tq_len (x := (10 : Int32)) (y := x2) (a := 10) (by decide) rfl c1
      have n28 := i_mulL (a := (10 : Int32)) (b := x1) 10 (by decide) (by clear hx2 hc53 hc54 hN2 hN kc1; omega) (by clear hx2 hc53 hc54 hN2 hN kc1; omega)
      have n29 : (((10 : Int32) * x1) + x2).toInt = ((10 : Int32) * x1).toInt + x2.toInt := i_addK rfl rfl (by omega) (by omega)
      refine D_ck (okI_of (by omega) (by omega)) ?_
      have l0 : (0 : Int32).toInt = 0 := by decide
      refine D_lt (fun S_30 eS_30 => ?_)
      have hS_30 : iR BM S_30 := by rw [eS_30]; exact iR_set hS (show (0 : Int) ≤ _ from (by clear hx1 hx2 hc53 hc54 hN2 hN kc1 n28 n29; omega)) (show _ ≤ (5 : Int) from (by clear hx1 hx2 hc53 hc54 hN2 hN kc1 n28 n29; omega))
      have kaG_t31 : aG x1.toNatClampNeg zaG S_30 := (by rw [eS_30]; exact aG_set daG (Wb_53 (inB_of (by simp only [i_cl]; omega) (by simp only [i_cl]; omega))))
      have lm1 : ((-1) : Int32).toInt = (-1) := by decide
      refine D_lt (fun S_32 eS_32 => ?_)
      have hS_32 : iR BM S_32 := by rw [eS_32]; exact iR_set hS_30 (show ((-1) : Int) ≤ _ from (by clear hx1 hx2 hc53 hc54 hN2 hN kc1 n28 n29; omega)) (show _ ≤ (4 : Int) from (by clear hx1 hx2 hc53 hc54 hN2 hN kc1 n28 n29; omega))
      have kaG_t33 : aG x1.toNatClampNeg zaG S_32 := (by rw [eS_32]; exact aG_set kaG_t31 (Wb_54 (inB_of (by simp only [i_cl]; omega) (by simp only [i_cl]; omega))))
      have n35 : (x2 + 1).toInt = x2.toInt + 1 := i_addK rfl (by decide) (by omega) (by omega)
      refine D_lt (fun y34 ey34 => ?_)
      have hy34 : y34.toInt = (x2 + 1 : Int32).toInt := by rw [ey34]
      exact hk2 y34 S_32 kaG_t33 hS_32 ⟨(by omega), (by omega)⟩ (cp_s (g := fun _ => 0) (v := 0) (c := 10 * x1.toNatClampNeg) (x := x2) (i := (((10 : Int32) * x1) + x2).toNatClampNeg) hc53 (by omega) (by simp only [i_cl]; omega) rfl (by rw [eS_32, eS_30]; rfl) (by omega)) (cp_s (g := fun _ => (-1)) (v := (-1)) (c := 10 * x1.toNatClampNeg) (x := x2) (i := (((10 : Int32) * x1) + x2).toNatClampNeg) hc54 (by omega) (by simp only [i_cl]; omega) rfl (by rw [eS_32, eS_30]; rfl) (by omega)) (by omega)
set_option maxHeartbeats 1000000 in
set_option maxRecDepth 100000 in
theorem t_X8_atFirst (S : Tr) (x1 : Int32) (hS : iR BM S) (hx1 : 0 ≤ x1.toInt ∧ x1.toInt ≤ 1) (hpz : pI S) : D (f_X8_atFirst S x1) (fun (q : Tr) => (iR BM q) ∧ (aG x1.toNatClampNeg S q) ∧ (gI x1.toNatClampNeg q) ∧ (pI q) ∧ (q 62 x1.toNatClampNeg = 0)) := by
  unfold f_X8_atFirst
  have l0 : (0 : Int32).toInt = 0 := by decide
  exact tl_X8_atFirst_L2 S x1 ⟨(by omega), (by omega)⟩ hpz   2000 (0 : Int32) S aG_rfl hS ⟨(by omega), (by omega)⟩ (fun j hj => absurd hj (by show ¬ (j : Int) < 0; omega)) (fun j hj => absurd hj (by show ¬ (j : Int) < 0; omega)) (by omega)
set_option maxHeartbeats 1000000 in
set_option maxRecDepth 100000 in
theorem tl_X8_bestRule_L9 (zaG : Tr)    (N : Nat) : ∀ (x1 : Int32) (x2 : Int32) (S : Tr) (L : Lo), aG 1 zaG S → pI S → gI 0 S → iR BM S → 0 ≤ x2.toInt ∧ x2.toInt ≤ 1000 → 1000 - x2.toInt < (N : Int) → D (lpF (fun _ _ _ _ => none) (fB_X8_bestRule_L9 ) N x1 x2 S L) (fun (q : Int32 × Tr × Lo) => (iR BM (q.2.1)) ∧ (aG 1 zaG (q.2.1)) ∧ (pI (q.2.1)) ∧ (gI 0 (q.2.1))) := by
  induction N with
  | zero =>
    intro x1 x2 S L daG dpI dg0 hS hx2 hN
    exfalso
    omega
  | succ N9 ih =>
    intro x1 x2 S L daG dpI dg0 hS hx2 hN
    have hk9 : ∀ (x1 : Int32) (x2 : Int32) (S : Tr) (L : Lo), aG 1 zaG S → pI S → gI 0 S → iR BM S → 0 ≤ x2.toInt ∧ x2.toInt ≤ 1000 → 1000 - x2.toInt < (N9 : Int) → D (lpF (fun _ _ _ _ => none) (fB_X8_bestRule_L9 ) N9 x1 x2 S L) (fun (q : Int32 × Tr × Lo) => (iR BM (q.2.1)) ∧ (aG 1 zaG (q.2.1)) ∧ (pI (q.2.1)) ∧ (gI 0 (q.2.1))) := ih
    show D (fB_X8_bestRule_L9  (lpF (fun _ _ _ _ => none) (fB_X8_bestRule_L9 ) N9) x1 x2 S L) _
    generalize lpF (fun _ _ _ _ => none) (fB_X8_bestRule_L9 ) N9 = k9 at hk9 ⊢
    have hN9 : 1000 - x2.toInt < (N9 : Int) + 1 := by omega
    clear ih
    unfold fB_X8_bestRule_L9
    refine D_ite (fun c7 => ?_) (fun c7 => ?_)
    · have kc7 := tq_le (x := (3 : Int32)) (y := x2) (a := 3) (by decide) rfl c7
      have n8 := i_rng x1
      exact D_some (show (iR BM S) ∧ (aG 1 zaG S) ∧ (pI S) ∧ (gI 0 S) from ⟨hS, daG, dpI, dg0⟩)
    · have kc7 := tq_len (x := (3 : Int32)) (y := x2) (a := 3) (by decide) rfl c7
      refine D_bd3 (t_X8_liftsBy S L x2 hS dpI dg0) (fun r9 S_10 L_11 eq13 hq12 => ?_)
      refine D_lte (y := r9) rfl ?_
      refine D_lte (y := S_10) rfl ?_
      refine D_lte (y := L_11) rfl ?_
      obtain ⟨p14, p15, p16, p17⟩ : (iR BM S_10) ∧ (aG 1 S S_10) ∧ (pI S_10) ∧ (gI 0 S_10) := hq12
      have n18 := i_rng r9
      have k19 : aG 1 zaG S_10 := aG_tr daG p15
      have n20 := i_rng x1
      refine D_bd3 (t_X8_liftsBy S_10 L_11 x1 p14 p16 p17) (fun r21 S_22 L_23 eq25 hq24 => ?_)
      refine D_lte (y := r21) rfl ?_
      refine D_lte (y := S_22) rfl ?_
      refine D_lte (y := L_23) rfl ?_
      obtain ⟨p26, p27, p28, p29⟩ : (iR BM S_22) ∧ (aG 1 S_10 S_22) ∧ (pI S_22) ∧ (gI 0 S_22) := hq24
      have n30 := i_rng r21
      have k31 : aG 1 zaG S_22 := aG_tr k19 p27
      refine D_ite (fun c32 => ?_) (fun c32 => ?_)
      · have kc32 := tq_le (x := r21) (y := r9) rfl rfl c32
        have n34 : (x2 + 1).toInt = x2.toInt + 1 := i_addK rfl (by decide) (by clear hN9 hN n18 n20 n30 kc32; omega) (by clear hN9 hN n18 n20 n30 kc32; omega)
        refine D_lt (fun y33 ey33 => ?_)
        have hy33 : y33.toInt = (x2 + 1 : Int32).toInt := by rw [ey33]
        exact hk9 x1 y33 S_22 L_23 k31 p28 p29 p26 ⟨(by clear hN9 hN n18 n20 n30 kc32; omega), (by clear hN9 hN n18 n20 n30 kc32; omega)⟩ (by clear n18 n20 n30 kc32; omega)
      · have kc32 := tq_len (x := r21) (y := r9) rfl rfl c32
        have n36 : (x2 + 1).toInt = x2.toInt + 1 := i_addK rfl (by decide) (by clear hN9 hN n18 n20 n30 kc32; omega) (by clear hN9 hN n18 n20 n30 kc32; omega)
        refine D_lt (fun y35 ey35 => ?_)
        have hy35 : y35.toInt = (x2 + 1 : Int32).toInt := by rw [ey35]
        exact hk9 x2 y35 S_22 L_23 k31 p28 p29 p26 ⟨(by clear hN9 hN n18 n20 n30 kc32; omega), (by clear hN9 hN n18 n20 n30 kc32; omega)⟩ (by clear n18 n20 n30 kc32; omega)
set_option maxHeartbeats 1000000 in
set_option maxRecDepth 100000 in
theorem t_X8_bestRule (S : Tr) (L : Lo) (hS : iR BM S) (dpI : pI S) (dg0 : gI 0 S) : D (f_X8_bestRule S L) (fun (q : Int32 × Tr × Lo) => (iR BM (q.2.1)) ∧ (aG 1 S (q.2.1)) ∧ (pI (q.2.1)) ∧ (gI 0 (q.2.1))) := by
  unfold f_X8_bestRule
  refine D_lt (fun S_1 eS_1 => ?_)
  have hS_1 : iR BM S_1 := by rw [eS_1]; exact iR_setU hS rfl
  have kaG_t2 : aG 1 S S_1 := (by rw [eS_1]; exact aG_set aG_rfl (Wb_t rfl))
  have kpI_t3 : pI S_1 := by rw [eS_1]; exact dpI
  have kg0_t4 : gI 0 S_1 := by rw [eS_1]; exact dg0
  have l0 : (0 : Int32).toInt = 0 := by decide
  have n6 : (S_1 0 2).toInt = (0 : Int32).toInt := by rw [eS_1]; rfl
  have l1 : (1 : Int32).toInt = 1 := by decide
  exact tl_X8_bestRule_L9 S    2000 (0 : Int32) (1 : Int32) S_1 L kaG_t2 kpI_t3 kg0_t4 hS_1 ⟨(by omega), (by omega)⟩ (by omega)
set_option maxHeartbeats 1000000 in
set_option maxRecDepth 100000 in
theorem t_X8_rank (x0 : Int32)  : D (f_X8_rank x0) (fun (q : Int32) => (0 ≤ q.toInt ∧ q.toInt ≤ 6)) := by
  unfold f_X8_rank
  have n2 := i_rng x0
  refine D_ite (fun c1 => ?_) (fun c1 => ?_)
  · have kc1 := tq_lt (x := x0) (y := (13 : Int32)) rfl (b := 13) (by decide) c1
    refine D_ite (fun c3 => ?_) (fun c3 => ?_)
    · have kc3 := tq_lt (x := x0) (y := (11 : Int32)) rfl (b := 11) (by decide) c3
      refine D_ite (fun c4 => ?_) (fun c4 => ?_)
      · have kc4 := tq_lt (x := x0) (y := (5 : Int32)) rfl (b := 5) (by decide) c4
        refine D_ite (fun c5 => ?_) (fun c5 => ?_)
        · have kc5 := tq_eq (x := x0) (y := (2 : Int32)) rfl (b := 2) (by decide) c5
          have l3 : (3 : Int32).toInt = 3 := by decide
          exact D_some (show (0 ≤ (3 : Int32).toInt ∧ (3 : Int32).toInt ≤ 6) from ⟨(by clear n2 kc1 kc3 kc4 kc5; omega), (by clear n2 kc1 kc3 kc4 kc5; omega)⟩)
        · skip
          refine D_ite (fun c6 => ?_) (fun c6 => ?_)
          · have kc6 := tq_eq (x := x0) (y := (3 : Int32)) rfl (b := 3) (by decide) c6
            have l2 : (2 : Int32).toInt = 2 := by decide
            exact D_some (show (0 ≤ (2 : Int32).toInt ∧ (2 : Int32).toInt ≤ 6) from ⟨(by clear n2 kc1 kc3 kc4 kc6; omega), (by clear n2 kc1 kc3 kc4 kc6; omega)⟩)
          · skip
            refine D_ite (fun c7 => ?_) (fun c7 => ?_)
            · have kc7 := tq_eq (x := x0) (y := (4 : Int32)) rfl (b := 4) (by decide) c7
              have l1 : (1 : Int32).toInt = 1 := by decide
              exact D_some (show (0 ≤ (1 : Int32).toInt ∧ (1 : Int32).toInt ≤ 6) from ⟨(by clear n2 kc1 kc3 kc4 kc7; omega), (by clear n2 kc1 kc3 kc4 kc7; omega)⟩)
            · have kc70 := tq_eqn (x := x0) (y := (4 : Int32)) rfl (b := 4) (by decide) c7
              have kc7 : x0.toInt ≤ 3 := (by omega)
              clear kc70
              have l0 : (0 : Int32).toInt = 0 := by decide
              exact D_some (show (0 ≤ (0 : Int32).toInt ∧ (0 : Int32).toInt ≤ 6) from ⟨(by clear n2 kc1 kc3 kc4 kc7; omega), (by clear n2 kc1 kc3 kc4 kc7; omega)⟩)
      · have kc4 := tq_ltn (x := x0) (y := (5 : Int32)) rfl (b := 5) (by decide) c4
        have l4 : (4 : Int32).toInt = 4 := by decide
        exact D_some (show (0 ≤ (4 : Int32).toInt ∧ (4 : Int32).toInt ≤ 6) from ⟨(by clear n2 kc1 kc3 kc4; omega), (by clear n2 kc1 kc3 kc4; omega)⟩)
    · have kc3 := tq_ltn (x := x0) (y := (11 : Int32)) rfl (b := 11) (by decide) c3
      have l5 : (5 : Int32).toInt = 5 := by decide
      exact D_some (show (0 ≤ (5 : Int32).toInt ∧ (5 : Int32).toInt ≤ 6) from ⟨(by clear n2 kc1 kc3; omega), (by clear n2 kc1 kc3; omega)⟩)
  · have kc1 := tq_ltn (x := x0) (y := (13 : Int32)) rfl (b := 13) (by decide) c1
    have l6 : (6 : Int32).toInt = 6 := by decide
    exact D_some (show (0 ≤ (6 : Int32).toInt ∧ (6 : Int32).toInt ≤ 6) from ⟨(by omega), (by omega)⟩)
set_option maxHeartbeats 1000000 in
set_option maxRecDepth 100000 in
theorem t_X8_isIn (x0 : Int32) (x1 : Int32) (x2 : Int32)  : D (f_X8_isIn x0 x1 x2) (fun (q : Int32) => (0 ≤ q.toInt ∧ q.toInt ≤ 1) ∧ (q.toInt = 1 → x1.toInt ≤ x0.toInt ∧ x0.toInt ≤ x2.toInt)) := by
  unfold f_X8_isIn
  have n2 := i_rng x0
  have n3 := i_rng x1
  refine D_ite (fun c1 => ?_) (fun c1 => ?_)
  · have kc1 := tq_lt (x := x0) (y := x1) rfl rfl c1
    have l0 : (0 : Int32).toInt = 0 := by decide
    exact D_some (show (0 ≤ (0 : Int32).toInt ∧ (0 : Int32).toInt ≤ 1) ∧ ((0 : Int32).toInt = 1 → x1.toInt ≤ x0.toInt ∧ x0.toInt ≤ x2.toInt) from ⟨⟨(by clear n2 n3 kc1; omega), (by clear n2 n3 kc1; omega)⟩, (by omega)⟩)
  · have kc1 := tq_ltn (x := x0) (y := x1) rfl rfl c1
    have n5 := i_rng x2
    refine D_ite (fun c4 => ?_) (fun c4 => ?_)
    · have kc4 := tq_lt (x := x2) (y := x0) rfl rfl c4
      have l0 : (0 : Int32).toInt = 0 := by decide
      exact D_some (show (0 ≤ (0 : Int32).toInt ∧ (0 : Int32).toInt ≤ 1) ∧ ((0 : Int32).toInt = 1 → x1.toInt ≤ x0.toInt ∧ x0.toInt ≤ x2.toInt) from ⟨⟨(by clear n2 n3 kc1 n5 kc4; omega), (by clear n2 n3 kc1 n5 kc4; omega)⟩, (by omega)⟩)
    · have kc4 := tq_ltn (x := x2) (y := x0) rfl rfl c4
      have l1 : (1 : Int32).toInt = 1 := by decide
      exact D_some (show (0 ≤ (1 : Int32).toInt ∧ (1 : Int32).toInt ≤ 1) ∧ ((1 : Int32).toInt = 1 → x1.toInt ≤ x0.toInt ∧ x0.toInt ≤ x2.toInt) from ⟨⟨(by clear n2 n3 kc1 n5 kc4; omega), (by clear n2 n3 kc1 n5 kc4; omega)⟩, (by omega)⟩)
set_option maxHeartbeats 1000000 in
set_option maxRecDepth 100000 in
theorem t_X8_byRule (S : Tr) (L : Lo) (x1 : Int32) (hS : iR BM S) (dpI : pI S) (dg0 : gI 0 S) : D (f_X8_byRule S L x1) (fun (q : Int32 × Tr × Lo) => (iR BM (q.2.1)) ∧ (aG 1 S (q.2.1)) ∧ (pI (q.2.1)) ∧ (gI 0 (q.2.1))) := by
  unfold f_X8_byRule
  refine D_lt (fun S_1 eS_1 => ?_)
  have hS_1 : iR BM S_1 := by rw [eS_1]; exact iR_setU hS rfl
  have kaG_t2 : aG 1 S S_1 := (by rw [eS_1]; exact aG_set aG_rfl (Wb_t rfl))
  have kpI_t3 : pI S_1 := by rw [eS_1]; exact dpI
  have kg0_t4 : gI 0 S_1 := by rw [eS_1]; exact dg0
  have l0 : (0 : Int32).toInt = 0 := by decide
  have n6 : (S_1 0 2).toInt = (0 : Int32).toInt := by rw [eS_1]; rfl
  have n7 := i_rng x1
  have l2 : (2 : Int32).toInt = 2 := by decide
  refine D_bd (t_X8_isIn x1 (0 : Int32) (2 : Int32) ) (fun r8 eq10 hq9 => ?_)
  obtain ⟨p11, p12⟩ : (0 ≤ r8.toInt ∧ r8.toInt ≤ 1) ∧ (r8.toInt = 1 → (0 : Int32).toInt ≤ x1.toInt ∧ x1.toInt ≤ (2 : Int32).toInt) := hq9
  refine D_ite (fun c13 => ?_) (fun c13 => ?_)
  · have kc13 := tq_eq (x := r8) (y := (0 : Int32)) rfl (b := 0) (by decide) c13
    have lm1 : ((-1) : Int32).toInt = (-1) := by decide
    exact D_some (show (iR BM S_1) ∧ (aG 1 S S_1) ∧ (pI S_1) ∧ (gI 0 S_1) from ⟨hS_1, kaG_t2, kpI_t3, kg0_t4⟩)
  · have kc130 := tq_eqn (x := r8) (y := (0 : Int32)) rfl (b := 0) (by decide) c13
    have kc13 : 1 ≤ r8.toInt := (by omega)
    clear kc130
    refine D_bd3 (t_X8_liftsBy S_1 L x1 hS_1 kpI_t3 kg0_t4) (fun r14 S_15 L_16 eq18 hq17 => ?_)
    refine D_lte (y := r14) rfl ?_
    refine D_lte (y := S_15) rfl ?_
    refine D_lte (y := L_16) rfl ?_
    obtain ⟨p19, p20, p21, p22⟩ : (iR BM S_15) ∧ (aG 1 S_1 S_15) ∧ (pI S_15) ∧ (gI 0 S_15) := hq17
    have n23 := i_rng r14
    have k24 : aG 1 S S_15 := aG_tr kaG_t2 p20
    exact D_some (show (iR BM S_15) ∧ (aG 1 S S_15) ∧ (pI S_15) ∧ (gI 0 S_15) from ⟨p19, k24, p21, p22⟩)
set_option maxHeartbeats 1000000 in
set_option maxRecDepth 100000 in
theorem tl_X8_chance_L36 (zaG : Tr) (x2 : Int32) (x3 : Int64) (hx2 : 0 ≤ x2.toInt ∧ x2.toInt ≤ 9)   (N : Nat) : ∀ (x5 : Int32) (x6 : Int32) (S : Tr) (L : Lo), aG 1 zaG S → pI S → gI 0 S → iR BM S → 0 ≤ x6.toInt ∧ x6.toInt ≤ 1000 → 1000 - x6.toInt < (N : Int) → D (lpF (fun _ _ _ _ => none) (fB_X8_chance_L36 x2 x3) N x5 x6 S L) (fun (q : Int32 × Tr × Lo) => (iR BM (q.2.1)) ∧ (aG 1 zaG (q.2.1)) ∧ (pI (q.2.1)) ∧ (gI 0 (q.2.1))) := by
  induction N with
  | zero =>
    intro x5 x6 S L daG dpI dg0 hS hx6 hN
    exfalso
    omega
  | succ N36 ih =>
    intro x5 x6 S L daG dpI dg0 hS hx6 hN
    have hk36 : ∀ (x5 : Int32) (x6 : Int32) (S : Tr) (L : Lo), aG 1 zaG S → pI S → gI 0 S → iR BM S → 0 ≤ x6.toInt ∧ x6.toInt ≤ 1000 → 1000 - x6.toInt < (N36 : Int) → D (lpF (fun _ _ _ _ => none) (fB_X8_chance_L36 x2 x3) N36 x5 x6 S L) (fun (q : Int32 × Tr × Lo) => (iR BM (q.2.1)) ∧ (aG 1 zaG (q.2.1)) ∧ (pI (q.2.1)) ∧ (gI 0 (q.2.1))) := ih
    show D (fB_X8_chance_L36 x2 x3 (lpF (fun _ _ _ _ => none) (fB_X8_chance_L36 x2 x3) N36) x5 x6 S L) _
    generalize lpF (fun _ _ _ _ => none) (fB_X8_chance_L36 x2 x3) N36 = k36 at hk36 ⊢
    have hN36 : 1000 - x6.toInt < (N36 : Int) + 1 := by omega
    clear ih
    unfold fB_X8_chance_L36
    have n21 : 0 ≤ (S 0 14).toInt ∧ (S 0 14).toInt ≤ 10 := hS 0 14
    have n22 : 0 ≤ (S 0 13).toInt ∧ (S 0 13).toInt ≤ 6 := hS 0 13
    have n23 : 0 ≤ (S 0 12).toInt ∧ (S 0 12).toInt ≤ 5 := hS 0 12
    refine D_ite (fun c24 => ?_) (fun c24 => ?_)
    · have kc24 := tq_le (x := (10 : Int32)) (y := x6) (a := 10) (by decide) rfl c24
      unfold fJ_X8_chance_J85
      have l0 : (0 : Int32).toInt = 0 := by decide
      refine D_lt (fun S_25 eS_25 => ?_)
      have hS_25 : iR BM S_25 := by rw [eS_25]; exact iR_set hS (show (0 : Int) ≤ _ from (by clear hx2 hx6 hN36 hN n21 n22 n23 kc24; omega)) (show _ ≤ (1 : Int) from (by clear hx2 hx6 hN36 hN n21 n22 n23 kc24; omega))
      have kaG_t26 : aG 1 zaG S_25 := (by rw [eS_25]; exact aG_set daG (Wb_t rfl))
      have kpI_t27 : pI S_25 := by rw [eS_25]; exact dpI
      have kg0_t28 : gI 0 S_25 := by rw [eS_25]; exact dg0
      have n30 : (S_25 0 12).toInt = (S 0 12).toInt := by rw [eS_25]; rfl
      have n31 : (S_25 0 14).toInt = (S 0 14).toInt := by rw [eS_25]; rfl
      have n32 : (S_25 0 13).toInt = (S 0 13).toInt := by rw [eS_25]; rfl
      have n33 : (S_25 0 65).toInt = (0 : Int32).toInt := by rw [eS_25]; rfl
      refine D_lt (fun L_34 eL_34 => ?_)
      have n35 := i_rng x5
      exact D_some (show (iR BM S_25) ∧ (aG 1 zaG S_25) ∧ (pI S_25) ∧ (gI 0 S_25) from ⟨hS_25, kaG_t26, kpI_t27, kg0_t28⟩)
    · have kc24 := tq_len (x := (10 : Int32)) (y := x6) (a := 10) (by decide) rfl c24
      refine D_bd (t_X8_layTried S hS dg0 dpI) (fun S_36 eq38 hq37 => ?_)
      obtain ⟨p39, p40, p41, p42, p43, p44⟩ : (iR BM S_36) ∧ (aG 1 S S_36) ∧ (gI 1 S_36) ∧ (pI S_36) ∧ (S_36 62 1 = S 62 0) ∧ (S_36 61 1 = S 61 0) := hq37
      have k45 : aG 1 zaG S_36 := aG_tr daG p40
      have n46 : (S_36 0 12).toInt = (S 0 12).toInt := congrArg Int32.toInt (p40 0 _ rfl)
      have n47 : (S_36 0 13).toInt = (S 0 13).toInt := congrArg Int32.toInt (p40 0 _ rfl)
      have n48 : (S_36 0 14).toInt = (S 0 14).toInt := congrArg Int32.toInt (p40 0 _ rfl)
      have kpI_t49 : pI S_36 := (pI_aG dpI p40)
      have kg0_t50 : gI 0 S_36 := (gI0_G1 hS dg0 p40)
      have kgI_t51 : gI 1 S_36 := p41
      have n52 : 0 ≤ (S_36 62 1).toInt ∧ (S_36 62 1).toInt ≤ 21 := p39 62 1
      have n53 : 0 ≤ (S 62 0).toInt ∧ (S 62 0).toInt ≤ 21 := hS 62 0
      have kz54 : (S_36 62 1).toInt = (S 62 0).toInt := congrArg Int32.toInt p43
      have l1 : (1 : Int32).toInt = 1 := by decide
      refine D_lt (fun S_55 eS_55 => ?_)
      have hS_55 : iR BM S_55 := by rw [eS_55]; exact iR_set p39 (show (0 : Int) ≤ _ from (by clear hx2 hx6 hN36 hN n21 n22 n23 kc24 n46 n47 n48 n52 n53 kz54; omega)) (show _ ≤ (1 : Int) from (by clear hx2 hx6 hN36 hN n21 n22 n23 kc24 n46 n47 n48 n52 n53 kz54; omega))
      have kaG_t56 : aG 1 zaG S_55 := (by rw [eS_55]; exact aG_set k45 (Wb_t rfl))
      have kpI_t57 : pI S_55 := by rw [eS_55]; exact kpI_t49
      have kg0_t58 : gI 0 S_55 := by rw [eS_55]; exact kg0_t50
      have kgI_t59 : gI 1 S_55 := by rw [eS_55]; exact kgI_t51
      have n60 : (S_55 0 13).toInt = (S_36 0 13).toInt := by rw [eS_55]; rfl
      have n61 : (S_55 62 1).toInt = (S_36 62 1).toInt := by rw [eS_55]; rfl
      have n62 : (S_55 0 12).toInt = (S_36 0 12).toInt := by rw [eS_55]; rfl
      have n63 : (S_55 0 14).toInt = (S_36 0 14).toInt := by rw [eS_55]; rfl
      have n64 : (S_55 0 65).toInt = (1 : Int32).toInt := by rw [eS_55]; rfl
      refine D_bd2 (t_X8_toEnd S_55 L hS_55 kpI_t57 kgI_t59) (fun S_65 L_66 eq68 hq67 => ?_)
      refine D_lte (y := S_65) rfl ?_
      refine D_lte (y := L_66) rfl ?_
      obtain ⟨p69, p70, p71, p72⟩ : (iR BM S_65) ∧ (aG 1 S_55 S_65) ∧ (pI S_65) ∧ (gI 1 S_65) := hq67
      have k73 : aG 1 zaG S_65 := aG_tr kaG_t56 p70
      have n74 : (S_65 0 12).toInt = (S_55 0 12).toInt := congrArg Int32.toInt (p70 0 _ rfl)
      have n75 : (S_65 0 13).toInt = (S_55 0 13).toInt := congrArg Int32.toInt (p70 0 _ rfl)
      have n76 : (S_65 0 14).toInt = (S_55 0 14).toInt := congrArg Int32.toInt (p70 0 _ rfl)
      have kg0_t77 : gI 0 S_65 := (gI0_G1 hS_55 kg0_t58 p70)
      have n78 : ((10 : Int32) + x2).toInt = 10 + x2.toInt := i_addK (by decide) rfl (by clear hx6 hN36 hN n21 n22 n23 kc24 n46 n47 n48 n52 n53 kz54 n60 n61 n62 n63 n64 n74 n75 n76; omega) (by clear hx6 hN36 hN n21 n22 n23 kc24 n46 n47 n48 n52 n53 kz54 n60 n61 n62 n63 n64 n74 n75 n76; omega)
      refine D_ck (okI_of (by clear hx6 hN36 hN n21 n22 n23 kc24 n46 n47 n48 n52 n53 kz54 n60 n61 n62 n63 n64 n74 n75 n76; omega) (by clear hx6 hN36 hN n21 n22 n23 kc24 n46 n47 n48 n52 n53 kz54 n60 n61 n62 n63 n64 n74 n75 n76; omega)) ?_
      have n80 : 0 ≤ (S_65 53 ((10 : Int32) + x2).toNatClampNeg).toInt ∧ (S_65 53 ((10 : Int32) + x2).toNatClampNeg).toInt ≤ 5 := p69 53 (((10 : Int32) + x2).toNatClampNeg)
      refine D_ite (fun c79 => ?_) (fun c79 => ?_)
      · have kc79 := tq_eq (x := (S_65 53 ((10 : Int32) + x2).toNatClampNeg)) (y := (2 : Int32)) rfl (b := 2) (by decide) c79
        refine D_lt (fun y81 ey81 => ?_)
        have n82 := i_rng (x5 + 1)
        have hy81 : y81.toInt = (x5 + 1).toInt := by rw [ey81]
        have n84 : (x6 + 1).toInt = x6.toInt + 1 := i_addK rfl (by decide) (by clear hx2 hN36 hN n21 n22 n23 n46 n47 n48 n52 n53 kz54 n60 n61 n62 n63 n64 n74 n75 n76 n78 n80 kc79 n82 hy81; omega) (by clear hx2 hN36 hN n21 n22 n23 n46 n47 n48 n52 n53 kz54 n60 n61 n62 n63 n64 n74 n75 n76 n78 n80 kc79 n82 hy81; omega)
        refine D_lt (fun y83 ey83 => ?_)
        have hy83 : y83.toInt = (x6 + 1 : Int32).toInt := by rw [ey83]
        exact hk36 y81 y83 S_65 L_66 k73 p71 kg0_t77 p69 ⟨(by clear hx2 hN36 hN n21 n22 n23 n46 n47 n48 n52 n53 kz54 n60 n61 n62 n63 n64 n74 n75 n76 n78 n80 kc79 n82 hy81; omega), (by clear hx2 hN36 hN n21 n22 n23 n46 n47 n48 n52 n53 kz54 n60 n61 n62 n63 n64 n74 n75 n76 n78 n80 kc79 n82 hy81; omega)⟩ (by clear hx2 n21 n22 n23 n46 n47 n48 n52 n53 kz54 n60 n61 n62 n63 n64 n74 n75 n76 n78 n80 kc79 n82 hy81; omega)
      · skip
        refine D_lt (fun y85 ey85 => ?_)
        have n86 := i_rng x5
        have n87 : (x5 + 0).toInt = x5.toInt + 0 := i_addK rfl (by decide) (by clear hx2 hx6 hN36 hN n21 n22 n23 kc24 n46 n47 n48 n52 n53 kz54 n60 n61 n62 n63 n64 n74 n75 n76 n78 n80; omega) (by clear hx2 hx6 hN36 hN n21 n22 n23 kc24 n46 n47 n48 n52 n53 kz54 n60 n61 n62 n63 n64 n74 n75 n76 n78 n80; omega)
        have hy85 : y85.toInt = (x5 + 0).toInt := by rw [ey85]
        have n89 : (x6 + 1).toInt = x6.toInt + 1 := i_addK rfl (by decide) (by clear hx2 hN36 hN n21 n22 n23 n46 n47 n48 n52 n53 kz54 n60 n61 n62 n63 n64 n74 n75 n76 n78 n80 n86 n87 hy85; omega) (by clear hx2 hN36 hN n21 n22 n23 n46 n47 n48 n52 n53 kz54 n60 n61 n62 n63 n64 n74 n75 n76 n78 n80 n86 n87 hy85; omega)
        refine D_lt (fun y88 ey88 => ?_)
        have hy88 : y88.toInt = (x6 + 1 : Int32).toInt := by rw [ey88]
        exact hk36 y85 y88 S_65 L_66 k73 p71 kg0_t77 p69 ⟨(by clear hx2 hN36 hN n21 n22 n23 n46 n47 n48 n52 n53 kz54 n60 n61 n62 n63 n64 n74 n75 n76 n78 n80 n86 n87 hy85; omega), (by clear hx2 hN36 hN n21 n22 n23 n46 n47 n48 n52 n53 kz54 n60 n61 n62 n63 n64 n74 n75 n76 n78 n80 n86 n87 hy85; omega)⟩ (by clear hx2 n21 n22 n23 n46 n47 n48 n52 n53 kz54 n60 n61 n62 n63 n64 n74 n75 n76 n78 n80 n86 n87 hy85; omega)
set_option maxHeartbeats 1000000 in
set_option maxRecDepth 100000 in
theorem t_X8_chance (S : Tr) (L : Lo) (x1 : Int32) (x2 : Int32) (hS : iR BM S) (dpI : pI S) (dg0 : gI 0 S) : D (f_X8_chance S L x1 x2) (fun (q : Int32 × Tr × Lo) => (iR BM (q.2.1)) ∧ (aG 1 S (q.2.1)) ∧ (pI (q.2.1)) ∧ (gI 0 (q.2.1))) := by
  unfold f_X8_chance
  refine D_lt (fun S_1 eS_1 => ?_)
  have hS_1 : iR BM S_1 := by rw [eS_1]; exact iR_setU hS rfl
  have kaG_t2 : aG 1 S S_1 := (by rw [eS_1]; exact aG_set aG_rfl (Wb_t rfl))
  have kpI_t3 : pI S_1 := by rw [eS_1]; exact dpI
  have kg0_t4 : gI 0 S_1 := by rw [eS_1]; exact dg0
  have l0 : (0 : Int32).toInt = 0 := by decide
  have n6 : (S_1 0 2).toInt = (0 : Int32).toInt := by rw [eS_1]; rfl
  have n8 := i_rng x1
  refine D_ite (fun c7 => ?_) (fun c7 => ?_)
  · have kc7 := tq_lt (x := x1) (y := (0 : Int32)) rfl (b := 0) (by decide) c7
    have lm1 : ((-1) : Int32).toInt = (-1) := by decide
    exact D_some (show (iR BM S_1) ∧ (aG 1 S S_1) ∧ (pI S_1) ∧ (gI 0 S_1) from ⟨hS_1, kaG_t2, kpI_t3, kg0_t4⟩)
  · have kc7 := tq_ltn (x := x1) (y := (0 : Int32)) rfl (b := 0) (by decide) c7
    have n9 := i_rng x2
    refine D_bd (t_X8_isPiece S_1 x2 hS_1) (fun r10 eq12 hq11 => ?_)
    obtain ⟨p13, p14⟩ : (0 ≤ r10.toInt ∧ r10.toInt ≤ 1) ∧ (r10.toInt = 1 → 0 ≤ x2.toInt ∧ x2.toInt < (S_1 0 14).toInt) := hq11
    have n15 : 0 ≤ (S_1 0 14).toInt ∧ (S_1 0 14).toInt ≤ 10 := hS_1 0 14
    have n16 : 0 ≤ (S_1 0 13).toInt ∧ (S_1 0 13).toInt ≤ 6 := hS_1 0 13
    have n17 : 0 ≤ (S_1 0 12).toInt ∧ (S_1 0 12).toInt ≤ 5 := hS_1 0 12
    refine D_ite (fun c18 => ?_) (fun c18 => ?_)
    · have kc18 := tq_eq (x := r10) (y := (0 : Int32)) rfl (b := 0) (by decide) c18
      have lm1 : ((-1) : Int32).toInt = (-1) := by decide
      exact D_some (show (iR BM S_1) ∧ (aG 1 S S_1) ∧ (pI S_1) ∧ (gI 0 S_1) from ⟨hS_1, kaG_t2, kpI_t3, kg0_t4⟩)
    · have kc180 := tq_eqn (x := r10) (y := (0 : Int32)) rfl (b := 0) (by decide) c18
      have kc18 : 1 ≤ r10.toInt := (by clear n6 n8 kc7 n16 n17; omega)
      clear kc180
      refine D_lt (fun y19 ey19 => ?_)
      refine D_lt (fun L_20 eL_20 => ?_)
      exact tl_X8_chance_L36 S x2 y19 ⟨(by clear n6 n8 kc7 n16 n17; omega), (by clear n6 n8 kc7 n16 n17; omega)⟩   2000 (0 : Int32) (0 : Int32) S_1 L_20 kaG_t2 kpI_t3 kg0_t4 hS_1 ⟨(by clear n6 n8 kc7 n9 p13 p14 n15 n16 n17 kc18; omega), (by clear n6 n8 kc7 n9 p13 p14 n15 n16 n17 kc18; omega)⟩ (by clear n6 n8 kc7 n9 p13 p14 n15 n16 n17 kc18; omega)
set_option maxHeartbeats 1000000 in
set_option maxRecDepth 100000 in
theorem t_X8_costOf (S : Tr) (x1 : Int32) (x2 : Int32) (hS : iR BM S) (hx1 : 0 ≤ x1.toInt ∧ x1.toInt ≤ 9) : D (f_X8_costOf S x1 x2) (fun (q : Int32) => True) := by
  unfold f_X8_costOf
  refine D_ck (okI_of (by omega) (by omega)) ?_
  have n1 : 0 ≤ (S 30 x1.toNatClampNeg).toInt ∧ (S 30 x1.toNatClampNeg).toInt ≤ 5 := hS 30 x1.toNatClampNeg
  have n2 : ((6 : Int32) + (S 30 x1.toNatClampNeg)).toInt = 6 + (S 30 x1.toNatClampNeg).toInt := i_addK (by decide) rfl (by omega) (by omega)
  refine D_ck (okI_of (by omega) (by omega)) ?_
  refine D_ck (okI_of (by omega) (by omega)) ?_
  have n4 := i_rng x2
  refine D_ite (fun c3 => ?_) (fun c3 => ?_)
  · have kc3 := tq_eq (x := x2) (y := (0 : Int32)) rfl (b := 0) (by decide) c3
    have n5 := i_rng (((S 60 ((6 : Int32) + (S 30 x1.toNatClampNeg)).toNatClampNeg) - (S 60 (S 30 x1.toNatClampNeg).toNatClampNeg)) + 0)
    exact D_some trivial
  · skip
    have n6 := i_rng (((S 60 ((6 : Int32) + (S 30 x1.toNatClampNeg)).toNatClampNeg) - (S 60 (S 30 x1.toNatClampNeg).toNatClampNeg)) + 999)
    exact D_some trivial
set_option maxHeartbeats 1000000 in
set_option maxRecDepth 100000 in
theorem t_X8_knownBy (S : Tr) (hS : iR BM S) : D (f_X8_knownBy S) (fun (q : Int32) => (0 ≤ q.toInt ∧ q.toInt ≤ 24)) := by
  unfold f_X8_knownBy
  have n2 : (-1) ≤ (S 0 79).toInt ∧ (S 0 79).toInt ≤ 24 := hS 0 79
  refine D_ite (fun c1 => ?_) (fun c1 => ?_)
  · have kc1 := tq_le (x := (0 : Int32)) (y := (S 0 79)) (a := 0) (by decide) rfl c1
    exact D_some (show (0 ≤ (S 0 79).toInt ∧ (S 0 79).toInt ≤ 24) from ⟨(by omega), (by omega)⟩)
  · have kc1 := tq_len (x := (0 : Int32)) (y := (S 0 79)) (a := 0) (by decide) rfl c1
    have n3 : 0 ≤ (S 0 78).toInt ∧ (S 0 78).toInt ≤ 24 := hS 0 78
    exact D_some (show (0 ≤ (S 0 78).toInt ∧ (S 0 78).toInt ≤ 24) from ⟨(by omega), (by omega)⟩)
set_option maxHeartbeats 1000000 in
set_option maxRecDepth 100000 in
theorem tl_X8_manyHow_L4 (S : Tr) (x1 : Int32) (hS : iR BM S)   (N : Nat) : ∀ (x2 : Int32) (x3 : Int32), 0 ≤ x3.toInt ∧ x3.toInt ≤ 1000 → 1000 - x3.toInt < (N : Int) → D (lpF (fun _ _ => none) (fB_X8_manyHow_L4 S x1) N x2 x3) (fun (q : Int32) => True) := by
  induction N with
  | zero =>
    intro x2 x3 hx3 hN
    exfalso
    omega
  | succ N4 ih =>
    intro x2 x3 hx3 hN
    have hk4 : ∀ (x2 : Int32) (x3 : Int32), 0 ≤ x3.toInt ∧ x3.toInt ≤ 1000 → 1000 - x3.toInt < (N4 : Int) → D (lpF (fun _ _ => none) (fB_X8_manyHow_L4 S x1) N4 x2 x3) (fun (q : Int32) => True) := ih
    show D (fB_X8_manyHow_L4 S x1 (lpF (fun _ _ => none) (fB_X8_manyHow_L4 S x1) N4) x2 x3) _
    generalize lpF (fun _ _ => none) (fB_X8_manyHow_L4 S x1) N4 = k4 at hk4 ⊢
    have hN4 : 1000 - x3.toInt < (N4 : Int) + 1 := by omega
    clear ih
    unfold fB_X8_manyHow_L4
    have n2 : 0 ≤ (S 0 14).toInt ∧ (S 0 14).toInt ≤ 10 := hS 0 14
    refine D_ite (fun c1 => ?_) (fun c1 => ?_)
    · have kc1 := tq_le (x := (S 0 14)) (y := x3) rfl rfl c1
      have n3 := i_rng x2
      exact D_some trivial
    · have kc1 := tq_len (x := (S 0 14)) (y := x3) rfl rfl c1
      refine D_ck (okI_of (by omega) (by omega)) ?_
      have n5 : 0 ≤ (S 53 x3.toNatClampNeg).toInt ∧ (S 53 x3.toNatClampNeg).toInt ≤ 5 := hS 53 x3.toNatClampNeg
      have n6 := i_rng x1
      refine D_ite (fun c4 => ?_) (fun c4 => ?_)
      · have kc4 := tq_eq (x := (S 53 x3.toNatClampNeg)) (y := x1) rfl rfl c4
        refine D_lt (fun y7 ey7 => ?_)
        have n8 := i_rng (x2 + 1)
        have hy7 : y7.toInt = (x2 + 1).toInt := by rw [ey7]
        have n10 : (x3 + 1).toInt = x3.toInt + 1 := i_addK rfl (by decide) (by clear hN4 hN n5 n6 kc4 n8 hy7; omega) (by clear hN4 hN n5 n6 kc4 n8 hy7; omega)
        refine D_lt (fun y9 ey9 => ?_)
        have hy9 : y9.toInt = (x3 + 1 : Int32).toInt := by rw [ey9]
        exact hk4 y7 y9 ⟨(by clear hN4 hN n5 n6 kc4 n8 hy7; omega), (by clear hN4 hN n5 n6 kc4 n8 hy7; omega)⟩ (by clear n5 n6 kc4 n8 hy7; omega)
      · skip
        refine D_lt (fun y11 ey11 => ?_)
        have n12 := i_rng x2
        have n13 : (x2 + 0).toInt = x2.toInt + 0 := i_addK rfl (by decide) (by clear hx3 hN4 hN n2 kc1 n5 n6; omega) (by clear hx3 hN4 hN n2 kc1 n5 n6; omega)
        have hy11 : y11.toInt = (x2 + 0).toInt := by rw [ey11]
        have n15 : (x3 + 1).toInt = x3.toInt + 1 := i_addK rfl (by decide) (by clear hN4 hN n5 n6 n12 n13 hy11; omega) (by clear hN4 hN n5 n6 n12 n13 hy11; omega)
        refine D_lt (fun y14 ey14 => ?_)
        have hy14 : y14.toInt = (x3 + 1 : Int32).toInt := by rw [ey14]
        exact hk4 y11 y14 ⟨(by clear hN4 hN n5 n6 n12 n13 hy11; omega), (by clear hN4 hN n5 n6 n12 n13 hy11; omega)⟩ (by clear n5 n6 n12 n13 hy11; omega)
set_option maxHeartbeats 1000000 in
set_option maxRecDepth 100000 in
theorem t_X8_manyHow (S : Tr) (x1 : Int32) (hS : iR BM S) : D (f_X8_manyHow S x1) (fun (q : Int32) => True) := by
  unfold f_X8_manyHow
  have l0 : (0 : Int32).toInt = 0 := by decide
  have n16 := i_rng x1
  exact tl_X8_manyHow_L4 S x1 hS   2000 (0 : Int32) (0 : Int32) ⟨(by omega), (by omega)⟩ (by omega)
set_option maxHeartbeats 1000000 in
set_option maxRecDepth 100000 in
theorem tl_X8_count_L154 (zaT : Tr) (S : Tr) (hS : iR BM S) (daT : aT zaT S) (dpI : pI S) (dg0 : gI 0 S)   (N : Nat) : ∀ (x2 : Int32) (x3 : Int32), 0 ≤ x3.toInt ∧ x3.toInt ≤ 1000 → 1000 - x3.toInt < (N : Int) → D (lpF (fun _ _ => none) (fB_X8_count_L154 S) N x2 x3) (fun (q : Int32 × Tr) => (iR BM (q.2)) ∧ (aT zaT (q.2)) ∧ (pI (q.2)) ∧ (gI 0 (q.2))) := by
  induction N with
  | zero =>
    intro x2 x3 hx3 hN
    exfalso
    omega
  | succ N154 ih =>
    intro x2 x3 hx3 hN
    have hk154 : ∀ (x2 : Int32) (x3 : Int32), 0 ≤ x3.toInt ∧ x3.toInt ≤ 1000 → 1000 - x3.toInt < (N154 : Int) → D (lpF (fun _ _ => none) (fB_X8_count_L154 S) N154 x2 x3) (fun (q : Int32 × Tr) => (iR BM (q.2)) ∧ (aT zaT (q.2)) ∧ (pI (q.2)) ∧ (gI 0 (q.2))) := ih
    show D (fB_X8_count_L154 S (lpF (fun _ _ => none) (fB_X8_count_L154 S) N154) x2 x3) _
    generalize lpF (fun _ _ => none) (fB_X8_count_L154 S) N154 = k154 at hk154 ⊢
    have hN154 : 1000 - x3.toInt < (N154 : Int) + 1 := by omega
    clear ih
    unfold fB_X8_count_L154
    have n45 : 0 ≤ (S 0 14).toInt ∧ (S 0 14).toInt ≤ 10 := hS 0 14
    have n46 : 0 ≤ (S 0 13).toInt ∧ (S 0 13).toInt ≤ 6 := hS 0 13
    have n47 : 0 ≤ (S 0 12).toInt ∧ (S 0 12).toInt ≤ 5 := hS 0 12
    refine D_ite (fun c48 => ?_) (fun c48 => ?_)
    · have kc48 := tq_le (x := (S 0 13)) (y := x3) rfl rfl c48
      have n49 := i_rng x2
      exact D_some (show (iR BM S) ∧ (aT zaT S) ∧ (pI S) ∧ (gI 0 S) from ⟨hS, daT, dpI, dg0⟩)
    · have kc48 := tq_len (x := (S 0 13)) (y := x3) rfl rfl c48
      refine D_ck (okI_of (by clear hN154 hN n45 n47; omega) (by clear hN154 hN n45 n47; omega)) ?_
      have n51 := i_rng (S 59 x3.toNatClampNeg)
      refine D_ite (fun c50 => ?_) (fun c50 => ?_)
      · have kc50 := tq_eq (x := (S 59 x3.toNatClampNeg)) (y := (1 : Int32)) rfl (b := 1) (by decide) c50
        refine D_lt (fun y52 ey52 => ?_)
        have n53 := i_rng (x2 + 1)
        have hy52 : y52.toInt = (x2 + 1).toInt := by rw [ey52]
        have n55 : (x3 + 1).toInt = x3.toInt + 1 := i_addK rfl (by decide) (by clear hN154 hN n45 n47 n51 kc50 n53 hy52; omega) (by clear hN154 hN n45 n47 n51 kc50 n53 hy52; omega)
        refine D_lt (fun y54 ey54 => ?_)
        have hy54 : y54.toInt = (x3 + 1 : Int32).toInt := by rw [ey54]
        exact hk154 y52 y54 ⟨(by clear hN154 hN n45 n47 n51 kc50 n53 hy52; omega), (by clear hN154 hN n45 n47 n51 kc50 n53 hy52; omega)⟩ (by clear n45 n47 n51 kc50 n53 hy52; omega)
      · skip
        refine D_lt (fun y56 ey56 => ?_)
        have n57 := i_rng x2
        have n58 : (x2 + 0).toInt = x2.toInt + 0 := i_addK rfl (by decide) (by clear hx3 hN154 hN n45 n46 n47 kc48 n51; omega) (by clear hx3 hN154 hN n45 n46 n47 kc48 n51; omega)
        have hy56 : y56.toInt = (x2 + 0).toInt := by rw [ey56]
        have n60 : (x3 + 1).toInt = x3.toInt + 1 := i_addK rfl (by decide) (by clear hN154 hN n45 n47 n51 n57 n58 hy56; omega) (by clear hN154 hN n45 n47 n51 n57 n58 hy56; omega)
        refine D_lt (fun y59 ey59 => ?_)
        have hy59 : y59.toInt = (x3 + 1 : Int32).toInt := by rw [ey59]
        exact hk154 y56 y59 ⟨(by clear hN154 hN n45 n47 n51 n57 n58 hy56; omega), (by clear hN154 hN n45 n47 n51 n57 n58 hy56; omega)⟩ (by clear n45 n47 n51 n57 n58 hy56; omega)
set_option maxHeartbeats 1000000 in
set_option maxRecDepth 100000 in
theorem t_X8_count (S : Tr) (x1 : Int32) (hS : iR BM S) (dpI : pI S) (dg0 : gI 0 S) : D (f_X8_count S x1) (fun (q : Int32 × Tr) => (iR BM (q.2)) ∧ (aT S (q.2)) ∧ (pI (q.2)) ∧ (gI 0 (q.2))) := by
  unfold f_X8_count
  refine D_lt (fun S_1 eS_1 => ?_)
  have hS_1 : iR BM S_1 := by rw [eS_1]; exact iR_setU hS rfl
  have kaT_t2 : aT S S_1 := (by rw [eS_1]; exact aT_set aT_rfl rfl)
  have kpI_t3 : pI S_1 := by rw [eS_1]; exact dpI
  have kg0_t4 : gI 0 S_1 := by rw [eS_1]; exact dg0
  have l0 : (0 : Int32).toInt = 0 := by decide
  have n5 : (S_1 0 2).toInt = (0 : Int32).toInt := by rw [eS_1]; rfl
  have n6 := i_rng x1
  refine D_ite (fun c7 => ?_) (fun c7 => ?_)
  · have kc7 := tq_eq (x := x1) (y := (0 : Int32)) rfl (b := 0) (by decide) c7
    have n8 : 0 ≤ (S_1 0 12).toInt ∧ (S_1 0 12).toInt ≤ 5 := hS_1 0 12
    exact D_some (show (iR BM S_1) ∧ (aT S S_1) ∧ (pI S_1) ∧ (gI 0 S_1) from ⟨hS_1, kaT_t2, kpI_t3, kg0_t4⟩)
  · skip
    refine D_ite (fun c9 => ?_) (fun c9 => ?_)
    · have kc9 := tq_eq (x := x1) (y := (1 : Int32)) rfl (b := 1) (by decide) c9
      have n10 : 0 ≤ (S_1 0 13).toInt ∧ (S_1 0 13).toInt ≤ 6 := hS_1 0 13
      exact D_some (show (iR BM S_1) ∧ (aT S S_1) ∧ (pI S_1) ∧ (gI 0 S_1) from ⟨hS_1, kaT_t2, kpI_t3, kg0_t4⟩)
    · skip
      refine D_ite (fun c11 => ?_) (fun c11 => ?_)
      · have kc11 := tq_eq (x := x1) (y := (2 : Int32)) rfl (b := 2) (by decide) c11
        have n12 : 0 ≤ (S_1 0 14).toInt ∧ (S_1 0 14).toInt ≤ 10 := hS_1 0 14
        exact D_some (show (iR BM S_1) ∧ (aT S S_1) ∧ (pI S_1) ∧ (gI 0 S_1) from ⟨hS_1, kaT_t2, kpI_t3, kg0_t4⟩)
      · skip
        refine D_ite (fun c13 => ?_) (fun c13 => ?_)
        · have kc13 := tq_eq (x := x1) (y := (3 : Int32)) rfl (b := 3) (by decide) c13
          have n14 : 0 ≤ (S_1 0 15).toInt ∧ (S_1 0 15).toInt ≤ 64 := hS_1 0 15
          exact D_some (show (iR BM S_1) ∧ (aT S S_1) ∧ (pI S_1) ∧ (gI 0 S_1) from ⟨hS_1, kaT_t2, kpI_t3, kg0_t4⟩)
        · skip
          refine D_ite (fun c15 => ?_) (fun c15 => ?_)
          · have kc15 := tq_eq (x := x1) (y := (4 : Int32)) rfl (b := 4) (by decide) c15
            have n16 : 0 ≤ (S_1 62 0).toInt ∧ (S_1 62 0).toInt ≤ 21 := hS_1 62 0
            exact D_some (show (iR BM S_1) ∧ (aT S S_1) ∧ (pI S_1) ∧ (gI 0 S_1) from ⟨hS_1, kaT_t2, kpI_t3, kg0_t4⟩)
          · skip
            refine D_ite (fun c17 => ?_) (fun c17 => ?_)
            · have kc17 := tq_eq (x := x1) (y := (5 : Int32)) rfl (b := 5) (by decide) c17
              have n18 := i_rng (S_1 61 0)
              exact D_some (show (iR BM S_1) ∧ (aT S S_1) ∧ (pI S_1) ∧ (gI 0 S_1) from ⟨hS_1, kaT_t2, kpI_t3, kg0_t4⟩)
            · skip
              refine D_ite (fun c19 => ?_) (fun c19 => ?_)
              · have kc19 := tq_eq (x := x1) (y := (6 : Int32)) rfl (b := 6) (by decide) c19
                have l1 : (1 : Int32).toInt = 1 := by decide
                refine D_bd (t_X8_manyHow S_1 (1 : Int32) hS_1) (fun r20 eq22 hq21 => ?_)
                have n23 := i_rng r20
                exact D_some (show (iR BM S_1) ∧ (aT S S_1) ∧ (pI S_1) ∧ (gI 0 S_1) from ⟨hS_1, kaT_t2, kpI_t3, kg0_t4⟩)
              · skip
                refine D_ite (fun c24 => ?_) (fun c24 => ?_)
                · have kc24 := tq_eq (x := x1) (y := (7 : Int32)) rfl (b := 7) (by decide) c24
                  have l2 : (2 : Int32).toInt = 2 := by decide
                  refine D_bd (t_X8_manyHow S_1 (2 : Int32) hS_1) (fun r25 eq27 hq26 => ?_)
                  have n28 := i_rng r25
                  exact D_some (show (iR BM S_1) ∧ (aT S S_1) ∧ (pI S_1) ∧ (gI 0 S_1) from ⟨hS_1, kaT_t2, kpI_t3, kg0_t4⟩)
                · skip
                  refine D_ite (fun c29 => ?_) (fun c29 => ?_)
                  · have kc29 := tq_eq (x := x1) (y := (8 : Int32)) rfl (b := 8) (by decide) c29
                    have l3 : (3 : Int32).toInt = 3 := by decide
                    refine D_bd (t_X8_manyHow S_1 (3 : Int32) hS_1) (fun r30 eq32 hq31 => ?_)
                    have n33 := i_rng r30
                    exact D_some (show (iR BM S_1) ∧ (aT S S_1) ∧ (pI S_1) ∧ (gI 0 S_1) from ⟨hS_1, kaT_t2, kpI_t3, kg0_t4⟩)
                  · skip
                    refine D_ite (fun c34 => ?_) (fun c34 => ?_)
                    · have kc34 := tq_eq (x := x1) (y := (9 : Int32)) rfl (b := 9) (by decide) c34
                      have l4 : (4 : Int32).toInt = 4 := by decide
                      refine D_bd (t_X8_manyHow S_1 (4 : Int32) hS_1) (fun r35 eq37 hq36 => ?_)
                      have n38 := i_rng r35
                      exact D_some (show (iR BM S_1) ∧ (aT S S_1) ∧ (pI S_1) ∧ (gI 0 S_1) from ⟨hS_1, kaT_t2, kpI_t3, kg0_t4⟩)
                    · skip
                      refine D_ite (fun c39 => ?_) (fun c39 => ?_)
                      · have kc39 := tq_eq (x := x1) (y := (10 : Int32)) rfl (b := 10) (by decide) c39
                        have l5 : (5 : Int32).toInt = 5 := by decide
                        refine D_bd (t_X8_manyHow S_1 (5 : Int32) hS_1) (fun r40 eq42 hq41 => ?_)
                        have n43 := i_rng r40
                        exact D_some (show (iR BM S_1) ∧ (aT S S_1) ∧ (pI S_1) ∧ (gI 0 S_1) from ⟨hS_1, kaT_t2, kpI_t3, kg0_t4⟩)
                      · skip
                        refine D_ite (fun c44 => ?_) (fun c44 => ?_)
                        · have kc44 := tq_eq (x := x1) (y := (11 : Int32)) rfl (b := 11) (by decide) c44
                          exact tl_X8_count_L154 S S_1 hS_1 kaT_t2 kpI_t3 kg0_t4   2000 (0 : Int32) (0 : Int32) ⟨(by clear n5 n6 kc44; omega), (by clear n5 n6 kc44; omega)⟩ (by clear n5 n6 kc44; omega)
                        · skip
                          refine D_ite (fun c61 => ?_) (fun c61 => ?_)
                          · have kc61 := tq_eq (x := x1) (y := (12 : Int32)) rfl (b := 12) (by decide) c61
                            have n62 := i_rng (S_1 23 0)
                            exact D_some (show (iR BM S_1) ∧ (aT S S_1) ∧ (pI S_1) ∧ (gI 0 S_1) from ⟨hS_1, kaT_t2, kpI_t3, kg0_t4⟩)
                          · skip
                            refine D_ite (fun c63 => ?_) (fun c63 => ?_)
                            · have kc63 := tq_eq (x := x1) (y := (13 : Int32)) rfl (b := 13) (by decide) c63
                              have n64 : 0 ≤ (S_1 0 78).toInt ∧ (S_1 0 78).toInt ≤ 24 := hS_1 0 78
                              exact D_some (show (iR BM S_1) ∧ (aT S S_1) ∧ (pI S_1) ∧ (gI 0 S_1) from ⟨hS_1, kaT_t2, kpI_t3, kg0_t4⟩)
                            · skip
                              refine D_ite (fun c65 => ?_) (fun c65 => ?_)
                              · have kc65 := tq_eq (x := x1) (y := (14 : Int32)) rfl (b := 14) (by decide) c65
                                refine D_bd (t_X8_knownBy S_1 hS_1) (fun r66 eq68 hq67 => ?_)
                                have p69 : 0 ≤ r66.toInt ∧ r66.toInt ≤ 24 := hq67
                                exact D_some (show (iR BM S_1) ∧ (aT S S_1) ∧ (pI S_1) ∧ (gI 0 S_1) from ⟨hS_1, kaT_t2, kpI_t3, kg0_t4⟩)
                              · skip
                                refine D_ite (fun c70 => ?_) (fun c70 => ?_)
                                · have kc70 := tq_eq (x := x1) (y := (15 : Int32)) rfl (b := 15) (by decide) c70
                                  have n71 : 0 ≤ (S_1 0 82).toInt ∧ (S_1 0 82).toInt ≤ 20 := hS_1 0 82
                                  exact D_some (show (iR BM S_1) ∧ (aT S S_1) ∧ (pI S_1) ∧ (gI 0 S_1) from ⟨hS_1, kaT_t2, kpI_t3, kg0_t4⟩)
                                · skip
                                  have lm1 : ((-1) : Int32).toInt = (-1) := by decide
                                  exact D_some (show (iR BM S_1) ∧ (aT S S_1) ∧ (pI S_1) ∧ (gI 0 S_1) from ⟨hS_1, kaT_t2, kpI_t3, kg0_t4⟩)
set_option maxHeartbeats 1000000 in
set_option maxRecDepth 100000 in
theorem t_X8_fails (S : Tr) (x1 : Int32) (hS : iR BM S) (dpI : pI S) (dg0 : gI 0 S) : D (f_X8_fails S x1) (fun (q : Int32 × Tr) => (0 ≤ (q.1).toInt ∧ (q.1).toInt ≤ 0) ∧ (iR BM (q.2)) ∧ (aT S (q.2)) ∧ (pI (q.2)) ∧ (gI 0 (q.2))) := by
  unfold f_X8_fails
  refine D_lt (fun S_1 eS_1 => ?_)
  have hS_1 : iR BM S_1 := by rw [eS_1]; exact iR_setU hS rfl
  have kaT_t2 : aT S S_1 := (by rw [eS_1]; exact aT_set aT_rfl rfl)
  have kpI_t3 : pI S_1 := by rw [eS_1]; exact dpI
  have kg0_t4 : gI 0 S_1 := by rw [eS_1]; exact dg0
  have n5 := i_rng x1
  have n6 : (S_1 0 2).toInt = x1.toInt := by rw [eS_1]; rfl
  have l0 : (0 : Int32).toInt = 0 := by decide
  exact D_some (show (0 ≤ (0 : Int32).toInt ∧ (0 : Int32).toInt ≤ 0) ∧ (iR BM S_1) ∧ (aT S S_1) ∧ (pI S_1) ∧ (gI 0 S_1) from ⟨⟨(by omega), (by omega)⟩, hS_1, kaT_t2, kpI_t3, kg0_t4⟩)
set_option maxHeartbeats 1000000 in
set_option maxRecDepth 100000 in
theorem tl_X8_falls_L31 (zaG : Tr) (S : Tr) (L : Lo) (hS : iR BM S) (daG : aG 1 zaG S) (dpI : pI S) (dg0 : gI 0 S) (dgI : gI 1 S)   (N : Nat) : ∀ (x1 : Int32) (x2 : Int32), 0 ≤ x2.toInt ∧ x2.toInt ≤ 1000 → 1000 - x2.toInt < (N : Int) → D (lpF (fun _ _ => none) (fB_X8_falls_L31 S L) N x1 x2) (fun (q : Int32 × Tr × Lo) => (iR BM (q.2.1)) ∧ (aG 1 zaG (q.2.1)) ∧ (pI (q.2.1)) ∧ (gI 0 (q.2.1))) := by
  induction N with
  | zero =>
    intro x1 x2 hx2 hN
    exfalso
    omega
  | succ N31 ih =>
    intro x1 x2 hx2 hN
    have hk31 : ∀ (x1 : Int32) (x2 : Int32), 0 ≤ x2.toInt ∧ x2.toInt ≤ 1000 → 1000 - x2.toInt < (N31 : Int) → D (lpF (fun _ _ => none) (fB_X8_falls_L31 S L) N31 x1 x2) (fun (q : Int32 × Tr × Lo) => (iR BM (q.2.1)) ∧ (aG 1 zaG (q.2.1)) ∧ (pI (q.2.1)) ∧ (gI 0 (q.2.1))) := ih
    show D (fB_X8_falls_L31 S L (lpF (fun _ _ => none) (fB_X8_falls_L31 S L) N31) x1 x2) _
    generalize lpF (fun _ _ => none) (fB_X8_falls_L31 S L) N31 = k31 at hk31 ⊢
    have hN31 : 1000 - x2.toInt < (N31 : Int) + 1 := by omega
    clear ih
    unfold fB_X8_falls_L31
    have n38 : 0 ≤ (S 0 14).toInt ∧ (S 0 14).toInt ≤ 10 := hS 0 14
    refine D_ite (fun c37 => ?_) (fun c37 => ?_)
    · have kc37 := tq_le (x := (S 0 14)) (y := x2) rfl rfl c37
      have n39 := i_rng x1
      exact D_some (show (iR BM S) ∧ (aG 1 zaG S) ∧ (pI S) ∧ (gI 0 S) from ⟨hS, daG, dpI, dg0⟩)
    · have kc37 := tq_len (x := (S 0 14)) (y := x2) rfl rfl c37
      have n40 : ((10 : Int32) + x2).toInt = 10 + x2.toInt := i_addK (by decide) rfl (by omega) (by omega)
      refine D_ck (okI_of (by omega) (by omega)) ?_
      have n42 : 0 ≤ (S 53 ((10 : Int32) + x2).toNatClampNeg).toInt ∧ (S 53 ((10 : Int32) + x2).toNatClampNeg).toInt ≤ 5 := hS 53 (((10 : Int32) + x2).toNatClampNeg)
      refine D_ite (fun c41 => ?_) (fun c41 => ?_)
      · have kc41 := tq_eq (x := (S 53 ((10 : Int32) + x2).toNatClampNeg)) (y := (3 : Int32)) rfl (b := 3) (by decide) c41
        refine D_ck (okI_of (by clear hN31 hN n42 kc41; omega) (by clear hN31 hN n42 kc41; omega)) ?_
        have n44 : 0 ≤ (S 53 x2.toNatClampNeg).toInt ∧ (S 53 x2.toNatClampNeg).toInt ≤ 5 := hS 53 x2.toNatClampNeg
        refine D_ite (fun c43 => ?_) (fun c43 => ?_)
        · have kc43 := tq_eq (x := (S 53 x2.toNatClampNeg)) (y := (3 : Int32)) rfl (b := 3) (by decide) c43
          refine D_lt (fun y45 ey45 => ?_)
          have n46 := i_rng (x1 ||| 0)
          have hy45 : y45.toInt = (x1 ||| 0).toInt := by rw [ey45]
          have n48 : (x2 + 1).toInt = x2.toInt + 1 := i_addK rfl (by decide) (by clear hN31 hN n42 kc41 n44 kc43 n46 hy45; omega) (by clear hN31 hN n42 kc41 n44 kc43 n46 hy45; omega)
          refine D_lt (fun y47 ey47 => ?_)
          have hy47 : y47.toInt = (x2 + 1 : Int32).toInt := by rw [ey47]
          exact hk31 y45 y47 ⟨(by clear hN31 hN n42 kc41 n44 kc43 n46 hy45; omega), (by clear hN31 hN n42 kc41 n44 kc43 n46 hy45; omega)⟩ (by clear n42 kc41 n44 kc43 n46 hy45; omega)
        · skip
          refine D_lt (fun y49 ey49 => ?_)
          have n50 := i_rng (x1 ||| ((1 : Int32) <<< (x2 &&& 31)))
          have hy49 : y49.toInt = (x1 ||| ((1 : Int32) <<< (x2 &&& 31))).toInt := by rw [ey49]
          have n52 : (x2 + 1).toInt = x2.toInt + 1 := i_addK rfl (by decide) (by clear hN31 hN n42 kc41 n44 n50 hy49; omega) (by clear hN31 hN n42 kc41 n44 n50 hy49; omega)
          refine D_lt (fun y51 ey51 => ?_)
          have hy51 : y51.toInt = (x2 + 1 : Int32).toInt := by rw [ey51]
          exact hk31 y49 y51 ⟨(by clear hN31 hN n42 kc41 n44 n50 hy49; omega), (by clear hN31 hN n42 kc41 n44 n50 hy49; omega)⟩ (by clear n42 kc41 n44 n50 hy49; omega)
      · skip
        refine D_lt (fun y53 ey53 => ?_)
        have n54 := i_rng (x1 ||| 0)
        have hy53 : y53.toInt = (x1 ||| 0).toInt := by rw [ey53]
        have n56 : (x2 + 1).toInt = x2.toInt + 1 := i_addK rfl (by decide) (by clear hN31 hN n42 n54 hy53; omega) (by clear hN31 hN n42 n54 hy53; omega)
        refine D_lt (fun y55 ey55 => ?_)
        have hy55 : y55.toInt = (x2 + 1 : Int32).toInt := by rw [ey55]
        exact hk31 y53 y55 ⟨(by clear hN31 hN n42 n54 hy53; omega), (by clear hN31 hN n42 n54 hy53; omega)⟩ (by clear n42 n54 hy53; omega)
set_option maxHeartbeats 1000000 in
set_option maxRecDepth 100000 in
theorem t_X8_falls (S : Tr) (L : Lo) (hS : iR BM S) (dpI : pI S) (dg0 : gI 0 S) : D (f_X8_falls S L) (fun (q : Int32 × Tr × Lo) => (iR BM (q.2.1)) ∧ (aG 1 S (q.2.1)) ∧ (pI (q.2.1)) ∧ (gI 0 (q.2.1))) := by
  unfold f_X8_falls
  refine D_lt (fun S_1 eS_1 => ?_)
  have hS_1 : iR BM S_1 := by rw [eS_1]; exact iR_setU hS rfl
  have kaG_t2 : aG 1 S S_1 := (by rw [eS_1]; exact aG_set aG_rfl (Wb_t rfl))
  have kpI_t3 : pI S_1 := by rw [eS_1]; exact dpI
  have kg0_t4 : gI 0 S_1 := by rw [eS_1]; exact dg0
  have l0 : (0 : Int32).toInt = 0 := by decide
  have n6 : (S_1 0 2).toInt = (0 : Int32).toInt := by rw [eS_1]; rfl
  have n8 : 0 ≤ (S_1 62 0).toInt ∧ (S_1 62 0).toInt ≤ 21 := hS_1 62 0
  refine D_ite (fun c7 => ?_) (fun c7 => ?_)
  · have kc7 := tq_lt (x := (S_1 62 0)) (y := (21 : Int32)) rfl (b := 21) (by decide) c7
    refine D_bd (t_X8_layTried S_1 hS_1 kg0_t4 kpI_t3) (fun S_9 eq11 hq10 => ?_)
    obtain ⟨p12, p13, p14, p15, p16, p17⟩ : (iR BM S_9) ∧ (aG 1 S_1 S_9) ∧ (gI 1 S_9) ∧ (pI S_9) ∧ (S_9 62 1 = S_1 62 0) ∧ (S_9 61 1 = S_1 61 0) := hq10
    have k18 : aG 1 S S_9 := aG_tr kaG_t2 p13
    have n19 : (S_9 62 0).toInt = (S_1 62 0).toInt := congrArg Int32.toInt (p13 62 _ rfl)
    have kpI_t20 : pI S_9 := (pI_aG kpI_t3 p13)
    have kg0_t21 : gI 0 S_9 := (gI0_G1 hS_1 kg0_t4 p13)
    have kgI_t22 : gI 1 S_9 := p14
    have n23 : 0 ≤ (S_9 62 1).toInt ∧ (S_9 62 1).toInt ≤ 21 := p12 62 1
    have kz24 : (S_9 62 1).toInt = (S_1 62 0).toInt := congrArg Int32.toInt p16
    have l1 : (1 : Int32).toInt = 1 := by decide
    refine D_bd2 (t_X8_goOn S_9 L (1 : Int32) p12 kpI_t20 kgI_t22 ⟨(by clear n6 n8 kc7 n19 n23 kz24; omega), (by clear n6 n8 kc7 n19 n23 kz24; omega)⟩ (show (S_9 62 1).toInt ≤ 20 from (by first | assumption | exact (by omega)))) (fun S_25 L_26 eq28 hq27 => ?_)
    refine D_lte (y := S_25) rfl ?_
    refine D_lte (y := L_26) rfl ?_
    obtain ⟨p29, p30, p31, p32, p33⟩ : (iR BM S_25) ∧ (aG 1 S_9 S_25) ∧ (pI S_25) ∧ (gI 1 S_25) ∧ ((S_25 62 1).toInt = (S_9 62 1).toInt + 1) := hq27
    have k34 : aG 1 S S_25 := aG_tr k18 p30
    have n35 : (S_25 62 0).toInt = (S_9 62 0).toInt := congrArg Int32.toInt (p30 62 _ rfl)
    have kg0_t36 : gI 0 S_25 := (gI0_G1 p12 kg0_t21 p30)
    exact tl_X8_falls_L31 S S_25 L_26 p29 k34 p31 kg0_t36 p32   2000 (0 : Int32) (0 : Int32) ⟨(by clear n6 n8 kc7 n19 n23 kz24 p33 n35; omega), (by clear n6 n8 kc7 n19 n23 kz24 p33 n35; omega)⟩ (by clear n6 n8 kc7 n19 n23 kz24 p33 n35; omega)
  · have kc7 := tq_ltn (x := (S_1 62 0)) (y := (21 : Int32)) rfl (b := 21) (by decide) c7
    exact D_some (show (iR BM S_1) ∧ (aG 1 S S_1) ∧ (pI S_1) ∧ (gI 0 S_1) from ⟨hS_1, kaG_t2, kpI_t3, kg0_t4⟩)
set_option maxHeartbeats 1000000 in
set_option maxRecDepth 100000 in
theorem t_X8_fault (S : Tr) (x1 : Int32) (hS : iR BM S) (dpI : pI S) (dg0 : gI 0 S) : D (f_X8_fault S x1) (fun (q : Int32 × Tr) => (iR BM (q.2)) ∧ (aT S (q.2)) ∧ (pI (q.2)) ∧ (gI 0 (q.2))) := by
  unfold f_X8_fault
  refine D_lt (fun S_1 eS_1 => ?_)
  have hS_1 : iR BM S_1 := by rw [eS_1]; exact iR_setU hS rfl
  have kaT_t2 : aT S S_1 := (by rw [eS_1]; exact aT_set aT_rfl rfl)
  have kpI_t3 : pI S_1 := by rw [eS_1]; exact dpI
  have kg0_t4 : gI 0 S_1 := by rw [eS_1]; exact dg0
  have l0 : (0 : Int32).toInt = 0 := by decide
  have n5 : (S_1 0 2).toInt = (0 : Int32).toInt := by rw [eS_1]; rfl
  have n7 := i_rng x1
  refine D_ite (fun c6 => ?_) (fun c6 => ?_)
  · have kc6 := tq_eq (x := x1) (y := (0 : Int32)) rfl (b := 0) (by decide) c6
    have n8 := i_rng (S_1 0 4)
    exact D_some (show (iR BM S_1) ∧ (aT S S_1) ∧ (pI S_1) ∧ (gI 0 S_1) from ⟨hS_1, kaT_t2, kpI_t3, kg0_t4⟩)
  · skip
    refine D_ite (fun c9 => ?_) (fun c9 => ?_)
    · have kc9 := tq_eq (x := x1) (y := (1 : Int32)) rfl (b := 1) (by decide) c9
      have n10 := i_rng (S_1 0 5)
      exact D_some (show (iR BM S_1) ∧ (aT S S_1) ∧ (pI S_1) ∧ (gI 0 S_1) from ⟨hS_1, kaT_t2, kpI_t3, kg0_t4⟩)
    · skip
      have lm1 : ((-1) : Int32).toInt = (-1) := by decide
      exact D_some (show (iR BM S_1) ∧ (aT S S_1) ∧ (pI S_1) ∧ (gI 0 S_1) from ⟨hS_1, kaT_t2, kpI_t3, kg0_t4⟩)
set_option maxHeartbeats 1000000 in
set_option maxRecDepth 100000 in
theorem t_X8_feet (S : Tr) (L : Lo) (hS : iR BM S) (dpI : pI S) (dg0 : gI 0 S) : D (f_X8_feet S L) (fun (q : Int32 × Tr × Lo) => (iR BM (q.2.1)) ∧ (aG 1 S (q.2.1)) ∧ (pI (q.2.1)) ∧ (gI 0 (q.2.1))) := by
  unfold f_X8_feet
  refine D_lt (fun S_1 eS_1 => ?_)
  have hS_1 : iR BM S_1 := by rw [eS_1]; exact iR_setU hS rfl
  have kaG_t2 : aG 1 S S_1 := (by rw [eS_1]; exact aG_set aG_rfl (Wb_t rfl))
  have kpI_t3 : pI S_1 := by rw [eS_1]; exact dpI
  have kg0_t4 : gI 0 S_1 := by rw [eS_1]; exact dg0
  have l0 : (0 : Int32).toInt = 0 := by decide
  have n6 : (S_1 0 2).toInt = (0 : Int32).toInt := by rw [eS_1]; rfl
  refine D_bd (t_X8_layTried S_1 hS_1 kg0_t4 kpI_t3) (fun S_7 eq9 hq8 => ?_)
  obtain ⟨p10, p11, p12, p13, p14, p15⟩ : (iR BM S_7) ∧ (aG 1 S_1 S_7) ∧ (gI 1 S_7) ∧ (pI S_7) ∧ (S_7 62 1 = S_1 62 0) ∧ (S_7 61 1 = S_1 61 0) := hq8
  have k16 : aG 1 S S_7 := aG_tr kaG_t2 p11
  have kpI_t17 : pI S_7 := (pI_aG kpI_t3 p11)
  have kg0_t18 : gI 0 S_7 := (gI0_G1 hS_1 kg0_t4 p11)
  have kgI_t19 : gI 1 S_7 := p12
  have n20 : 0 ≤ (S_7 62 1).toInt ∧ (S_7 62 1).toInt ≤ 21 := p10 62 1
  have n21 : 0 ≤ (S_1 62 0).toInt ∧ (S_1 62 0).toInt ≤ 21 := hS_1 62 0
  have kz22 : (S_7 62 1).toInt = (S_1 62 0).toInt := congrArg Int32.toInt p14
  refine D_bd2 (t_X8_toEnd S_7 L p10 kpI_t17 kgI_t19) (fun S_23 L_24 eq26 hq25 => ?_)
  refine D_lte (y := S_23) rfl ?_
  refine D_lte (y := L_24) rfl ?_
  obtain ⟨p27, p28, p29, p30⟩ : (iR BM S_23) ∧ (aG 1 S_7 S_23) ∧ (pI S_23) ∧ (gI 1 S_23) := hq25
  have k31 : aG 1 S S_23 := aG_tr k16 p28
  have kg0_t32 : gI 0 S_23 := (gI0_G1 p10 kg0_t18 p28)
  have n33 := i_rng (S_23 63 1)
  exact D_some (show (iR BM S_23) ∧ (aG 1 S S_23) ∧ (pI S_23) ∧ (gI 0 S_23) from ⟨p27, k31, p29, kg0_t32⟩)
set_option maxHeartbeats 1000000 in
set_option maxRecDepth 100000 in
theorem tl_X8_isSo_L2 (S : Tr) (x1 : Int32) (hS : iR BM S) (dzI : zI S) (hx1 : 0 ≤ x1.toInt ∧ x1.toInt ≤ 21)   (N : Nat) : ∀ (x2 : Int32), 0 ≤ x2.toInt ∧ x2.toInt ≤ 1000 → 1000 - x2.toInt < (N : Int) → D (lpF (fun _ => none) (fB_X8_isSo_L2 S x1) N x2) (fun (q : Int32) => (0 ≤ q.toInt ∧ q.toInt ≤ 1)) := by
  induction N with
  | zero =>
    intro x2 hx2 hN
    exfalso
    omega
  | succ N2 ih =>
    intro x2 hx2 hN
    have hk2 : ∀ (x2 : Int32), 0 ≤ x2.toInt ∧ x2.toInt ≤ 1000 → 1000 - x2.toInt < (N2 : Int) → D (lpF (fun _ => none) (fB_X8_isSo_L2 S x1) N2 x2) (fun (q : Int32) => (0 ≤ q.toInt ∧ q.toInt ≤ 1)) := ih
    show D (fB_X8_isSo_L2 S x1 (lpF (fun _ => none) (fB_X8_isSo_L2 S x1) N2) x2) _
    generalize lpF (fun _ => none) (fB_X8_isSo_L2 S x1) N2 = k2 at hk2 ⊢
    have hN2 : 1000 - x2.toInt < (N2 : Int) + 1 := by omega
    clear ih
    unfold fB_X8_isSo_L2
    refine D_bd (t_X8_knownBy S hS) (fun r1 eq3 hq2 => ?_)
    have p4 : 0 ≤ r1.toInt ∧ r1.toInt ≤ 24 := hq2
    refine D_ite (fun c5 => ?_) (fun c5 => ?_)
    · have kc5 := tq_le (x := r1) (y := x2) rfl rfl c5
      have l1 : (1 : Int32).toInt = 1 := by decide
      exact D_some (show (0 ≤ (1 : Int32).toInt ∧ (1 : Int32).toInt ≤ 1) from ⟨(by clear hx1 hx2 hN2 hN p4 kc5; omega), (by clear hx1 hx2 hN2 hN p4 kc5; omega)⟩)
    · have kc5 := tq_len (x := r1) (y := x2) rfl rfl c5
      refine D_ck (okI_of (by clear hx1 hN2 hN; omega) (by clear hx1 hN2 hN; omega)) ?_
      have n7 := i_rng (S 82 x2.toNatClampNeg)
      refine D_ite (fun c6 => ?_) (fun c6 => ?_)
      · have kc6 := tq_eq (x := (S 82 x2.toNatClampNeg)) (y := (0 : Int32)) rfl (b := 0) (by decide) c6
        have n9 : (x2 + 1).toInt = x2.toInt + 1 := i_addK rfl (by decide) (by clear hx1 hN2 hN n7 kc6; omega) (by clear hx1 hN2 hN n7 kc6; omega)
        refine D_lt (fun y8 ey8 => ?_)
        have hy8 : y8.toInt = (x2 + 1 : Int32).toInt := by rw [ey8]
        exact hk2 y8 ⟨(by clear hx1 hN2 hN n7 kc6; omega), (by clear hx1 hN2 hN n7 kc6; omega)⟩ (by clear hx1 n7 kc6; omega)
      · skip
        have n10 := i_mulL (a := (4 : Int32)) (b := x2) 4 (by decide) (by clear hx1 hN2 hN n7; omega) (by clear hx1 hN2 hN n7; omega)
        refine D_ck (okI_of (by clear hx1 hN2 hN n7; omega) (by clear hx1 hN2 hN n7; omega)) ?_
        have n12 := i_rng (S 81 ((4 : Int32) * x2).toNatClampNeg)
        refine D_ite (fun c11 => ?_) (fun c11 => ?_)
        · have kc11 := tq_eq (x := (S 81 ((4 : Int32) * x2).toNatClampNeg)) (y := x1) rfl rfl c11
          have n13 : (((4 : Int32) * x2) + 1).toInt = ((4 : Int32) * x2).toInt + 1 := i_addK rfl (by decide) (by clear hx1 hN2 hN n7 n12 kc11; omega) (by clear hx1 hN2 hN n7 n12 kc11; omega)
          refine D_ck (okI_of (by clear hx1 hN2 hN n7 n12 kc11; omega) (by clear hx1 hN2 hN n7 n12 kc11; omega)) ?_
          have n14 := zI_b (x := x2) hS ⟨(by clear hx1 hN2 hN n7 n12 kc11; omega), (by clear hx1 hN2 hN n7 n12 kc11; omega)⟩
          have n15 := zI_i (x := x2) dzI ⟨(by clear hx1 hN2 hN n7 n12 kc11 n14; omega), (by clear hx1 hN2 hN n7 n12 kc11 n14; omega)⟩ (by clear hx2 hN2 hN p4 kc5 n7 n10 n13 n14; omega)
          have n16 : ((10 : Int32) + (S 81 (((4 : Int32) * x2) + 1).toNatClampNeg)).toInt = 10 + (S 81 (((4 : Int32) * x2) + 1).toNatClampNeg).toInt := i_addK (by decide) rfl (by clear hx1 hx2 hN2 hN p4 kc5 n7 n10 n12 kc11 n13; omega) (by clear hx1 hx2 hN2 hN p4 kc5 n7 n10 n12 kc11 n13; omega)
          refine D_ck (okI_of (by clear hx1 hx2 hN2 hN p4 kc5 n7 n10 n12 kc11 n13; omega) (by clear hx1 hx2 hN2 hN p4 kc5 n7 n10 n12 kc11 n13; omega)) ?_
          have n17 : (((4 : Int32) * x2) + 2).toInt = ((4 : Int32) * x2).toInt + 2 := i_addK rfl (by decide) (by clear hx1 hN2 hN n7 n12 kc11 n14 n15 n16; omega) (by clear hx1 hN2 hN n7 n12 kc11 n14 n15 n16; omega)
          refine D_ck (okI_of (by clear hx1 hN2 hN n7 n12 kc11 n14 n15 n16; omega) (by clear hx1 hN2 hN n7 n12 kc11 n14 n15 n16; omega)) ?_
          have n19 : (-1) ≤ (S 54 ((10 : Int32) + (S 81 (((4 : Int32) * x2) + 1).toNatClampNeg)).toNatClampNeg).toInt ∧ (S 54 ((10 : Int32) + (S 81 (((4 : Int32) * x2) + 1).toNatClampNeg)).toNatClampNeg).toInt ≤ 4 := hS 54 (((10 : Int32) + (S 81 (((4 : Int32) * x2) + 1).toNatClampNeg)).toNatClampNeg)
          have n20 := i_rng (S 81 (((4 : Int32) * x2) + 2).toNatClampNeg)
          refine D_ite (fun c18 => ?_) (fun c18 => ?_)
          · have kc18 := tq_eq (x := (S 54 ((10 : Int32) + (S 81 (((4 : Int32) * x2) + 1).toNatClampNeg)).toNatClampNeg)) (y := (S 81 (((4 : Int32) * x2) + 2).toNatClampNeg)) rfl rfl c18
            unfold fJ_X8_isSo_J70
            have n21 : (((4 : Int32) * x2) + 3).toInt = ((4 : Int32) * x2).toInt + 3 := i_addK rfl (by decide) (by clear hx1 hN2 hN n7 n12 kc11 n14 n15 n16 n19 n20 kc18; omega) (by clear hx1 hN2 hN n7 n12 kc11 n14 n15 n16 n19 n20 kc18; omega)
            refine D_ck (okI_of (by clear hx1 hN2 hN n7 n12 kc11 n14 n15 n16 n19 n20 kc18; omega) (by clear hx1 hN2 hN n7 n12 kc11 n14 n15 n16 n19 n20 kc18; omega)) ?_
            have n23 := i_rng (S 81 (((4 : Int32) * x2) + 3).toNatClampNeg)
            refine D_ite (fun c22 => ?_) (fun c22 => ?_)
            · have kc22 := tq_eq (x := (S 81 (((4 : Int32) * x2) + 3).toNatClampNeg)) (y := (1 : Int32)) rfl (b := 1) (by decide) c22
              unfold fJ_X8_isSo_J91
              have l1 : (1 : Int32).toInt = 1 := by decide
              refine D_ite (fun c24 => ?_) (fun c24 => ?_)
              · have kc24 := tq_eq (x := (1 : Int32)) (y := (1 : Int32)) rfl rfl c24
                have n26 : (x2 + 1).toInt = x2.toInt + 1 := i_addK rfl (by decide) (by clear hx1 hN2 hN n7 n12 kc11 n14 n15 n16 n19 n20 kc18 n23 kc22; omega) (by clear hx1 hN2 hN n7 n12 kc11 n14 n15 n16 n19 n20 kc18 n23 kc22; omega)
                refine D_lt (fun y25 ey25 => ?_)
                have hy25 : y25.toInt = (x2 + 1 : Int32).toInt := by rw [ey25]
                exact hk2 y25 ⟨(by clear hx1 hN2 hN n7 n12 kc11 n14 n15 n16 n19 n20 kc18 n23 kc22; omega), (by clear hx1 hN2 hN n7 n12 kc11 n14 n15 n16 n19 n20 kc18 n23 kc22; omega)⟩ (by clear hx1 n7 n12 kc11 n14 n15 n16 n19 n20 kc18 n23 kc22; omega)
              · have kc240 := tq_eqn (x := (1 : Int32)) (y := (1 : Int32)) rfl rfl c24
                have kc24 : 2 ≤ (1 : Int32).toInt := (by clear hx1 hx2 hN2 hN p4 kc5 n7 n10 n12 kc11 n13 n14 n15 n16 n17 n19 n20 kc18 n21 n23 kc22; omega)
                clear kc240
                exfalso
                exact (by clear hx1 hx2 hN2 hN p4 kc5 n7 n10 n12 kc11 n13 n14 n15 n16 n17 n19 n20 kc18 n21 n23 kc22; omega)
            · skip
              unfold fJ_X8_isSo_J91
              have l1 : (1 : Int32).toInt = 1 := by decide
              have l0 : (0 : Int32).toInt = 0 := by decide
              refine D_ite (fun c27 => ?_) (fun c27 => ?_)
              · have kc27 := tq_eq (x := (1 : Int32)) (y := (0 : Int32)) (a := 1) (by decide) (b := 0) (by decide) c27
                exfalso
                exact (by clear hx1 hx2 hN2 hN p4 kc5 n7 n10 n12 kc11 n13 n14 n15 n16 n17 n19 n20 kc18 n21 n23; omega)
              · skip
                exact D_some (show (0 ≤ (0 : Int32).toInt ∧ (0 : Int32).toInt ≤ 1) from ⟨(by clear hx1 hx2 hN2 hN p4 kc5 n7 n10 n12 kc11 n13 n14 n15 n16 n17 n19 n20 kc18 n21 n23; omega), (by clear hx1 hx2 hN2 hN p4 kc5 n7 n10 n12 kc11 n13 n14 n15 n16 n17 n19 n20 kc18 n21 n23; omega)⟩)
          · skip
            unfold fJ_X8_isSo_J70
            have n28 : (((4 : Int32) * x2) + 3).toInt = ((4 : Int32) * x2).toInt + 3 := i_addK rfl (by decide) (by clear hx1 hN2 hN n7 n12 kc11 n14 n15 n16 n19 n20; omega) (by clear hx1 hN2 hN n7 n12 kc11 n14 n15 n16 n19 n20; omega)
            refine D_ck (okI_of (by clear hx1 hN2 hN n7 n12 kc11 n14 n15 n16 n19 n20; omega) (by clear hx1 hN2 hN n7 n12 kc11 n14 n15 n16 n19 n20; omega)) ?_
            have n30 := i_rng (S 81 (((4 : Int32) * x2) + 3).toNatClampNeg)
            refine D_ite (fun c29 => ?_) (fun c29 => ?_)
            · have kc29 := tq_eq (x := (S 81 (((4 : Int32) * x2) + 3).toNatClampNeg)) (y := (1 : Int32)) rfl (b := 1) (by decide) c29
              unfold fJ_X8_isSo_J91
              have l0 : (0 : Int32).toInt = 0 := by decide
              have l1 : (1 : Int32).toInt = 1 := by decide
              refine D_ite (fun c31 => ?_) (fun c31 => ?_)
              · have kc31 := tq_eq (x := (0 : Int32)) (y := (1 : Int32)) (a := 0) (by decide) (b := 1) (by decide) c31
                exfalso
                exact (by clear hx1 hx2 hN2 hN p4 kc5 n7 n10 n12 kc11 n13 n14 n15 n16 n17 n19 n20 n28 n30 kc29; omega)
              · skip
                exact D_some (show (0 ≤ (0 : Int32).toInt ∧ (0 : Int32).toInt ≤ 1) from ⟨(by clear hx1 hx2 hN2 hN p4 kc5 n7 n10 n12 kc11 n13 n14 n15 n16 n17 n19 n20 n28 n30 kc29; omega), (by clear hx1 hx2 hN2 hN p4 kc5 n7 n10 n12 kc11 n13 n14 n15 n16 n17 n19 n20 n28 n30 kc29; omega)⟩)
            · skip
              unfold fJ_X8_isSo_J91
              have l0 : (0 : Int32).toInt = 0 := by decide
              refine D_ite (fun c32 => ?_) (fun c32 => ?_)
              · have kc32 := tq_eq (x := (0 : Int32)) (y := (0 : Int32)) rfl rfl c32
                have n34 : (x2 + 1).toInt = x2.toInt + 1 := i_addK rfl (by decide) (by clear hx1 hN2 hN n7 n12 kc11 n14 n15 n16 n19 n20 n30; omega) (by clear hx1 hN2 hN n7 n12 kc11 n14 n15 n16 n19 n20 n30; omega)
                refine D_lt (fun y33 ey33 => ?_)
                have hy33 : y33.toInt = (x2 + 1 : Int32).toInt := by rw [ey33]
                exact hk2 y33 ⟨(by clear hx1 hN2 hN n7 n12 kc11 n14 n15 n16 n19 n20 n30; omega), (by clear hx1 hN2 hN n7 n12 kc11 n14 n15 n16 n19 n20 n30; omega)⟩ (by clear hx1 n7 n12 kc11 n14 n15 n16 n19 n20 n30; omega)
              · have kc320 := tq_eqn (x := (0 : Int32)) (y := (0 : Int32)) rfl rfl c32
                have kc32 : 1 ≤ (0 : Int32).toInt := (by clear hx1 hx2 hN2 hN p4 kc5 n7 n10 n12 kc11 n13 n14 n15 n16 n17 n19 n20 n28 n30; omega)
                clear kc320
                exfalso
                exact (by clear hx1 hx2 hN2 hN p4 kc5 n7 n10 n12 kc11 n13 n14 n15 n16 n17 n19 n20 n28 n30; omega)
        · skip
          have n36 : (x2 + 1).toInt = x2.toInt + 1 := i_addK rfl (by decide) (by clear hx1 hN2 hN n7 n12; omega) (by clear hx1 hN2 hN n7 n12; omega)
          refine D_lt (fun y35 ey35 => ?_)
          have hy35 : y35.toInt = (x2 + 1 : Int32).toInt := by rw [ey35]
          exact hk2 y35 ⟨(by clear hx1 hN2 hN n7 n12; omega), (by clear hx1 hN2 hN n7 n12; omega)⟩ (by clear hx1 n7 n12; omega)
set_option maxHeartbeats 1000000 in
set_option maxRecDepth 100000 in
theorem t_X8_isSo (S : Tr) (x1 : Int32) (hS : iR BM S) (dzI : zI S) (hx1 : 0 ≤ x1.toInt ∧ x1.toInt ≤ 21) : D (f_X8_isSo S x1) (fun (q : Int32) => (0 ≤ q.toInt ∧ q.toInt ≤ 1)) := by
  unfold f_X8_isSo
  have l0 : (0 : Int32).toInt = 0 := by decide
  exact tl_X8_isSo_L2 S x1 hS dzI ⟨(by omega), (by omega)⟩   2000 (0 : Int32) ⟨(by omega), (by omega)⟩ (by omega)
set_option maxHeartbeats 1000000 in
set_option maxRecDepth 100000 in
theorem tl_X8_fits_L19 (zkn : Int32) (zaG : Tr)    (N : Nat) : ∀ (S : Tr) (L : Lo), aG 1 zaG S → pI S → gI 0 S → gI 1 S → zI S → iR BM S → 22 - (S 62 1).toInt < (N : Int) → D (lpF (fun _ _ => none) (fB_X8_fits_L19 ) N S L) (fun (q : Int32 × Tr × Lo) => (0 ≤ (q.1).toInt ∧ (q.1).toInt ≤ 1) ∧ (iR BM (q.2.1)) ∧ (aG 1 zaG (q.2.1)) ∧ (pI (q.2.1)) ∧ (gI 0 (q.2.1)) ∧ (zI (q.2.1))) := by
  induction N with
  | zero =>
    intro S L daG dpI dg0 dgI dzI hS hN
    exfalso
    have n113 : 0 ≤ (S 62 1).toInt ∧ (S 62 1).toInt ≤ 21 := hS 62 1
    omega
  | succ N19 ih =>
    intro S L daG dpI dg0 dgI dzI hS hN
    have hk19 : ∀ (S : Tr) (L : Lo), aG 1 zaG S → pI S → gI 0 S → gI 1 S → zI S → iR BM S → 22 - (S 62 1).toInt < (N19 : Int) → D (lpF (fun _ _ => none) (fB_X8_fits_L19 ) N19 S L) (fun (q : Int32 × Tr × Lo) => (0 ≤ (q.1).toInt ∧ (q.1).toInt ≤ 1) ∧ (iR BM (q.2.1)) ∧ (aG 1 zaG (q.2.1)) ∧ (pI (q.2.1)) ∧ (gI 0 (q.2.1)) ∧ (zI (q.2.1))) := ih
    show D (fB_X8_fits_L19  (lpF (fun _ _ => none) (fB_X8_fits_L19 ) N19) S L) _
    generalize lpF (fun _ _ => none) (fB_X8_fits_L19 ) N19 = k19 at hk19 ⊢
    have hN19 : 22 - (S 62 1).toInt < (N19 : Int) + 1 := by omega
    clear ih
    unfold fB_X8_fits_L19
    have n36 : 0 ≤ (S 62 1).toInt ∧ (S 62 1).toInt ≤ 21 := hS 62 1
    have n37 : 0 ≤ (S 0 14).toInt ∧ (S 0 14).toInt ≤ 10 := hS 0 14
    have n38 : 0 ≤ (S 0 13).toInt ∧ (S 0 13).toInt ≤ 6 := hS 0 13
    have n39 : 0 ≤ (S 0 12).toInt ∧ (S 0 12).toInt ≤ 5 := hS 0 12
    refine D_ite (fun c40 => ?_) (fun c40 => ?_)
    · have kc40 := tq_le (x := (20 : Int32)) (y := (S 62 1)) (a := 20) (by decide) rfl c40
      have l1 : (1 : Int32).toInt = 1 := by decide
      exact D_some (show (0 ≤ (1 : Int32).toInt ∧ (1 : Int32).toInt ≤ 1) ∧ (iR BM S) ∧ (aG 1 zaG S) ∧ (pI S) ∧ (gI 0 S) ∧ (zI S) from ⟨⟨(by clear hN19 hN n36 n37 n38 n39 kc40; omega), (by clear hN19 hN n36 n37 n38 n39 kc40; omega)⟩, hS, daG, dpI, dg0, dzI⟩)
    · have kc40 := tq_len (x := (20 : Int32)) (y := (S 62 1)) (a := 20) (by decide) rfl c40
      have l1 : (1 : Int32).toInt = 1 := by decide
      refine D_bd2 (t_X8_outs S L (1 : Int32) hS dpI dgI ⟨(by clear hN19 hN n36 n37 n38 n39 kc40; omega), (by clear hN19 hN n36 n37 n38 n39 kc40; omega)⟩) (fun S_41 L_42 eq44 hq43 => ?_)
      refine D_lte (y := S_41) rfl ?_
      refine D_lte (y := L_42) rfl ?_
      obtain ⟨p45, p46, p47, p48, p49⟩ : (iR BM S_41) ∧ (aG 1 S S_41) ∧ (pI S_41) ∧ (gI 1 S_41) ∧ (S_41 62 1 = (S 62 1)) := hq43
      have k50 : aG 1 zaG S_41 := aG_tr daG p46
      have k51 : S_41 62 1 = (S 62 1) := p49
      have n52 : (S_41 0 12).toInt = (S 0 12).toInt := congrArg Int32.toInt (p46 0 _ rfl)
      have n53 : (S_41 0 13).toInt = (S 0 13).toInt := congrArg Int32.toInt (p46 0 _ rfl)
      have n54 : (S_41 0 14).toInt = (S 0 14).toInt := congrArg Int32.toInt (p46 0 _ rfl)
      have kg0_t55 : gI 0 S_41 := (gI0_G1 hS dg0 p46)
      have kzI_t56 : zI S_41 := (zI_aG dzI p46)
      have n57 : 0 ≤ (S_41 62 1).toInt ∧ (S_41 62 1).toInt ≤ 21 := p45 62 1
      have kz58 : (S_41 62 1).toInt = (S 62 1).toInt := congrArg Int32.toInt p49
      refine D_bd (t_X8_ins S_41 (1 : Int32) p45 p47 p48 ⟨(by clear hN19 hN n36 n37 n38 n39 kc40 n52 n53 n54 n57 kz58; omega), (by clear hN19 hN n36 n37 n38 n39 kc40 n52 n53 n54 n57 kz58; omega)⟩) (fun S_59 eq61 hq60 => ?_)
      obtain ⟨p62, p63, p64, p65, p66⟩ : (iR BM S_59) ∧ (aG 1 S_41 S_59) ∧ (pI S_59) ∧ (gI 1 S_59) ∧ (S_59 62 1 = (S_41 62 1)) := hq60
      have k67 : aG 1 zaG S_59 := aG_tr k50 p63
      have k68 : S_59 62 1 = (S 62 1) := p66.trans k51
      have n69 : (S_59 0 12).toInt = (S_41 0 12).toInt := congrArg Int32.toInt (p63 0 _ rfl)
      have n70 : (S_59 0 13).toInt = (S_41 0 13).toInt := congrArg Int32.toInt (p63 0 _ rfl)
      have n71 : (S_59 0 14).toInt = (S_41 0 14).toInt := congrArg Int32.toInt (p63 0 _ rfl)
      have kg0_t72 : gI 0 S_59 := (gI0_G1 p45 kg0_t55 p63)
      have kzI_t73 : zI S_59 := (zI_aG kzI_t56 p63)
      have n74 : 0 ≤ (S_59 62 1).toInt ∧ (S_59 62 1).toInt ≤ 21 := p62 62 1
      have kz75 : (S_59 62 1).toInt = (S_41 62 1).toInt := congrArg Int32.toInt p66
      refine D_bd (t_X8_isSo S_59 (S_59 62 1) p62 kzI_t73 ⟨(by clear hN19 hN n37 n38 n39 n52 n53 n54 n69 n70 n71; omega), (by clear hN19 hN n37 n38 n39 n52 n53 n54 n69 n70 n71; omega)⟩) (fun r76 eq78 hq77 => ?_)
      have p79 : 0 ≤ r76.toInt ∧ r76.toInt ≤ 1 := hq77
      refine D_ite (fun c80 => ?_) (fun c80 => ?_)
      · have kc80 := tq_eq (x := r76) (y := (0 : Int32)) rfl (b := 0) (by decide) c80
        have l0 : (0 : Int32).toInt = 0 := by decide
        exact D_some (show (0 ≤ (0 : Int32).toInt ∧ (0 : Int32).toInt ≤ 1) ∧ (iR BM S_59) ∧ (aG 1 zaG S_59) ∧ (pI S_59) ∧ (gI 0 S_59) ∧ (zI S_59) from ⟨⟨(by clear hN19 hN n36 n37 n38 n39 kc40 n52 n53 n54 n57 kz58 n69 n70 n71 n74 kz75 p79 kc80; omega), (by clear hN19 hN n36 n37 n38 n39 kc40 n52 n53 n54 n57 kz58 n69 n70 n71 n74 kz75 p79 kc80; omega)⟩, p62, k67, p64, kg0_t72, kzI_t73⟩)
      · have kc800 := tq_eqn (x := r76) (y := (0 : Int32)) rfl (b := 0) (by decide) c80
        have kc80 : 1 ≤ r76.toInt := (by clear hN19 hN n36 n37 n38 n39 kc40 n52 n53 n54 n57 kz58 n69 n70 n71 n74 kz75; omega)
        clear kc800
        refine D_bd2 (t_X8_onTheWay S_59 L_42 (1 : Int32) p62 p64 p65 ⟨(by clear hN19 hN n36 n37 n38 n39 kc40 n52 n53 n54 n57 kz58 n69 n70 n71 n74 kz75 p79 kc80; omega), (by clear hN19 hN n36 n37 n38 n39 kc40 n52 n53 n54 n57 kz58 n69 n70 n71 n74 kz75 p79 kc80; omega)⟩) (fun S_81 L_82 eq84 hq83 => ?_)
        refine D_lte (y := S_81) rfl ?_
        refine D_lte (y := L_82) rfl ?_
        obtain ⟨p85, p86, p87, p88, p89⟩ : (iR BM S_81) ∧ (aG 1 S_59 S_81) ∧ (pI S_81) ∧ (gI 1 S_81) ∧ (S_81 62 1 = (S_59 62 1)) := hq83
        have k90 : aG 1 zaG S_81 := aG_tr k67 p86
        have k91 : S_81 62 1 = (S 62 1) := p89.trans k68
        have n92 : (S_81 0 12).toInt = (S_59 0 12).toInt := congrArg Int32.toInt (p86 0 _ rfl)
        have n93 : (S_81 0 13).toInt = (S_59 0 13).toInt := congrArg Int32.toInt (p86 0 _ rfl)
        have n94 : (S_81 0 14).toInt = (S_59 0 14).toInt := congrArg Int32.toInt (p86 0 _ rfl)
        have kg0_t95 : gI 0 S_81 := (gI0_G1 p62 kg0_t72 p86)
        have kzI_t96 : zI S_81 := (zI_aG kzI_t73 p86)
        have n97 : 0 ≤ (S_81 62 1).toInt ∧ (S_81 62 1).toInt ≤ 21 := p85 62 1
        have kz98 : (S_81 62 1).toInt = (S_59 62 1).toInt := congrArg Int32.toInt p89
        have n100 : ((S_81 62 1) + 1).toInt = (S_81 62 1).toInt + 1 := i_addK rfl (by decide) (by clear hN19 hN n37 n38 n39 n52 n53 n54 n69 n70 n71 p79 kc80 n92 n93 n94; omega) (by clear hN19 hN n37 n38 n39 n52 n53 n54 n69 n70 n71 p79 kc80 n92 n93 n94; omega)
        have kz101 : (S_81 62 1).toInt = (S 62 1).toInt := congrArg Int32.toInt k91
        refine D_lt (fun S_99 eS_99 => ?_)
        have hS_99 : iR BM S_99 := by rw [eS_99]; exact iR_set p85 (show (0 : Int) ≤ _ from (by clear hN19 hN n37 n38 n39 n52 n53 n54 n69 n70 n71 p79 kc80 n92 n93 n94; omega)) (show _ ≤ (21 : Int) from (by clear hN19 hN n37 n38 n39 n52 n53 n54 n69 n70 n71 p79 kc80 n92 n93 n94; omega))
        have kaG_t102 : aG 1 zaG S_99 := (by rw [eS_99]; exact aG_set k90 (Wb_62 (inB_of (by decide) (by decide))))
        have kpI_t103 : pI S_99 := by rw [eS_99]; exact p87
        have kg0_t104 : gI 0 S_99 := by rw [eS_99]; exact kg0_t95
        have kgI_t105 : gI 1 S_99 := by rw [eS_99]; exact p88
        have kzI_t107 : zI S_99 := by rw [eS_99]; exact kzI_t96
        have n108 : (S_99 0 13).toInt = (S_81 0 13).toInt := by rw [eS_99]; rfl
        have n109 : (S_99 0 12).toInt = (S_81 0 12).toInt := by rw [eS_99]; rfl
        have n110 : (S_99 0 14).toInt = (S_81 0 14).toInt := by rw [eS_99]; rfl
        have n111 : (S_99 62 1).toInt = (S_81 62 1).toInt + 1 := by rw [eS_99, st_same]; clear hN19 hN n37 n38 n39 n52 n53 n54 n69 n70 n71 p79 kc80 n92 n93 n94 n108 n109 n110; omega
        have n112 : 0 ≤ (S_99 62 1).toInt ∧ (S_99 62 1).toInt ≤ 21 := hS_99 62 1
        exact hk19 S_99 L_82 kaG_t102 kpI_t103 kg0_t104 kgI_t105 kzI_t107 hS_99 (by clear n37 n38 n39 n52 n53 n54 n69 n70 n71 p79 kc80 n92 n93 n94 n108 n109 n110; omega)
set_option maxHeartbeats 1000000 in
set_option maxRecDepth 100000 in
theorem t_X8_fits (S : Tr) (L : Lo) (x1 : Int32) (x2 : Int32) (hS : iR BM S) (dpI : pI S) (dg0 : gI 0 S) (dzI : zI S) (hx1 : 0 ≤ x1.toInt ∧ x1.toInt ≤ 5) : D (f_X8_fits S L x1 x2) (fun (q : Int32 × Tr × Lo) => (0 ≤ (q.1).toInt ∧ (q.1).toInt ≤ 1) ∧ (iR BM (q.2.1)) ∧ (aG 1 S (q.2.1)) ∧ (pI (q.2.1)) ∧ (gI 0 (q.2.1)) ∧ (zI (q.2.1))) := by
  unfold f_X8_fits
  have l1 : (1 : Int32).toInt = 1 := by decide
  refine D_bd (t_X8_atFirst S (1 : Int32) hS ⟨(by omega), (by omega)⟩ dpI) (fun S_1 eq3 hq2 => ?_)
  obtain ⟨p4, p5, p6, p7, p8⟩ : (iR BM S_1) ∧ (aG 1 S S_1) ∧ (gI 1 S_1) ∧ (pI S_1) ∧ (S_1 62 1 = 0) := hq2
  have k9 : aG 1 S S_1 := p5
  have kpI_t10 : pI S_1 := (pI_aG dpI p5)
  have kg0_t11 : gI 0 S_1 := (gI0_G1 hS dg0 p5)
  have kgI_t12 : gI 1 S_1 := p6
  have kzI_t13 : zI S_1 := (zI_aG dzI p5)
  have n15 : 0 ≤ (S_1 62 1).toInt ∧ (S_1 62 1).toInt ≤ 21 := p4 62 1
  have n14 : (S_1 62 1).toInt = 0 := by rw [show S_1 62 1 = 0 from p8]; decide
  refine D_bd (t_X8_plainTried S_1 p4) (fun S_16 eq18 hq17 => ?_)
  obtain ⟨p19, p20⟩ : (iR BM S_16) ∧ (aT S_1 S_16) := hq17
  have k21 : aG 1 S S_16 := aG_tr k9 (aT_G p20)
  have n22 : (S_16 62 1).toInt = (S_1 62 1).toInt := congrArg Int32.toInt (p20 62 _ rfl)
  have kpI_t23 : pI S_16 := (pI_aT kpI_t10 p20)
  have kg0_t24 : gI 0 S_16 := (gI_aT kg0_t11 p20)
  have kgI_t25 : gI 1 S_16 := (gI_aT kgI_t12 p20)
  have kzI_t26 : zI S_16 := (zI_aT kzI_t13 p20)
  have n27 : ((6 : Int32) + x1).toInt = 6 + x1.toInt := i_addK (by decide) rfl (by clear n15 n14 n22; omega) (by clear n15 n14 n22; omega)
  refine D_ck (okI_of (by clear n15 n14 n22; omega) (by clear n15 n14 n22; omega)) ?_
  refine D_lt (fun S_28 eS_28 => ?_)
  have hS_28 : iR BM S_28 := by rw [eS_28]; exact iR_setU p19 rfl
  have kaG_t29 : aG 1 S S_28 := (by rw [eS_28]; exact aG_set k21 (Wb_57 (inB_of (by clear n15 n14 n22; simp only [i_cl]; omega) (by clear n15 n14 n22; simp only [i_cl]; omega))))
  have kpI_t30 : pI S_28 := by rw [eS_28]; exact kpI_t23
  have kg0_t31 : gI 0 S_28 := by rw [eS_28]; exact kg0_t24
  have kgI_t32 : gI 1 S_28 := by rw [eS_28]; exact kgI_t25
  have kzI_t34 : zI S_28 := by rw [eS_28]; exact kzI_t26
  have n35 : (S_28 62 1).toInt = (S_16 62 1).toInt := by rw [eS_28]; rfl
  exact tl_X8_fits_L19 (S 62 1) S    2000 S_28 L kaG_t29 kpI_t30 kg0_t31 kgI_t32 kzI_t34 hS_28 (by omega)
set_option maxHeartbeats 1000000 in
set_option maxRecDepth 100000 in
theorem t_X8_isPerson (S : Tr) (x1 : Int32) (hS : iR BM S) : D (f_X8_isPerson S x1) (fun (q : Int32) => (0 ≤ q.toInt ∧ q.toInt ≤ 1) ∧ (q.toInt = 1 → 0 ≤ x1.toInt ∧ x1.toInt < (S 0 13).toInt)) := by
  unfold f_X8_isPerson
  have n1 : 0 ≤ (S 0 13).toInt ∧ (S 0 13).toInt ≤ 6 := hS 0 13
  have n3 := i_rng x1
  refine D_ite (fun c2 => ?_) (fun c2 => ?_)
  · have kc2 := tq_lt (x := x1) (y := (0 : Int32)) rfl (b := 0) (by decide) c2
    have l0 : (0 : Int32).toInt = 0 := by decide
    exact D_some (show (0 ≤ (0 : Int32).toInt ∧ (0 : Int32).toInt ≤ 1) ∧ ((0 : Int32).toInt = 1 → 0 ≤ x1.toInt ∧ x1.toInt < (S 0 13).toInt) from ⟨⟨(by clear n1 n3 kc2; omega), (by clear n1 n3 kc2; omega)⟩, (by omega)⟩)
  · have kc2 := tq_ltn (x := x1) (y := (0 : Int32)) rfl (b := 0) (by decide) c2
    refine D_ite (fun c4 => ?_) (fun c4 => ?_)
    · have kc4 := tq_le (x := (S 0 13)) (y := x1) rfl rfl c4
      have l0 : (0 : Int32).toInt = 0 := by decide
      exact D_some (show (0 ≤ (0 : Int32).toInt ∧ (0 : Int32).toInt ≤ 1) ∧ ((0 : Int32).toInt = 1 → 0 ≤ x1.toInt ∧ x1.toInt < (S 0 13).toInt) from ⟨⟨(by clear n1 n3 kc2 kc4; omega), (by clear n1 n3 kc2 kc4; omega)⟩, (by omega)⟩)
    · have kc4 := tq_len (x := (S 0 13)) (y := x1) rfl rfl c4
      have l1 : (1 : Int32).toInt = 1 := by decide
      exact D_some (show (0 ≤ (1 : Int32).toInt ∧ (1 : Int32).toInt ≤ 1) ∧ ((1 : Int32).toInt = 1 → 0 ≤ x1.toInt ∧ x1.toInt < (S 0 13).toInt) from ⟨⟨(by clear n1 n3 kc2 kc4; omega), (by clear n1 n3 kc2 kc4; omega)⟩, (by omega)⟩)
set_option maxHeartbeats 1000000 in
set_option maxRecDepth 100000 in
theorem tl_X8_got_L95 (zaG : Tr) (x1 : Int32) (hx1 : 0 ≤ x1.toInt ∧ x1.toInt ≤ 5)   (N : Nat) : ∀ (x2 : Int32) (x3 : Int32) (S : Tr) (L : Lo), aG 1 zaG S → pI S → gI 0 S → zI S → iR BM S → 0 ≤ x3.toInt ∧ x3.toInt ≤ 1000 → 1000 - x3.toInt < (N : Int) → D (lpF (fun _ _ _ _ => none) (fB_X8_got_L95 x1) N x2 x3 S L) (fun (q : Int32 × Tr × Lo) => (iR BM (q.2.1)) ∧ (aG 1 zaG (q.2.1)) ∧ (pI (q.2.1)) ∧ (gI 0 (q.2.1)) ∧ (zI (q.2.1))) := by
  induction N with
  | zero =>
    intro x2 x3 S L daG dpI dg0 dzI hS hx3 hN
    exfalso
    omega
  | succ N95 ih =>
    intro x2 x3 S L daG dpI dg0 dzI hS hx3 hN
    have hk95 : ∀ (x2 : Int32) (x3 : Int32) (S : Tr) (L : Lo), aG 1 zaG S → pI S → gI 0 S → zI S → iR BM S → 0 ≤ x3.toInt ∧ x3.toInt ≤ 1000 → 1000 - x3.toInt < (N95 : Int) → D (lpF (fun _ _ _ _ => none) (fB_X8_got_L95 x1) N95 x2 x3 S L) (fun (q : Int32 × Tr × Lo) => (iR BM (q.2.1)) ∧ (aG 1 zaG (q.2.1)) ∧ (pI (q.2.1)) ∧ (gI 0 (q.2.1)) ∧ (zI (q.2.1))) := ih
    show D (fB_X8_got_L95 x1 (lpF (fun _ _ _ _ => none) (fB_X8_got_L95 x1) N95) x2 x3 S L) _
    generalize lpF (fun _ _ _ _ => none) (fB_X8_got_L95 x1) N95 = k95 at hk95 ⊢
    have hN95 : 1000 - x3.toInt < (N95 : Int) + 1 := by omega
    clear ih
    unfold fB_X8_got_L95
    have n36 : 0 ≤ (S 0 14).toInt ∧ (S 0 14).toInt ≤ 10 := hS 0 14
    have n37 : 0 ≤ (S 0 13).toInt ∧ (S 0 13).toInt ≤ 6 := hS 0 13
    have n38 : 0 ≤ (S 0 12).toInt ∧ (S 0 12).toInt ≤ 5 := hS 0 12
    refine D_ck (okI_of (by clear hx3 hN95 hN n36 n37 n38; omega) (by clear hx3 hN95 hN n36 n37 n38; omega)) ?_
    have n40 : 0 ≤ (S 28 x1.toNatClampNeg).toInt ∧ (S 28 x1.toNatClampNeg).toInt ≤ 20 := hS 28 x1.toNatClampNeg
    refine D_ite (fun c39 => ?_) (fun c39 => ?_)
    · have kc39 := tq_le (x := (S 28 x1.toNatClampNeg)) (y := x3) rfl rfl c39
      have n41 := i_rng x2
      exact D_some (show (iR BM S) ∧ (aG 1 zaG S) ∧ (pI S) ∧ (gI 0 S) ∧ (zI S) from ⟨hS, daG, dpI, dg0, dzI⟩)
    · have kc39 := tq_len (x := (S 28 x1.toNatClampNeg)) (y := x3) rfl rfl c39
      refine D_bd3 (t_X8_fits S L x1 x3 hS dpI dg0 dzI ⟨(by clear hx3 hN95 hN n36 n37 n38 n40 kc39; omega), (by clear hx3 hN95 hN n36 n37 n38 n40 kc39; omega)⟩) (fun r42 S_43 L_44 eq46 hq45 => ?_)
      refine D_lte (y := r42) rfl ?_
      refine D_lte (y := S_43) rfl ?_
      refine D_lte (y := L_44) rfl ?_
      obtain ⟨p47, p48, p49, p50, p51, p52⟩ : (0 ≤ r42.toInt ∧ r42.toInt ≤ 1) ∧ (iR BM S_43) ∧ (aG 1 S S_43) ∧ (pI S_43) ∧ (gI 0 S_43) ∧ (zI S_43) := hq45
      have k53 : aG 1 zaG S_43 := aG_tr daG p49
      have n54 : (S_43 0 12).toInt = (S 0 12).toInt := congrArg Int32.toInt (p49 0 _ rfl)
      have n55 : (S_43 0 13).toInt = (S 0 13).toInt := congrArg Int32.toInt (p49 0 _ rfl)
      have n56 : (S_43 0 14).toInt = (S 0 14).toInt := congrArg Int32.toInt (p49 0 _ rfl)
      refine D_ite (fun c57 => ?_) (fun c57 => ?_)
      · have kc57 := tq_eq (x := r42) (y := (0 : Int32)) rfl (b := 0) (by decide) c57
        refine D_lt (fun y58 ey58 => ?_)
        have n59 := i_rng (x2 ||| 0)
        have hy58 : y58.toInt = (x2 ||| 0).toInt := by rw [ey58]
        have n61 : (x3 + 1).toInt = x3.toInt + 1 := i_addK rfl (by decide) (by clear hx1 hN95 hN n36 n37 n38 p47 n54 n55 n56 kc57 n59 hy58; omega) (by clear hx1 hN95 hN n36 n37 n38 p47 n54 n55 n56 kc57 n59 hy58; omega)
        refine D_lt (fun y60 ey60 => ?_)
        have hy60 : y60.toInt = (x3 + 1 : Int32).toInt := by rw [ey60]
        exact hk95 y58 y60 S_43 L_44 k53 p50 p51 p52 p48 ⟨(by clear hx1 hN95 hN n36 n37 n38 p47 n54 n55 n56 kc57 n59 hy58; omega), (by clear hx1 hN95 hN n36 n37 n38 p47 n54 n55 n56 kc57 n59 hy58; omega)⟩ (by clear hx1 n36 n37 n38 p47 n54 n55 n56 kc57 n59 hy58; omega)
      · have kc570 := tq_eqn (x := r42) (y := (0 : Int32)) rfl (b := 0) (by decide) c57
        have kc57 : 1 ≤ r42.toInt := (by clear hx1 hx3 hN95 hN n36 n37 n38 n40 kc39 n54 n55 n56; omega)
        clear kc570
        refine D_lt (fun y62 ey62 => ?_)
        have n63 := i_rng (x2 ||| ((1 : Int32) <<< (x3 &&& 31)))
        have hy62 : y62.toInt = (x2 ||| ((1 : Int32) <<< (x3 &&& 31))).toInt := by rw [ey62]
        have n65 : (x3 + 1).toInt = x3.toInt + 1 := i_addK rfl (by decide) (by clear hx1 hN95 hN n36 n37 n38 p47 n54 n55 n56 kc57 n63 hy62; omega) (by clear hx1 hN95 hN n36 n37 n38 p47 n54 n55 n56 kc57 n63 hy62; omega)
        refine D_lt (fun y64 ey64 => ?_)
        have hy64 : y64.toInt = (x3 + 1 : Int32).toInt := by rw [ey64]
        exact hk95 y62 y64 S_43 L_44 k53 p50 p51 p52 p48 ⟨(by clear hx1 hN95 hN n36 n37 n38 p47 n54 n55 n56 kc57 n63 hy62; omega), (by clear hx1 hN95 hN n36 n37 n38 p47 n54 n55 n56 kc57 n63 hy62; omega)⟩ (by clear hx1 n36 n37 n38 p47 n54 n55 n56 kc57 n63 hy62; omega)
set_option maxHeartbeats 1000000 in
set_option maxRecDepth 100000 in
theorem tl_X8_got_L45 (zaG : Tr) (L : Lo) (x1 : Int32) (hx1 : 0 ≤ x1.toInt ∧ x1.toInt ≤ 5)   (N : Nat) : ∀ (x2 : Int32) (S : Tr), aG 1 zaG S → pI S → gI 0 S → zI S → iR BM S → (-1) ≤ x2.toInt ∧ x2.toInt ≤ 23 → x2.toInt + 1 < (N : Int) → D (lpF (fun _ _ => none) (fB_X8_got_L45 L x1) N x2 S) (fun (q : Int32 × Tr × Lo) => (iR BM (q.2.1)) ∧ (aG 1 zaG (q.2.1)) ∧ (pI (q.2.1)) ∧ (gI 0 (q.2.1)) ∧ (zI (q.2.1))) := by
  induction N with
  | zero =>
    intro x2 S daG dpI dg0 dzI hS hx2 hN
    exfalso
    omega
  | succ N45 ih =>
    intro x2 S daG dpI dg0 dzI hS hx2 hN
    have hk45 : ∀ (x2 : Int32) (S : Tr), aG 1 zaG S → pI S → gI 0 S → zI S → iR BM S → (-1) ≤ x2.toInt ∧ x2.toInt ≤ 23 → x2.toInt + 1 < (N45 : Int) → D (lpF (fun _ _ => none) (fB_X8_got_L45 L x1) N45 x2 S) (fun (q : Int32 × Tr × Lo) => (iR BM (q.2.1)) ∧ (aG 1 zaG (q.2.1)) ∧ (pI (q.2.1)) ∧ (gI 0 (q.2.1)) ∧ (zI (q.2.1))) := ih
    show D (fB_X8_got_L45 L x1 (lpF (fun _ _ => none) (fB_X8_got_L45 L x1) N45) x2 S) _
    generalize lpF (fun _ _ => none) (fB_X8_got_L45 L x1) N45 = k45 at hk45 ⊢
    have hN45 : x2.toInt + 1 < (N45 : Int) + 1 := by omega
    clear ih
    unfold fB_X8_got_L45
    have n32 : 0 ≤ (S 0 14).toInt ∧ (S 0 14).toInt ≤ 10 := hS 0 14
    have n33 : 0 ≤ (S 0 13).toInt ∧ (S 0 13).toInt ≤ 6 := hS 0 13
    have n34 : 0 ≤ (S 0 12).toInt ∧ (S 0 12).toInt ≤ 5 := hS 0 12
    refine D_ite (fun c35 => ?_) (fun c35 => ?_)
    · have kc35 := tq_lt (x := x2) (y := (0 : Int32)) rfl (b := 0) (by decide) c35
      have l0 : (0 : Int32).toInt = 0 := by decide
      exact tl_X8_got_L95 zaG x1 ⟨(by clear hx2 hN45 hN n32 n33 n34 kc35; omega), (by clear hx2 hN45 hN n32 n33 n34 kc35; omega)⟩   2000 (0 : Int32) (0 : Int32) S L daG dpI dg0 dzI hS ⟨(by clear hx1 hx2 hN45 hN n32 n33 n34 kc35; omega), (by clear hx1 hx2 hN45 hN n32 n33 n34 kc35; omega)⟩ (by clear hx1 hx2 hN45 hN n32 n33 n34 kc35; omega)
    · have kc35 := tq_ltn (x := x2) (y := (0 : Int32)) rfl (b := 0) (by decide) c35
      refine D_ck (okI_of (by clear hx1 hN45 hN n32 n33 n34; omega) (by clear hx1 hN45 hN n32 n33 n34; omega)) ?_
      have n67 := i_rng (S 82 x2.toNatClampNeg)
      refine D_ite (fun c66 => ?_) (fun c66 => ?_)
      · have kc66 := tq_eq (x := (S 82 x2.toNatClampNeg)) (y := (0 : Int32)) rfl (b := 0) (by decide) c66
        have n69 : (x2 + (-1)).toInt = x2.toInt + (-1) := i_addK rfl (by decide) (by clear hx1 hN45 hN n32 n33 n34 n67 kc66; omega) (by clear hx1 hN45 hN n32 n33 n34 n67 kc66; omega)
        refine D_lt (fun y68 ey68 => ?_)
        have hy68 : y68.toInt = (x2 + (-1) : Int32).toInt := by rw [ey68]
        exact hk45 y68 S daG dpI dg0 dzI hS ⟨(by clear hx1 hN45 hN n32 n33 n34 n67 kc66; omega), (by clear hx1 hN45 hN n32 n33 n34 n67 kc66; omega)⟩ (by clear hx1 n32 n33 n34 n67 kc66; omega)
      · skip
        have n70 := i_mulL (a := (4 : Int32)) (b := x2) 4 (by decide) (by clear hx1 hN45 hN n32 n33 n34 n67; omega) (by clear hx1 hN45 hN n32 n33 n34 n67; omega)
        refine D_ck (okI_of (by clear hx1 hN45 hN n32 n33 n34 n67; omega) (by clear hx1 hN45 hN n32 n33 n34 n67; omega)) ?_
        have n72 := i_rng (S 81 ((4 : Int32) * x2).toNatClampNeg)
        refine D_ite (fun c71 => ?_) (fun c71 => ?_)
        · have kc71 := tq_le (x := (0 : Int32)) (y := (S 81 ((4 : Int32) * x2).toNatClampNeg)) (a := 0) (by decide) rfl c71
          have n74 : (x2 + (-1)).toInt = x2.toInt + (-1) := i_addK rfl (by decide) (by clear hx1 hN45 hN n32 n33 n34 n67 n72 kc71; omega) (by clear hx1 hN45 hN n32 n33 n34 n67 n72 kc71; omega)
          refine D_lt (fun y73 ey73 => ?_)
          have hy73 : y73.toInt = (x2 + (-1) : Int32).toInt := by rw [ey73]
          exact hk45 y73 S daG dpI dg0 dzI hS ⟨(by clear hx1 hN45 hN n32 n33 n34 n67 n72 kc71; omega), (by clear hx1 hN45 hN n32 n33 n34 n67 n72 kc71; omega)⟩ (by clear hx1 n32 n33 n34 n67 n72 kc71; omega)
        · have kc71 := tq_len (x := (0 : Int32)) (y := (S 81 ((4 : Int32) * x2).toNatClampNeg)) (a := 0) (by decide) rfl c71
          have n75 : (((4 : Int32) * x2) + 1).toInt = ((4 : Int32) * x2).toInt + 1 := i_addK rfl (by decide) (by clear hx1 hN45 hN n32 n33 n34 n67 n72 kc71; omega) (by clear hx1 hN45 hN n32 n33 n34 n67 n72 kc71; omega)
          refine D_ck (okI_of (by clear hx1 hN45 hN n32 n33 n34 n67 n72 kc71; omega) (by clear hx1 hN45 hN n32 n33 n34 n67 n72 kc71; omega)) ?_
          have n76 := zI_b (x := x2) hS ⟨(by clear hx1 hN45 hN n32 n33 n34 n67 n72 kc71; omega), (by clear hx1 hN45 hN n32 n33 n34 n67 n72 kc71; omega)⟩
          refine D_ck (okI_of (by clear hx1 hx2 hN45 hN n32 n33 n34 kc35 n67 n70 n72 kc71 n75; omega) (by clear hx1 hx2 hN45 hN n32 n33 n34 kc35 n67 n70 n72 kc71 n75; omega)) ?_
          refine D_lt (fun S_77 eS_77 => ?_)
          have hS_77 : iR BM S_77 := by rw [eS_77]; exact iR_setU hS rfl
          have kaG_t78 : aG 1 zaG S_77 := (by rw [eS_77]; exact aG_set daG (Wb_t rfl))
          have kpI_t79 : pI S_77 := by rw [eS_77]; exact dpI
          have kg0_t80 : gI 0 S_77 := by rw [eS_77]; exact dg0
          have kzI_t82 : zI S_77 := by rw [eS_77]; exact dzI
          have n83 : (S_77 0 12).toInt = (S 0 12).toInt := by rw [eS_77]; rfl
          have n84 : (S_77 0 14).toInt = (S 0 14).toInt := by rw [eS_77]; rfl
          have n85 : (S_77 0 13).toInt = (S 0 13).toInt := by rw [eS_77]; rfl
          have n87 : (x2 + (-1)).toInt = x2.toInt + (-1) := i_addK rfl (by decide) (by clear hx1 hN45 hN n32 n33 n34 n67 n72 kc71 n76 n83 n84 n85; omega) (by clear hx1 hN45 hN n32 n33 n34 n67 n72 kc71 n76 n83 n84 n85; omega)
          refine D_lt (fun y86 ey86 => ?_)
          have hy86 : y86.toInt = (x2 + (-1) : Int32).toInt := by rw [ey86]
          exact hk45 y86 S_77 kaG_t78 kpI_t79 kg0_t80 kzI_t82 hS_77 ⟨(by clear hx1 hN45 hN n32 n33 n34 n67 n72 kc71 n76 n83 n84 n85; omega), (by clear hx1 hN45 hN n32 n33 n34 n67 n72 kc71 n76 n83 n84 n85; omega)⟩ (by clear hx1 n32 n33 n34 n67 n72 kc71 n76 n83 n84 n85; omega)
set_option maxHeartbeats 1000000 in
set_option maxRecDepth 100000 in
theorem tl_X8_got_L17 (zaG : Tr) (L : Lo) (x1 : Int32) (hx1 : 0 ≤ x1.toInt ∧ x1.toInt ≤ 5)   (N : Nat) : ∀ (x2 : Int32) (S : Tr), aG 1 zaG S → pI S → gI 0 S → zI S → iR BM S → 0 ≤ x2.toInt ∧ x2.toInt ≤ 1000 → 1000 - x2.toInt < (N : Int) → D (lpF (fun _ _ => none) (fB_X8_got_L17 L x1) N x2 S) (fun (q : Int32 × Tr × Lo) => (iR BM (q.2.1)) ∧ (aG 1 zaG (q.2.1)) ∧ (pI (q.2.1)) ∧ (gI 0 (q.2.1)) ∧ (zI (q.2.1))) := by
  induction N with
  | zero =>
    intro x2 S daG dpI dg0 dzI hS hx2 hN
    exfalso
    omega
  | succ N17 ih =>
    intro x2 S daG dpI dg0 dzI hS hx2 hN
    have hk17 : ∀ (x2 : Int32) (S : Tr), aG 1 zaG S → pI S → gI 0 S → zI S → iR BM S → 0 ≤ x2.toInt ∧ x2.toInt ≤ 1000 → 1000 - x2.toInt < (N17 : Int) → D (lpF (fun _ _ => none) (fB_X8_got_L17 L x1) N17 x2 S) (fun (q : Int32 × Tr × Lo) => (iR BM (q.2.1)) ∧ (aG 1 zaG (q.2.1)) ∧ (pI (q.2.1)) ∧ (gI 0 (q.2.1)) ∧ (zI (q.2.1))) := ih
    show D (fB_X8_got_L17 L x1 (lpF (fun _ _ => none) (fB_X8_got_L17 L x1) N17) x2 S) _
    generalize lpF (fun _ _ => none) (fB_X8_got_L17 L x1) N17 = k17 at hk17 ⊢
    have hN17 : 1000 - x2.toInt < (N17 : Int) + 1 := by omega
    clear ih
    unfold fB_X8_got_L17
    have n18 : 0 ≤ (S 0 14).toInt ∧ (S 0 14).toInt ≤ 10 := hS 0 14
    have n19 : 0 ≤ (S 0 13).toInt ∧ (S 0 13).toInt ≤ 6 := hS 0 13
    have n20 : 0 ≤ (S 0 12).toInt ∧ (S 0 12).toInt ≤ 5 := hS 0 12
    refine D_bd (t_X8_knownBy S hS) (fun r21 eq23 hq22 => ?_)
    have p24 : 0 ≤ r21.toInt ∧ r21.toInt ≤ 24 := hq22
    refine D_ite (fun c25 => ?_) (fun c25 => ?_)
    · have kc25 := tq_le (x := r21) (y := x2) rfl rfl c25
      unfold fJ_X8_got_J38
      refine D_bd (t_X8_knownBy S hS) (fun r26 eq28 hq27 => ?_)
      have p29 : 0 ≤ r26.toInt ∧ r26.toInt ≤ 24 := hq27
      refine D_lt (fun y30 ey30 => ?_)
      have n31 : (r26 - 1).toInt = r26.toInt - 1 := i_subK rfl (by decide) (by clear hx1 hx2 hN17 hN n18 n19 n20 p24 kc25; omega) (by clear hx1 hx2 hN17 hN n18 n19 n20 p24 kc25; omega)
      have hy30 : y30.toInt = (r26 - 1).toInt := by rw [ey30]
      exact tl_X8_got_L45 zaG L x1 ⟨(by clear hx2 hN17 hN n18 n19 n20 p24 kc25 p29 n31 hy30; omega), (by clear hx2 hN17 hN n18 n19 n20 p24 kc25 p29 n31 hy30; omega)⟩   2000 y30 S daG dpI dg0 dzI hS ⟨(by clear hx1 hx2 hN17 hN n18 n19 n20 p24 kc25; omega), (by clear hx1 hx2 hN17 hN n18 n19 n20 p24 kc25; omega)⟩ (by clear hx1 hx2 hN17 hN n18 n19 n20 p24 kc25; omega)
    · have kc25 := tq_len (x := r21) (y := x2) rfl rfl c25
      refine D_ck (okI_of (by clear hx1 hN17 hN n18 n19 n20; omega) (by clear hx1 hN17 hN n18 n19 n20; omega)) ?_
      refine D_lt (fun S_88 eS_88 => ?_)
      have hS_88 : iR BM S_88 := by rw [eS_88]; exact iR_setU hS rfl
      have kaG_t89 : aG 1 zaG S_88 := (by rw [eS_88]; exact aG_set daG (Wb_t rfl))
      have kpI_t90 : pI S_88 := by rw [eS_88]; exact dpI
      have kg0_t91 : gI 0 S_88 := by rw [eS_88]; exact dg0
      have kzI_t93 : zI S_88 := by rw [eS_88]; exact dzI
      have n94 : (S_88 0 13).toInt = (S 0 13).toInt := by rw [eS_88]; rfl
      have n95 : (S_88 0 12).toInt = (S 0 12).toInt := by rw [eS_88]; rfl
      have n96 : (S_88 0 14).toInt = (S 0 14).toInt := by rw [eS_88]; rfl
      have n98 : (x2 + 1).toInt = x2.toInt + 1 := i_addK rfl (by decide) (by clear hx1 hN17 hN n18 n19 n20 n94 n95 n96; omega) (by clear hx1 hN17 hN n18 n19 n20 n94 n95 n96; omega)
      refine D_lt (fun y97 ey97 => ?_)
      have hy97 : y97.toInt = (x2 + 1 : Int32).toInt := by rw [ey97]
      exact hk17 y97 S_88 kaG_t89 kpI_t90 kg0_t91 kzI_t93 hS_88 ⟨(by clear hx1 hN17 hN n18 n19 n20 n94 n95 n96; omega), (by clear hx1 hN17 hN n18 n19 n20 n94 n95 n96; omega)⟩ (by clear hx1 n18 n19 n20 n94 n95 n96; omega)
set_option maxHeartbeats 1000000 in
set_option maxRecDepth 100000 in
theorem t_X8_got (S : Tr) (L : Lo) (x1 : Int32) (hS : iR BM S) (dpI : pI S) (dg0 : gI 0 S) (dzI : zI S) : D (f_X8_got S L x1) (fun (q : Int32 × Tr × Lo) => (iR BM (q.2.1)) ∧ (aG 1 S (q.2.1)) ∧ (pI (q.2.1)) ∧ (gI 0 (q.2.1)) ∧ (zI (q.2.1))) := by
  unfold f_X8_got
  refine D_lt (fun S_1 eS_1 => ?_)
  have hS_1 : iR BM S_1 := by rw [eS_1]; exact iR_setU hS rfl
  have kaG_t2 : aG 1 S S_1 := (by rw [eS_1]; exact aG_set aG_rfl (Wb_t rfl))
  have kpI_t3 : pI S_1 := by rw [eS_1]; exact dpI
  have kg0_t4 : gI 0 S_1 := by rw [eS_1]; exact dg0
  have kzI_t6 : zI S_1 := by rw [eS_1]; exact dzI
  have l0 : (0 : Int32).toInt = 0 := by decide
  have n7 : (S_1 0 2).toInt = (0 : Int32).toInt := by rw [eS_1]; rfl
  have n8 := i_rng x1
  refine D_bd (t_X8_isPerson S_1 x1 hS_1) (fun r9 eq11 hq10 => ?_)
  obtain ⟨p12, p13⟩ : (0 ≤ r9.toInt ∧ r9.toInt ≤ 1) ∧ (r9.toInt = 1 → 0 ≤ x1.toInt ∧ x1.toInt < (S_1 0 13).toInt) := hq10
  have n14 : 0 ≤ (S_1 0 14).toInt ∧ (S_1 0 14).toInt ≤ 10 := hS_1 0 14
  have n15 : 0 ≤ (S_1 0 13).toInt ∧ (S_1 0 13).toInt ≤ 6 := hS_1 0 13
  have n16 : 0 ≤ (S_1 0 12).toInt ∧ (S_1 0 12).toInt ≤ 5 := hS_1 0 12
  refine D_ite (fun c17 => ?_) (fun c17 => ?_)
  · have kc17 := tq_eq (x := r9) (y := (0 : Int32)) rfl (b := 0) (by decide) c17
    have lm1 : ((-1) : Int32).toInt = (-1) := by decide
    exact D_some (show (iR BM S_1) ∧ (aG 1 S S_1) ∧ (pI S_1) ∧ (gI 0 S_1) ∧ (zI S_1) from ⟨hS_1, kaG_t2, kpI_t3, kg0_t4, kzI_t6⟩)
  · have kc170 := tq_eqn (x := r9) (y := (0 : Int32)) rfl (b := 0) (by decide) c17
    have kc17 : 1 ≤ r9.toInt := (by clear n7 n14 n16; omega)
    clear kc170
    exact tl_X8_got_L17 S L x1 ⟨(by clear n7 n14 n16; omega), (by clear n7 n14 n16; omega)⟩   2000 (0 : Int32) S_1 kaG_t2 kpI_t3 kg0_t4 kzI_t6 hS_1 ⟨(by clear n7 n8 p12 p13 n14 n15 n16 kc17; omega), (by clear n7 n8 p12 p13 n14 n15 n16 kc17; omega)⟩ (by clear n7 n8 p12 p13 n14 n15 n16 kc17; omega)
