set_option maxHeartbeats 1000000 in
set_option maxRecDepth 100000 in
theorem tl_X8_put_84_L54 (zq : Tr) (x2 : Int32) (hx2 : 0 ≤ x2.toInt ∧ x2.toInt ≤ 1159)   (N : Nat) : ∀ (x3 : Int32) (S : Tr), 0 ≤ x3.toInt ∧ x3.toInt ≤ 6 → S = cpX (cpX (cpX zq 84 x2.toNatClampNeg 55 50) 84 (x2.toNatClampNeg + 50) 56 5) 84 (x2.toNatClampNeg + 55) 58 x3.toNatClampNeg → 1000 - x3.toInt < (N : Int) → D (lpF (fun _ _ => none) (fB_X8_put_84_L54 x2) N x3 S) (fun (q : Tr) => (q = putM zq 84 x2.toNatClampNeg)) := by
  induction N with
  | zero =>
    intro x3 S hx3 hex hN
    exfalso
    omega
  | succ N54 ih =>
    intro x3 S hx3 hex hN
    have hk54 : ∀ (x3 : Int32) (S : Tr), 0 ≤ x3.toInt ∧ x3.toInt ≤ 6 → S = cpX (cpX (cpX zq 84 x2.toNatClampNeg 55 50) 84 (x2.toNatClampNeg + 50) 56 5) 84 (x2.toNatClampNeg + 55) 58 x3.toNatClampNeg → 1000 - x3.toInt < (N54 : Int) → D (lpF (fun _ _ => none) (fB_X8_put_84_L54 x2) N54 x3 S) (fun (q : Tr) => (q = putM zq 84 x2.toNatClampNeg)) := ih
    show D (fB_X8_put_84_L54 x2 (lpF (fun _ _ => none) (fB_X8_put_84_L54 x2) N54) x3 S) _
    generalize lpF (fun _ _ => none) (fB_X8_put_84_L54 x2) N54 = k54 at hk54 ⊢
    have hN54 : 1000 - x3.toInt < (N54 : Int) + 1 := by omega
    clear ih
    unfold fB_X8_put_84_L54
    refine D_ite (fun c3 => ?_) (fun c3 => ?_)
    · have kc3 := tq_le (x := (6 : Int32)) (y := x3) (a := 6) (by decide) rfl c3
      exact D_some (show (S = putM zq 84 x2.toNatClampNeg) from (by rw [hex, show x3.toNatClampNeg = 6 from (by clear hx2 hN54 hN; simp only [i_cl]; omega)]; rfl))
    · have kc3 := tq_len (x := (6 : Int32)) (y := x3) (a := 6) (by decide) rfl c3
      refine D_ck (okI_of (by clear hx2 hN54 hN; omega) (by clear hx2 hN54 hN; omega)) ?_
      have n4 : (x2 + 55).toInt = x2.toInt + 55 := i_addK rfl (by decide) (by clear hx3 hN54 hN kc3; omega) (by clear hx3 hN54 hN kc3; omega)
      have n5 : ((x2 + 55) + x3).toInt = (x2 + 55).toInt + x3.toInt := i_addK rfl rfl (by omega) (by omega)
      refine D_ck (okI_of (by omega) (by omega)) ?_
      refine D_lt (fun S_6 eS_6 => ?_)
      have n8 : (x3 + 1).toInt = x3.toInt + 1 := i_addK rfl (by decide) (by omega) (by omega)
      refine D_lt (fun y7 ey7 => ?_)
      have hy7 : y7.toInt = (x3 + 1 : Int32).toInt := by rw [ey7]
      exact hk54 y7 S_6 ⟨(by omega), (by omega)⟩ (cpX_b hex eS_6 (by simp only [i_cl]; omega) rfl (by simp only [i_cl]; omega) (by decide)) (by omega)
set_option maxHeartbeats 1000000 in
set_option maxRecDepth 100000 in
theorem tl_X8_put_84_L27 (zq : Tr) (x2 : Int32) (hx2 : 0 ≤ x2.toInt ∧ x2.toInt ≤ 1159)   (N : Nat) : ∀ (x3 : Int32) (S : Tr), 0 ≤ x3.toInt ∧ x3.toInt ≤ 5 → S = cpX (cpX zq 84 x2.toNatClampNeg 55 50) 84 (x2.toNatClampNeg + 50) 56 x3.toNatClampNeg → 1000 - x3.toInt < (N : Int) → D (lpF (fun _ _ => none) (fB_X8_put_84_L27 x2) N x3 S) (fun (q : Tr) => (q = putM zq 84 x2.toNatClampNeg)) := by
  induction N with
  | zero =>
    intro x3 S hx3 hex hN
    exfalso
    omega
  | succ N27 ih =>
    intro x3 S hx3 hex hN
    have hk27 : ∀ (x3 : Int32) (S : Tr), 0 ≤ x3.toInt ∧ x3.toInt ≤ 5 → S = cpX (cpX zq 84 x2.toNatClampNeg 55 50) 84 (x2.toNatClampNeg + 50) 56 x3.toNatClampNeg → 1000 - x3.toInt < (N27 : Int) → D (lpF (fun _ _ => none) (fB_X8_put_84_L27 x2) N27 x3 S) (fun (q : Tr) => (q = putM zq 84 x2.toNatClampNeg)) := ih
    show D (fB_X8_put_84_L27 x2 (lpF (fun _ _ => none) (fB_X8_put_84_L27 x2) N27) x3 S) _
    generalize lpF (fun _ _ => none) (fB_X8_put_84_L27 x2) N27 = k27 at hk27 ⊢
    have hN27 : 1000 - x3.toInt < (N27 : Int) + 1 := by omega
    clear ih
    unfold fB_X8_put_84_L27
    refine D_ite (fun c2 => ?_) (fun c2 => ?_)
    · have kc2 := tq_le (x := (5 : Int32)) (y := x3) (a := 5) (by decide) rfl c2
      have l0 : (0 : Int32).toInt = 0 := by decide
      exact tl_X8_put_84_L54 zq x2 ⟨(by clear hx3 hN27 hN kc2; omega), (by clear hx3 hN27 hN kc2; omega)⟩   2000 (0 : Int32) S ⟨(by clear hx2 hx3 hN27 hN kc2; omega), (by clear hx2 hx3 hN27 hN kc2; omega)⟩ (by rw [show Int32.toNatClampNeg 0 = 0 from rfl, cpX_0, hex, show x3.toNatClampNeg = 5 from (by clear hx2 hN27 hN; simp only [i_cl]; omega)]) (by clear hx2 hx3 hN27 hN kc2; omega)
    · have kc2 := tq_len (x := (5 : Int32)) (y := x3) (a := 5) (by decide) rfl c2
      refine D_ck (okI_of (by clear hx2 hN27 hN; omega) (by clear hx2 hN27 hN; omega)) ?_
      have n9 : (x2 + 50).toInt = x2.toInt + 50 := i_addK rfl (by decide) (by clear hx3 hN27 hN kc2; omega) (by clear hx3 hN27 hN kc2; omega)
      have n10 : ((x2 + 50) + x3).toInt = (x2 + 50).toInt + x3.toInt := i_addK rfl rfl (by omega) (by omega)
      refine D_ck (okI_of (by omega) (by omega)) ?_
      refine D_lt (fun S_11 eS_11 => ?_)
      have n13 : (x3 + 1).toInt = x3.toInt + 1 := i_addK rfl (by decide) (by omega) (by omega)
      refine D_lt (fun y12 ey12 => ?_)
      have hy12 : y12.toInt = (x3 + 1 : Int32).toInt := by rw [ey12]
      exact hk27 y12 S_11 ⟨(by omega), (by omega)⟩ (cpX_b hex eS_11 (by simp only [i_cl]; omega) rfl (by simp only [i_cl]; omega) (by decide)) (by omega)
set_option maxHeartbeats 1000000 in
set_option maxRecDepth 100000 in
theorem tl_X8_put_84_L2 (zq : Tr) (x2 : Int32) (hx2 : 0 ≤ x2.toInt ∧ x2.toInt ≤ 1159)   (N : Nat) : ∀ (x3 : Int32) (S : Tr), 0 ≤ x3.toInt ∧ x3.toInt ≤ 50 → S = cpX zq 84 x2.toNatClampNeg 55 x3.toNatClampNeg → 1000 - x3.toInt < (N : Int) → D (lpF (fun _ _ => none) (fB_X8_put_84_L2 x2) N x3 S) (fun (q : Tr) => (q = putM zq 84 x2.toNatClampNeg)) := by
  induction N with
  | zero =>
    intro x3 S hx3 hex hN
    exfalso
    omega
  | succ N2 ih =>
    intro x3 S hx3 hex hN
    have hk2 : ∀ (x3 : Int32) (S : Tr), 0 ≤ x3.toInt ∧ x3.toInt ≤ 50 → S = cpX zq 84 x2.toNatClampNeg 55 x3.toNatClampNeg → 1000 - x3.toInt < (N2 : Int) → D (lpF (fun _ _ => none) (fB_X8_put_84_L2 x2) N2 x3 S) (fun (q : Tr) => (q = putM zq 84 x2.toNatClampNeg)) := ih
    show D (fB_X8_put_84_L2 x2 (lpF (fun _ _ => none) (fB_X8_put_84_L2 x2) N2) x3 S) _
    generalize lpF (fun _ _ => none) (fB_X8_put_84_L2 x2) N2 = k2 at hk2 ⊢
    have hN2 : 1000 - x3.toInt < (N2 : Int) + 1 := by omega
    clear ih
    unfold fB_X8_put_84_L2
    refine D_ite (fun c1 => ?_) (fun c1 => ?_)
    · have kc1 := tq_le (x := (50 : Int32)) (y := x3) (a := 50) (by decide) rfl c1
      have l0 : (0 : Int32).toInt = 0 := by decide
      exact tl_X8_put_84_L27 zq x2 ⟨(by clear hx3 hN2 hN kc1; omega), (by clear hx3 hN2 hN kc1; omega)⟩   2000 (0 : Int32) S ⟨(by clear hx2 hx3 hN2 hN kc1; omega), (by clear hx2 hx3 hN2 hN kc1; omega)⟩ (by rw [show Int32.toNatClampNeg 0 = 0 from rfl, cpX_0, hex, show x3.toNatClampNeg = 50 from (by clear hx2 hN2 hN; simp only [i_cl]; omega)]) (by clear hx2 hx3 hN2 hN kc1; omega)
    · have kc1 := tq_len (x := (50 : Int32)) (y := x3) (a := 50) (by decide) rfl c1
      refine D_ck (okI_of (by clear hx2 hN2 hN; omega) (by clear hx2 hN2 hN; omega)) ?_
      have n14 : (x2 + x3).toInt = x2.toInt + x3.toInt := i_addK rfl rfl (by omega) (by omega)
      refine D_ck (okI_of (by omega) (by omega)) ?_
      refine D_lt (fun S_15 eS_15 => ?_)
      have n17 : (x3 + 1).toInt = x3.toInt + 1 := i_addK rfl (by decide) (by omega) (by omega)
      refine D_lt (fun y16 ey16 => ?_)
      have hy16 : y16.toInt = (x3 + 1 : Int32).toInt := by rw [ey16]
      exact hk2 y16 S_15 ⟨(by omega), (by omega)⟩ (cpX_b hex eS_15 (by simp only [i_cl]; omega) rfl (by simp only [i_cl]; omega) (by decide)) (by omega)
set_option maxHeartbeats 1000000 in
set_option maxRecDepth 100000 in
theorem t_X8_put_84 (S : Tr) (x2 : Int32) (hx2 : 0 ≤ x2.toInt ∧ x2.toInt ≤ 1159) : D (f_X8_put_84 S x2) (fun (q : Tr) => (q = putM S 84 x2.toNatClampNeg)) := by
  unfold f_X8_put_84
  have l0 : (0 : Int32).toInt = 0 := by decide
  exact tl_X8_put_84_L2 S x2 ⟨(by omega), (by omega)⟩   2000 (0 : Int32) S ⟨(by omega), (by omega)⟩ cpX_0.symm (by omega)
set_option maxHeartbeats 1000000 in
set_option maxRecDepth 100000 in
theorem t_X8_isPlace (S : Tr) (x1 : Int32) (hS : iR BM S) : D (f_X8_isPlace S x1) (fun (q : Int32) => (0 ≤ q.toInt ∧ q.toInt ≤ 1) ∧ (q.toInt = 1 → 0 ≤ x1.toInt ∧ x1.toInt < (S 0 12).toInt)) := by
  unfold f_X8_isPlace
  have n1 : 0 ≤ (S 0 12).toInt ∧ (S 0 12).toInt ≤ 5 := hS 0 12
  have n3 := i_rng x1
  refine D_ite (fun c2 => ?_) (fun c2 => ?_)
  · have kc2 := tq_lt (x := x1) (y := (0 : Int32)) rfl (b := 0) (by decide) c2
    have l0 : (0 : Int32).toInt = 0 := by decide
    exact D_some (show (0 ≤ (0 : Int32).toInt ∧ (0 : Int32).toInt ≤ 1) ∧ ((0 : Int32).toInt = 1 → 0 ≤ x1.toInt ∧ x1.toInt < (S 0 12).toInt) from ⟨⟨(by clear n1 n3 kc2; omega), (by clear n1 n3 kc2; omega)⟩, (by omega)⟩)
  · have kc2 := tq_ltn (x := x1) (y := (0 : Int32)) rfl (b := 0) (by decide) c2
    refine D_ite (fun c4 => ?_) (fun c4 => ?_)
    · have kc4 := tq_le (x := (S 0 12)) (y := x1) rfl rfl c4
      have l0 : (0 : Int32).toInt = 0 := by decide
      exact D_some (show (0 ≤ (0 : Int32).toInt ∧ (0 : Int32).toInt ≤ 1) ∧ ((0 : Int32).toInt = 1 → 0 ≤ x1.toInt ∧ x1.toInt < (S 0 12).toInt) from ⟨⟨(by clear n1 n3 kc2 kc4; omega), (by clear n1 n3 kc2 kc4; omega)⟩, (by omega)⟩)
    · have kc4 := tq_len (x := (S 0 12)) (y := x1) rfl rfl c4
      have l1 : (1 : Int32).toInt = 1 := by decide
      exact D_some (show (0 ≤ (1 : Int32).toInt ∧ (1 : Int32).toInt ≤ 1) ∧ ((1 : Int32).toInt = 1 → 0 ≤ x1.toInt ∧ x1.toInt < (S 0 12).toInt) from ⟨⟨(by clear n1 n3 kc2 kc4; omega), (by clear n1 n3 kc2 kc4; omega)⟩, (by omega)⟩)
set_option maxHeartbeats 1000000 in
set_option maxRecDepth 100000 in
theorem tl_X8_put_86_L54 (zq : Tr) (x2 : Int32) (hx2 : 0 ≤ x2.toInt ∧ x2.toInt ≤ 0)   (N : Nat) : ∀ (x3 : Int32) (S : Tr), 0 ≤ x3.toInt ∧ x3.toInt ≤ 6 → S = cpX (cpX (cpX zq 86 x2.toNatClampNeg 55 50) 86 (x2.toNatClampNeg + 50) 56 5) 86 (x2.toNatClampNeg + 55) 58 x3.toNatClampNeg → 1000 - x3.toInt < (N : Int) → D (lpF (fun _ _ => none) (fB_X8_put_86_L54 x2) N x3 S) (fun (q : Tr) => (q = putM zq 86 x2.toNatClampNeg)) := by
  induction N with
  | zero =>
    intro x3 S hx3 hex hN
    exfalso
    omega
  | succ N54 ih =>
    intro x3 S hx3 hex hN
    have hk54 : ∀ (x3 : Int32) (S : Tr), 0 ≤ x3.toInt ∧ x3.toInt ≤ 6 → S = cpX (cpX (cpX zq 86 x2.toNatClampNeg 55 50) 86 (x2.toNatClampNeg + 50) 56 5) 86 (x2.toNatClampNeg + 55) 58 x3.toNatClampNeg → 1000 - x3.toInt < (N54 : Int) → D (lpF (fun _ _ => none) (fB_X8_put_86_L54 x2) N54 x3 S) (fun (q : Tr) => (q = putM zq 86 x2.toNatClampNeg)) := ih
    show D (fB_X8_put_86_L54 x2 (lpF (fun _ _ => none) (fB_X8_put_86_L54 x2) N54) x3 S) _
    generalize lpF (fun _ _ => none) (fB_X8_put_86_L54 x2) N54 = k54 at hk54 ⊢
    have hN54 : 1000 - x3.toInt < (N54 : Int) + 1 := by omega
    clear ih
    unfold fB_X8_put_86_L54
    refine D_ite (fun c3 => ?_) (fun c3 => ?_)
    · have kc3 := tq_le (x := (6 : Int32)) (y := x3) (a := 6) (by decide) rfl c3
      exact D_some (show (S = putM zq 86 x2.toNatClampNeg) from (by rw [hex, show x3.toNatClampNeg = 6 from (by clear hx2 hN54 hN; simp only [i_cl]; omega)]; rfl))
    · have kc3 := tq_len (x := (6 : Int32)) (y := x3) (a := 6) (by decide) rfl c3
      refine D_ck (okI_of (by clear hx2 hN54 hN; omega) (by clear hx2 hN54 hN; omega)) ?_
      have n4 : (x2 + 55).toInt = x2.toInt + 55 := i_addK rfl (by decide) (by clear hx3 hN54 hN kc3; omega) (by clear hx3 hN54 hN kc3; omega)
      have n5 : ((x2 + 55) + x3).toInt = (x2 + 55).toInt + x3.toInt := i_addK rfl rfl (by omega) (by omega)
      refine D_ck (okI_of (by omega) (by omega)) ?_
      refine D_lt (fun S_6 eS_6 => ?_)
      have n8 : (x3 + 1).toInt = x3.toInt + 1 := i_addK rfl (by decide) (by omega) (by omega)
      refine D_lt (fun y7 ey7 => ?_)
      have hy7 : y7.toInt = (x3 + 1 : Int32).toInt := by rw [ey7]
      exact hk54 y7 S_6 ⟨(by omega), (by omega)⟩ (cpX_b hex eS_6 (by simp only [i_cl]; omega) rfl (by simp only [i_cl]; omega) (by decide)) (by omega)
set_option maxHeartbeats 1000000 in
set_option maxRecDepth 100000 in
theorem tl_X8_put_86_L27 (zq : Tr) (x2 : Int32) (hx2 : 0 ≤ x2.toInt ∧ x2.toInt ≤ 0)   (N : Nat) : ∀ (x3 : Int32) (S : Tr), 0 ≤ x3.toInt ∧ x3.toInt ≤ 5 → S = cpX (cpX zq 86 x2.toNatClampNeg 55 50) 86 (x2.toNatClampNeg + 50) 56 x3.toNatClampNeg → 1000 - x3.toInt < (N : Int) → D (lpF (fun _ _ => none) (fB_X8_put_86_L27 x2) N x3 S) (fun (q : Tr) => (q = putM zq 86 x2.toNatClampNeg)) := by
  induction N with
  | zero =>
    intro x3 S hx3 hex hN
    exfalso
    omega
  | succ N27 ih =>
    intro x3 S hx3 hex hN
    have hk27 : ∀ (x3 : Int32) (S : Tr), 0 ≤ x3.toInt ∧ x3.toInt ≤ 5 → S = cpX (cpX zq 86 x2.toNatClampNeg 55 50) 86 (x2.toNatClampNeg + 50) 56 x3.toNatClampNeg → 1000 - x3.toInt < (N27 : Int) → D (lpF (fun _ _ => none) (fB_X8_put_86_L27 x2) N27 x3 S) (fun (q : Tr) => (q = putM zq 86 x2.toNatClampNeg)) := ih
    show D (fB_X8_put_86_L27 x2 (lpF (fun _ _ => none) (fB_X8_put_86_L27 x2) N27) x3 S) _
    generalize lpF (fun _ _ => none) (fB_X8_put_86_L27 x2) N27 = k27 at hk27 ⊢
    have hN27 : 1000 - x3.toInt < (N27 : Int) + 1 := by omega
    clear ih
    unfold fB_X8_put_86_L27
    refine D_ite (fun c2 => ?_) (fun c2 => ?_)
    · have kc2 := tq_le (x := (5 : Int32)) (y := x3) (a := 5) (by decide) rfl c2
      have l0 : (0 : Int32).toInt = 0 := by decide
      exact tl_X8_put_86_L54 zq x2 ⟨(by clear hx3 hN27 hN kc2; omega), (by clear hx3 hN27 hN kc2; omega)⟩   2000 (0 : Int32) S ⟨(by clear hx2 hx3 hN27 hN kc2; omega), (by clear hx2 hx3 hN27 hN kc2; omega)⟩ (by rw [show Int32.toNatClampNeg 0 = 0 from rfl, cpX_0, hex, show x3.toNatClampNeg = 5 from (by clear hx2 hN27 hN; simp only [i_cl]; omega)]) (by clear hx2 hx3 hN27 hN kc2; omega)
    · have kc2 := tq_len (x := (5 : Int32)) (y := x3) (a := 5) (by decide) rfl c2
      refine D_ck (okI_of (by clear hx2 hN27 hN; omega) (by clear hx2 hN27 hN; omega)) ?_
      have n9 : (x2 + 50).toInt = x2.toInt + 50 := i_addK rfl (by decide) (by clear hx3 hN27 hN kc2; omega) (by clear hx3 hN27 hN kc2; omega)
      have n10 : ((x2 + 50) + x3).toInt = (x2 + 50).toInt + x3.toInt := i_addK rfl rfl (by omega) (by omega)
      refine D_ck (okI_of (by omega) (by omega)) ?_
      refine D_lt (fun S_11 eS_11 => ?_)
      have n13 : (x3 + 1).toInt = x3.toInt + 1 := i_addK rfl (by decide) (by omega) (by omega)
      refine D_lt (fun y12 ey12 => ?_)
      have hy12 : y12.toInt = (x3 + 1 : Int32).toInt := by rw [ey12]
      exact hk27 y12 S_11 ⟨(by omega), (by omega)⟩ (cpX_b hex eS_11 (by simp only [i_cl]; omega) rfl (by simp only [i_cl]; omega) (by decide)) (by omega)
set_option maxHeartbeats 1000000 in
set_option maxRecDepth 100000 in
theorem tl_X8_put_86_L2 (zq : Tr) (x2 : Int32) (hx2 : 0 ≤ x2.toInt ∧ x2.toInt ≤ 0)   (N : Nat) : ∀ (x3 : Int32) (S : Tr), 0 ≤ x3.toInt ∧ x3.toInt ≤ 50 → S = cpX zq 86 x2.toNatClampNeg 55 x3.toNatClampNeg → 1000 - x3.toInt < (N : Int) → D (lpF (fun _ _ => none) (fB_X8_put_86_L2 x2) N x3 S) (fun (q : Tr) => (q = putM zq 86 x2.toNatClampNeg)) := by
  induction N with
  | zero =>
    intro x3 S hx3 hex hN
    exfalso
    omega
  | succ N2 ih =>
    intro x3 S hx3 hex hN
    have hk2 : ∀ (x3 : Int32) (S : Tr), 0 ≤ x3.toInt ∧ x3.toInt ≤ 50 → S = cpX zq 86 x2.toNatClampNeg 55 x3.toNatClampNeg → 1000 - x3.toInt < (N2 : Int) → D (lpF (fun _ _ => none) (fB_X8_put_86_L2 x2) N2 x3 S) (fun (q : Tr) => (q = putM zq 86 x2.toNatClampNeg)) := ih
    show D (fB_X8_put_86_L2 x2 (lpF (fun _ _ => none) (fB_X8_put_86_L2 x2) N2) x3 S) _
    generalize lpF (fun _ _ => none) (fB_X8_put_86_L2 x2) N2 = k2 at hk2 ⊢
    have hN2 : 1000 - x3.toInt < (N2 : Int) + 1 := by omega
    clear ih
    unfold fB_X8_put_86_L2
    refine D_ite (fun c1 => ?_) (fun c1 => ?_)
    · have kc1 := tq_le (x := (50 : Int32)) (y := x3) (a := 50) (by decide) rfl c1
      have l0 : (0 : Int32).toInt = 0 := by decide
      exact tl_X8_put_86_L27 zq x2 ⟨(by clear hx3 hN2 hN kc1; omega), (by clear hx3 hN2 hN kc1; omega)⟩   2000 (0 : Int32) S ⟨(by clear hx2 hx3 hN2 hN kc1; omega), (by clear hx2 hx3 hN2 hN kc1; omega)⟩ (by rw [show Int32.toNatClampNeg 0 = 0 from rfl, cpX_0, hex, show x3.toNatClampNeg = 50 from (by clear hx2 hN2 hN; simp only [i_cl]; omega)]) (by clear hx2 hx3 hN2 hN kc1; omega)
    · have kc1 := tq_len (x := (50 : Int32)) (y := x3) (a := 50) (by decide) rfl c1
      refine D_ck (okI_of (by clear hx2 hN2 hN; omega) (by clear hx2 hN2 hN; omega)) ?_
      have n14 : (x2 + x3).toInt = x2.toInt + x3.toInt := i_addK rfl rfl (by omega) (by omega)
      refine D_ck (okI_of (by omega) (by omega)) ?_
      refine D_lt (fun S_15 eS_15 => ?_)
      have n17 : (x3 + 1).toInt = x3.toInt + 1 := i_addK rfl (by decide) (by omega) (by omega)
      refine D_lt (fun y16 ey16 => ?_)
      have hy16 : y16.toInt = (x3 + 1 : Int32).toInt := by rw [ey16]
      exact hk2 y16 S_15 ⟨(by omega), (by omega)⟩ (cpX_b hex eS_15 (by simp only [i_cl]; omega) rfl (by simp only [i_cl]; omega) (by decide)) (by omega)
set_option maxHeartbeats 1000000 in
set_option maxRecDepth 100000 in
theorem t_X8_put_86 (S : Tr) (x2 : Int32) (hx2 : 0 ≤ x2.toInt ∧ x2.toInt ≤ 0) : D (f_X8_put_86 S x2) (fun (q : Tr) => (q = putM S 86 x2.toNatClampNeg)) := by
  unfold f_X8_put_86
  have l0 : (0 : Int32).toInt = 0 := by decide
  exact tl_X8_put_86_L2 S x2 ⟨(by omega), (by omega)⟩   2000 (0 : Int32) S ⟨(by omega), (by omega)⟩ cpX_0.symm (by omega)
set_option maxHeartbeats 1000000 in
set_option maxRecDepth 100000 in
theorem t_X8_law (S : Tr) (L : Lo) (x1 : Int32) (x2 : Int32) (hS : iR BM S) (dpI : pI S) (dg0 : gI 0 S) : D (f_X8_law S L x1 x2) (fun (q : Int64 × Tr × Lo) => (iR BM (q.2.1)) ∧ (aT S (q.2.1)) ∧ (pI (q.2.1)) ∧ (gI 0 (q.2.1))) := by
  unfold f_X8_law
  refine D_lt (fun S_1 eS_1 => ?_)
  have hS_1 : iR BM S_1 := by rw [eS_1]; exact iR_setU hS rfl
  have kaT_t2 : aT S S_1 := (by rw [eS_1]; exact aT_set aT_rfl rfl)
  have kpI_t3 : pI S_1 := by rw [eS_1]; exact dpI
  have kg0_t4 : gI 0 S_1 := by rw [eS_1]; exact dg0
  have l0 : (0 : Int32).toInt = 0 := by decide
  have n5 : (S_1 0 2).toInt = (0 : Int32).toInt := by rw [eS_1]; rfl
  have n6 := i_rng x1
  have l2 : (2 : Int32).toInt = 2 := by decide
  refine D_bd (t_X8_isIn x1 (0 : Int32) (2 : Int32) ) (fun r7 eq9 hq8 => ?_)
  obtain ⟨p10, p11⟩ : (0 ≤ r7.toInt ∧ r7.toInt ≤ 1) ∧ (r7.toInt = 1 → (0 : Int32).toInt ≤ x1.toInt ∧ x1.toInt ≤ (2 : Int32).toInt) := hq8
  refine D_ite (fun c12 => ?_) (fun c12 => ?_)
  · have kc12 := tq_eq (x := r7) (y := (0 : Int32)) rfl (b := 0) (by decide) c12
    exact D_some (show (iR BM S_1) ∧ (aT S S_1) ∧ (pI S_1) ∧ (gI 0 S_1) from ⟨hS_1, kaT_t2, kpI_t3, kg0_t4⟩)
  · have kc120 := tq_eqn (x := r7) (y := (0 : Int32)) rfl (b := 0) (by decide) c12
    have kc12 : 1 ≤ r7.toInt := (by omega)
    clear kc120
    refine D_ck (okI_of (by omega) (by omega)) ?_
    have n14 := i_rng (S_1 36 x1.toNatClampNeg)
    refine D_ite (fun c13 => ?_) (fun c13 => ?_)
    · have kc13 := tq_eq (x := (S_1 36 x1.toNatClampNeg)) (y := (0 : Int32)) rfl (b := 0) (by decide) c13
      exact D_some (show (iR BM S_1) ∧ (aT S S_1) ∧ (pI S_1) ∧ (gI 0 S_1) from ⟨hS_1, kaT_t2, kpI_t3, kg0_t4⟩)
    · skip
      have n15 := i_rng x2
      refine D_bd (t_X8_isPiece S_1 x2 hS_1) (fun r16 eq18 hq17 => ?_)
      obtain ⟨p19, p20⟩ : (0 ≤ r16.toInt ∧ r16.toInt ≤ 1) ∧ (r16.toInt = 1 → 0 ≤ x2.toInt ∧ x2.toInt < (S_1 0 14).toInt) := hq17
      have n21 : 0 ≤ (S_1 0 14).toInt ∧ (S_1 0 14).toInt ≤ 10 := hS_1 0 14
      have n22 : 0 ≤ (S_1 0 13).toInt ∧ (S_1 0 13).toInt ≤ 6 := hS_1 0 13
      have n23 : 0 ≤ (S_1 0 12).toInt ∧ (S_1 0 12).toInt ≤ 5 := hS_1 0 12
      refine D_ite (fun c24 => ?_) (fun c24 => ?_)
      · have kc24 := tq_eq (x := r16) (y := (0 : Int32)) rfl (b := 0) (by decide) c24
        exact D_some (show (iR BM S_1) ∧ (aT S S_1) ∧ (pI S_1) ∧ (gI 0 S_1) from ⟨hS_1, kaT_t2, kpI_t3, kg0_t4⟩)
      · have kc240 := tq_eqn (x := r16) (y := (0 : Int32)) rfl (b := 0) (by decide) c24
        have kc24 : 1 ≤ r16.toInt := (by clear n5 n6 p10 p11 kc12 n14 n22 n23; omega)
        clear kc240
        refine D_ck (okI_of (by clear n5 n6 p10 p11 kc12 n14 n22 n23; omega) (by clear n5 n6 p10 p11 kc12 n14 n22 n23; omega)) ?_
        have n26 : 0 ≤ (S_1 53 x2.toNatClampNeg).toInt ∧ (S_1 53 x2.toNatClampNeg).toInt ≤ 5 := hS_1 53 x2.toNatClampNeg
        refine D_ite (fun c25 => ?_) (fun c25 => ?_)
        · have kc25 := tq_eq (x := (S_1 53 x2.toNatClampNeg)) (y := (1 : Int32)) rfl (b := 1) (by decide) c25
          refine D_bd (t_X8_plainTried S_1 hS_1) (fun S_27 eq29 hq28 => ?_)
          obtain ⟨p30, p31⟩ : (iR BM S_27) ∧ (aT S_1 S_27) := hq28
          have k32 : aT S S_27 := aT_tr kaT_t2 p31
          have n33 : (S_27 0 12).toInt = (S_1 0 12).toInt := congrArg Int32.toInt (p31 0 _ rfl)
          have n34 : (S_27 0 13).toInt = (S_1 0 13).toInt := congrArg Int32.toInt (p31 0 _ rfl)
          have n35 : (S_27 0 14).toInt = (S_1 0 14).toInt := congrArg Int32.toInt (p31 0 _ rfl)
          have kpI_t36 : pI S_27 := (pI_aT kpI_t3 p31)
          have kg0_t37 : gI 0 S_27 := (gI_aT kg0_t4 p31)
          have n38 : 0 ≤ (S_27 30 x2.toNatClampNeg).toInt ∧ (S_27 30 x2.toNatClampNeg).toInt ≤ 5 := p30 30 x2.toNatClampNeg
          refine D_bd (t_X8_layNames S_27 L (0 : Int32) x2 (S_27 30 x2.toNatClampNeg) p30 ⟨(by clear n5 n6 p10 p11 kc12 n14 n15 p19 p20 n21 n22 n23 kc24 n26 kc25 n33 n34 n35 n38; omega), (by clear n5 n6 p10 p11 kc12 n14 n15 p19 p20 n21 n22 n23 kc24 n26 kc25 n33 n34 n35 n38; omega)⟩ ⟨(by clear n5 n6 p10 p11 kc12 n14 n22 n23 n26 kc25 n33 n34 n38; omega), (by clear n5 n6 p10 p11 kc12 n14 n22 n23 n26 kc25 n33 n34 n38; omega)⟩ ⟨(by clear n5 n6 p10 p11 kc12 n14 n15 p19 p20 n21 n22 n23 kc24 n26 kc25 n33 n34 n35; omega), (by clear n5 n6 p10 p11 kc12 n14 n15 p19 p20 n21 n22 n23 kc24 n26 kc25 n33 n34 n35; omega)⟩ kg0_t37.1 (ly_of (x1 := 0) kg0_t37 (by decide) ⟨(by clear n5 n6 p10 p11 kc12 n14 n22 n23 n26 kc25 n33 n34 n38; omega), (by clear n5 n6 p10 p11 kc12 n14 n22 n23 n26 kc25 n33 n34 n38; omega)⟩ (by rw [show ((10 : Int32) * 0) = 0 from by decide, Int32.zero_add]; rw [p31 53 _ rfl]; exact c25))) (fun L_39 eq41 hq40 => ?_)
          refine D_bd3 (t_X8_lawOf S_27 L_39 x1 p30 kpI_t36 ⟨(by clear n5 n14 n15 p19 p20 n21 n22 n23 kc24 n26 kc25 n33 n34 n35 n38; omega), (by clear n5 n14 n15 p19 p20 n21 n22 n23 kc24 n26 kc25 n33 n34 n35 n38; omega)⟩ (kpI_t36.2.1 x1.toNatClampNeg (i_n (by omega) (by omega)) (by rw [p31 36 _ rfl]; assumption))) (fun r42 S_43 L_44 eq46 hq45 => ?_)
          refine D_lte (y := r42) rfl ?_
          refine D_lte (y := S_43) rfl ?_
          refine D_lte (y := L_44) rfl ?_
          obtain ⟨p47, p48, p49⟩ : (iR BM S_43) ∧ (aT S_27 S_43) ∧ (pI S_43) := hq45
          have k50 : aT S S_43 := aT_tr k32 p48
          have n51 : (S_43 0 12).toInt = (S_27 0 12).toInt := congrArg Int32.toInt (p48 0 _ rfl)
          have n52 : (S_43 0 13).toInt = (S_27 0 13).toInt := congrArg Int32.toInt (p48 0 _ rfl)
          have n53 : (S_43 0 14).toInt = (S_27 0 14).toInt := congrArg Int32.toInt (p48 0 _ rfl)
          have kg0_t54 : gI 0 S_43 := (gI_aT kg0_t37 p48)
          have n56 : 0 ≤ (S_43 0 51).toInt ∧ (S_43 0 51).toInt ≤ 1 := p47 0 51
          refine D_ite (fun c55 => ?_) (fun c55 => ?_)
          · have kc55 := tq_eq (x := (S_43 0 51)) (y := (0 : Int32)) rfl (b := 0) (by decide) c55
            exact D_some (show (iR BM S_43) ∧ (aT S S_43) ∧ (pI S_43) ∧ (gI 0 S_43) from ⟨p47, k50, p49, kg0_t54⟩)
          · have kc550 := tq_eqn (x := (S_43 0 51)) (y := (0 : Int32)) rfl (b := 0) (by decide) c55
            have kc55 : 1 ≤ (S_43 0 51).toInt := (by clear n5 n6 p10 p11 kc12 n14 n15 p19 p20 n21 n22 n23 kc24 n26 kc25 n33 n34 n35 n38 n51 n52 n53; omega)
            clear kc550
            exact D_some (show (iR BM S_43) ∧ (aT S S_43) ∧ (pI S_43) ∧ (gI 0 S_43) from ⟨p47, k50, p49, kg0_t54⟩)
        · skip
          exact D_some (show (iR BM S_1) ∧ (aT S S_1) ∧ (pI S_1) ∧ (gI 0 S_1) from ⟨hS_1, kaT_t2, kpI_t3, kg0_t4⟩)
set_option maxHeartbeats 1000000 in
set_option maxRecDepth 100000 in
theorem tl_X8_powerOf_L4 (x0 : Int32) (x1 : Int32) (hx0 : 0 ≤ x0.toInt ∧ x0.toInt ≤ 5) (hx1 : (-10) ≤ x1.toInt ∧ x1.toInt ≤ 4)   (N : Nat) : ∀ (x2 : Int32) (x3 : Int32), 0 ≤ x3.toInt ∧ x3.toInt ≤ 1000 → (0 ≤ x2.toInt ∧ (x3.toInt = 0 ∧ x2.toInt = 1 ∨ x3.toInt = 1 ∧ x2.toInt ≤ 5 ∨ x3.toInt = 2 ∧ x2.toInt ≤ 25 ∨ x3.toInt = 3 ∧ x2.toInt ≤ 125 ∨ x3.toInt = 4 ∧ x2.toInt ≤ 625) ∧ (1 ≤ x0.toInt → 1 ≤ x2.toInt) ∧ (1 ≤ x3.toInt → x0.toInt = 0 → x2.toInt = 0)) → 1000 - x3.toInt < (N : Int) → D (lpF (fun _ _ => none) (fB_X8_powerOf_L4 x0 x1) N x2 x3) (fun (q : Int32) => (0 ≤ q.toInt ∧ q.toInt ≤ 625) ∧ (1 ≤ x0.toInt → 1 ≤ q.toInt) ∧ (1 ≤ x1.toInt → x0.toInt = 0 → q.toInt = 0)) := by
  induction N with
  | zero =>
    intro x2 x3 hx3 hp hN
    exfalso
    omega
  | succ N4 ih =>
    intro x2 x3 hx3 hp hN
    have hk4 : ∀ (x2 : Int32) (x3 : Int32), 0 ≤ x3.toInt ∧ x3.toInt ≤ 1000 → (0 ≤ x2.toInt ∧ (x3.toInt = 0 ∧ x2.toInt = 1 ∨ x3.toInt = 1 ∧ x2.toInt ≤ 5 ∨ x3.toInt = 2 ∧ x2.toInt ≤ 25 ∨ x3.toInt = 3 ∧ x2.toInt ≤ 125 ∨ x3.toInt = 4 ∧ x2.toInt ≤ 625) ∧ (1 ≤ x0.toInt → 1 ≤ x2.toInt) ∧ (1 ≤ x3.toInt → x0.toInt = 0 → x2.toInt = 0)) → 1000 - x3.toInt < (N4 : Int) → D (lpF (fun _ _ => none) (fB_X8_powerOf_L4 x0 x1) N4 x2 x3) (fun (q : Int32) => (0 ≤ q.toInt ∧ q.toInt ≤ 625) ∧ (1 ≤ x0.toInt → 1 ≤ q.toInt) ∧ (1 ≤ x1.toInt → x0.toInt = 0 → q.toInt = 0)) := ih
    show D (fB_X8_powerOf_L4 x0 x1 (lpF (fun _ _ => none) (fB_X8_powerOf_L4 x0 x1) N4) x2 x3) _
    generalize lpF (fun _ _ => none) (fB_X8_powerOf_L4 x0 x1) N4 = k4 at hk4 ⊢
    have hN4 : 1000 - x3.toInt < (N4 : Int) + 1 := by omega
    clear ih
    unfold fB_X8_powerOf_L4
    refine D_ite (fun c1 => ?_) (fun c1 => ?_)
    · have kc1 := tq_le (x := x1) (y := x3) rfl rfl c1
      have n2 := i_rng x2
      exact D_some (show (0 ≤ x2.toInt ∧ x2.toInt ≤ 625) ∧ (1 ≤ x0.toInt → 1 ≤ x2.toInt) ∧ (1 ≤ x1.toInt → x0.toInt = 0 → x2.toInt = 0) from ⟨(by omega), (by omega), (by omega)⟩)
    · have kc1 := tq_len (x := x1) (y := x3) rfl rfl c1
      have n3 := i_mul5 (a := x2) (b := x0) (by omega) (by omega) (by omega) (by omega)
      have n4 := i_mul1 (a := x2) (b := x0) (by omega) (by omega) (by omega)
      refine D_lt (fun y5 ey5 => ?_)
      have hy5 : y5.toInt = (x2 * x0).toInt := by rw [ey5]
      have n7 : (x3 + 1).toInt = x3.toInt + 1 := i_addK rfl (by decide) (by omega) (by omega)
      refine D_lt (fun y6 ey6 => ?_)
      have hy6 : y6.toInt = (x3 + 1 : Int32).toInt := by rw [ey6]
      exact hk4 y5 y6 ⟨(by omega), (by omega)⟩ (by omega) (by omega)
set_option maxHeartbeats 1000000 in
set_option maxRecDepth 100000 in
theorem t_X8_powerOf (x0 : Int32) (x1 : Int32) (hx0 : 0 ≤ x0.toInt ∧ x0.toInt ≤ 5) (hx1 : (-10) ≤ x1.toInt ∧ x1.toInt ≤ 4) : D (f_X8_powerOf x0 x1) (fun (q : Int32) => (0 ≤ q.toInt ∧ q.toInt ≤ 625) ∧ (1 ≤ x0.toInt → 1 ≤ q.toInt) ∧ (1 ≤ x1.toInt → x0.toInt = 0 → q.toInt = 0)) := by
  unfold f_X8_powerOf
  have l1 : (1 : Int32).toInt = 1 := by decide
  have l0 : (0 : Int32).toInt = 0 := by decide
  exact tl_X8_powerOf_L4 x0 x1 ⟨(by omega), (by omega)⟩ ⟨(by omega), (by omega)⟩   2000 (1 : Int32) (0 : Int32) ⟨(by omega), (by omega)⟩ (by omega) (by omega)
set_option maxHeartbeats 1000000 in
set_option maxRecDepth 100000 in
theorem tl_X8_least_L233 (zaG : Tr) (L : Lo) (x1 : Int32) (x2 : Int32) (x3 : Int32) (x4 : Int32) (N79 : Nat) (hx1 : 0 ≤ x1.toInt ∧ x1.toInt ≤ 4) (hx2 : 0 ≤ x2.toInt ∧ x2.toInt ≤ 4) (hx4 : 0 ≤ x4.toInt ∧ x4.toInt ≤ 624) (hN79 : 1000 - x4.toInt < (N79 : Int) + 1) (k79 : Int32 → Int32 → Tr → Lo → Option (Int32 × Tr × Lo)) (hk79 : ∀ (x3 : Int32) (x4 : Int32) (S : Tr) (L : Lo), aG 1 zaG S → pI S → gI 0 S → iR BM S → 0 ≤ x4.toInt ∧ x4.toInt ≤ 1000 → (S 62 0).toInt ≤ 20 → 1000 - x4.toInt < (N79 : Int) → D (k79 x3 x4 S L) (fun (q : Int32 × Tr × Lo) => (iR BM (q.2.1)) ∧ (aG 1 zaG (q.2.1)) ∧ (pI (q.2.1)) ∧ (gI 0 (q.2.1)))) (N : Nat) : ∀ (x6 : Int32) (S : Tr), aG 1 zaG S → pI S → gI 0 S → gI 1 S → iR BM S → 0 ≤ x6.toInt ∧ x6.toInt ≤ 1000 → (S 62 0).toInt ≤ 20 → (x2.toInt = 0 ∨ 1 ≤ (S 0 12).toInt) → 1000 - x6.toInt < (N : Int) → D (lpF (fun _ _ => none) (fB_X8_least_L233 k79 L x1 x2 x3 x4) N x6 S) (fun (q : Int32 × Tr × Lo) => (iR BM (q.2.1)) ∧ (aG 1 zaG (q.2.1)) ∧ (pI (q.2.1)) ∧ (gI 0 (q.2.1))) := by
  induction N with
  | zero =>
    intro x6 S daG dpI dg0 dgI hS hx6 h620 hpl hN
    exfalso
    omega
  | succ N233 ih =>
    intro x6 S daG dpI dg0 dgI hS hx6 h620 hpl hN
    have hk233 : ∀ (x6 : Int32) (S : Tr), aG 1 zaG S → pI S → gI 0 S → gI 1 S → iR BM S → 0 ≤ x6.toInt ∧ x6.toInt ≤ 1000 → (S 62 0).toInt ≤ 20 → (x2.toInt = 0 ∨ 1 ≤ (S 0 12).toInt) → 1000 - x6.toInt < (N233 : Int) → D (lpF (fun _ _ => none) (fB_X8_least_L233 k79 L x1 x2 x3 x4) N233 x6 S) (fun (q : Int32 × Tr × Lo) => (iR BM (q.2.1)) ∧ (aG 1 zaG (q.2.1)) ∧ (pI (q.2.1)) ∧ (gI 0 (q.2.1))) := ih
    show D (fB_X8_least_L233 k79 L x1 x2 x3 x4 (lpF (fun _ _ => none) (fB_X8_least_L233 k79 L x1 x2 x3 x4) N233) x6 S) _
    generalize lpF (fun _ _ => none) (fB_X8_least_L233 k79 L x1 x2 x3 x4) N233 = k233 at hk233 ⊢
    have hN233 : 1000 - x6.toInt < (N233 : Int) + 1 := by omega
    clear ih
    unfold fB_X8_least_L233
    have n111 : 0 ≤ (S 62 0).toInt ∧ (S 62 0).toInt ≤ 21 := hS 62 0
    have n112 : 0 ≤ (S 62 1).toInt ∧ (S 62 1).toInt ≤ 21 := hS 62 1
    have n113 : 0 ≤ (S 0 14).toInt ∧ (S 0 14).toInt ≤ 10 := hS 0 14
    have n114 : 0 ≤ (S 0 13).toInt ∧ (S 0 13).toInt ≤ 6 := hS 0 13
    have n115 : 0 ≤ (S 0 12).toInt ∧ (S 0 12).toInt ≤ 5 := hS 0 12
    refine D_ite (fun c116 => ?_) (fun c116 => ?_)
    · have kc116 := tq_le (x := x2) (y := x6) rfl rfl c116
      have n118 : (x4 + 1).toInt = x4.toInt + 1 := i_addK rfl (by decide) (by clear hx1 hx2 hx6 h620 hpl hN79 hN233 hN n111 n112 n113 n114 n115 kc116; omega) (by clear hx1 hx2 hx6 h620 hpl hN79 hN233 hN n111 n112 n113 n114 n115 kc116; omega)
      refine D_lt (fun y117 ey117 => ?_)
      have hy117 : y117.toInt = (x4 + 1 : Int32).toInt := by rw [ey117]
      have n119 := i_rng x3
      exact hk79 x3 y117 S L daG dpI dg0 hS ⟨(by clear hx1 hx2 hx6 h620 hpl hN79 hN233 hN n111 n112 n113 n114 n115 kc116 n119; omega), (by clear hx1 hx2 hx6 h620 hpl hN79 hN233 hN n111 n112 n113 n114 n115 kc116 n119; omega)⟩ (by clear hx1 hx2 hx4 hx6 hpl hN79 hN233 hN n112 n113 n114 n115 kc116 n118 hy117 n119; omega) (by clear hx1 hx2 hx6 h620 hpl hN233 hN n111 n112 n113 n114 n115 kc116 n119; omega)
    · have kc116 := tq_len (x := x2) (y := x6) rfl rfl c116
      have n120 : (x2 - 1).toInt = x2.toInt - 1 := i_subK rfl (by decide) (by clear hx1 hx4 h620 hN79 hN233 hN n111 n112 n113 n114; omega) (by clear hx1 hx4 h620 hN79 hN233 hN n111 n112 n113 n114; omega)
      have n121 : ((x2 - 1) - x6).toInt = (x2 - 1).toInt - x6.toInt := i_subK rfl rfl (by clear hx1 hx4 h620 hN79 hN233 hN n111 n112 n113 n114; omega) (by clear hx1 hx4 h620 hN79 hN233 hN n111 n112 n113 n114; omega)
      refine D_bd (t_X8_powerOf (S 0 12) ((x2 - 1) - x6) ⟨(by clear hx1 hx4 h620 hN79 hN233 hN n111 n112 n113 n114; omega), (by clear hx1 hx4 h620 hN79 hN233 hN n111 n112 n113 n114; omega)⟩ ⟨(by clear hx1 hx4 h620 hN79 hN233 hN n111 n112 n113 n114; omega), (by clear hx1 hx4 h620 hN79 hN233 hN n111 n112 n113 n114; omega)⟩) (fun r122 eq124 hq123 => ?_)
      obtain ⟨p125, p126, p127⟩ : (0 ≤ r122.toInt ∧ r122.toInt ≤ 625) ∧ (1 ≤ (S 0 12).toInt → 1 ≤ r122.toInt) ∧ (1 ≤ ((x2 - 1) - x6).toInt → (S 0 12).toInt = 0 → r122.toInt = 0) := hq123
      have n128 := i_rng r122
      have n129 : 1 ≤ (S 0 12).toInt := (by clear hx1 hx4 h620 hN79 hN233 hN n111 n112 n113 n114; omega)
      have n130 : 1 ≤ r122.toInt ∧ r122.toInt ≤ 625 := ⟨(by clear hx1 hx4 h620 hN79 hN233 hN n111 n112 n113 n114; omega), (by clear hx1 hx4 h620 hN79 hN233 hN n111 n112 n113 n114; omega)⟩
      have l0 : (0 : Int32).toInt = 0 := by decide
      refine D_ck (ok_ne (by clear hx1 hx4 h620 hN79 hN233 hN n111 n112 n113 n114; omega)) ?_
      refine D_ck (ok_ne (by clear hx1 hx4 h620 hN79 hN233 hN n111 n112 n113 n114; omega)) ?_
      refine D_ck (okI_of (by clear hx1 hx4 h620 hN79 hN233 hN n111 n112 n113 n114; omega) (by clear hx1 hx4 h620 hN79 hN233 hN n111 n112 n113 n114; omega)) ?_
      refine D_lt (fun S_131 eS_131 => ?_)
      have hS_131 : iR BM S_131 := by rw [eS_131]; exact iR_setU hS rfl
      have kaG_t132 : aG 1 zaG S_131 := (by rw [eS_131]; exact aG_set daG (Wb_t rfl))
      have kpI_t133 : pI S_131 := by rw [eS_131]; exact dpI
      have kg0_t134 : gI 0 S_131 := by rw [eS_131]; exact dg0
      have kgI_t135 : gI 1 S_131 := by rw [eS_131]; exact dgI
      have n136 : (S_131 62 1).toInt = (S 62 1).toInt := by rw [eS_131]; rfl
      have n137 : (S_131 62 0).toInt = (S 62 0).toInt := by rw [eS_131]; rfl
      have n138 : (S_131 0 12).toInt = (S 0 12).toInt := by rw [eS_131]; rfl
      have n139 : (S_131 0 14).toInt = (S 0 14).toInt := by rw [eS_131]; rfl
      have n140 : (S_131 0 13).toInt = (S 0 13).toInt := by rw [eS_131]; rfl
      have n142 : (x6 + 1).toInt = x6.toInt + 1 := i_addK rfl (by decide) (by clear hx1 hx4 h620 hN79 hN233 hN n111 n112 n113 n114 n136 n137 n139 n140; omega) (by clear hx1 hx4 h620 hN79 hN233 hN n111 n112 n113 n114 n136 n137 n139 n140; omega)
      refine D_lt (fun y141 ey141 => ?_)
      have hy141 : y141.toInt = (x6 + 1 : Int32).toInt := by rw [ey141]
      exact hk233 y141 S_131 kaG_t132 kpI_t133 kg0_t134 kgI_t135 hS_131 ⟨(by clear hx1 hx4 h620 hN79 hN233 hN n111 n112 n113 n114 n136 n137 n139 n140; omega), (by clear hx1 hx4 h620 hN79 hN233 hN n111 n112 n113 n114 n136 n137 n139 n140; omega)⟩ (by clear hx1 hx2 hx4 hx6 hpl hN79 hN233 hN n112 n113 n114 n115 kc116 n120 n121 p125 p126 p127 n128 n129 n130 n136 n138 n139 n140 n142 hy141; omega) (by clear hx1 hx4 h620 hN79 hN233 hN n111 n112 n113 n114 n136 n137 n139 n140; omega) (by clear hx1 hx4 h620 hN79 n111 n112 n113 n114 n136 n137 n139 n140; omega)
set_option maxHeartbeats 1000000 in
set_option maxRecDepth 100000 in
theorem tl_X8_least_L155 (zaG : Tr) (S : Tr) (L : Lo) (x1 : Int32) (x2 : Int32) (x3 : Int32) (x4 : Int32) (N79 : Nat) (hS : iR BM S) (daG : aG 1 zaG S) (dpI : pI S) (dg0 : gI 0 S) (dgI : gI 1 S) (hx1 : 0 ≤ x1.toInt ∧ x1.toInt ≤ 4) (hx2 : 0 ≤ x2.toInt ∧ x2.toInt ≤ 4) (hx4 : 0 ≤ x4.toInt ∧ x4.toInt ≤ 624) (h620 : (S 62 0).toInt ≤ 20) (hpl : x2.toInt = 0 ∨ 1 ≤ (S 0 12).toInt) (hN79 : 1000 - x4.toInt < (N79 : Int) + 1) (k79 : Int32 → Int32 → Tr → Lo → Option (Int32 × Tr × Lo)) (hk79 : ∀ (x3 : Int32) (x4 : Int32) (S : Tr) (L : Lo), aG 1 zaG S → pI S → gI 0 S → iR BM S → 0 ≤ x4.toInt ∧ x4.toInt ≤ 1000 → (S 62 0).toInt ≤ 20 → 1000 - x4.toInt < (N79 : Int) → D (k79 x3 x4 S L) (fun (q : Int32 × Tr × Lo) => (iR BM (q.2.1)) ∧ (aG 1 zaG (q.2.1)) ∧ (pI (q.2.1)) ∧ (gI 0 (q.2.1)))) (N : Nat) : ∀ (x5 : Int32) (x6 : Int32), 0 ≤ x5.toInt ∧ x5.toInt ≤ 1 → 0 ≤ x6.toInt ∧ x6.toInt ≤ 1000 → 1000 - x6.toInt < (N : Int) → D (lpF (fun _ _ => none) (fB_X8_least_L155 k79 S L x1 x2 x3 x4) N x5 x6) (fun (q : Int32 × Tr × Lo) => (iR BM (q.2.1)) ∧ (aG 1 zaG (q.2.1)) ∧ (pI (q.2.1)) ∧ (gI 0 (q.2.1))) := by
  induction N with
  | zero =>
    intro x5 x6 hx5 hx6 hN
    exfalso
    omega
  | succ N155 ih =>
    intro x5 x6 hx5 hx6 hN
    have hk155 : ∀ (x5 : Int32) (x6 : Int32), 0 ≤ x5.toInt ∧ x5.toInt ≤ 1 → 0 ≤ x6.toInt ∧ x6.toInt ≤ 1000 → 1000 - x6.toInt < (N155 : Int) → D (lpF (fun _ _ => none) (fB_X8_least_L155 k79 S L x1 x2 x3 x4) N155 x5 x6) (fun (q : Int32 × Tr × Lo) => (iR BM (q.2.1)) ∧ (aG 1 zaG (q.2.1)) ∧ (pI (q.2.1)) ∧ (gI 0 (q.2.1))) := ih
    show D (fB_X8_least_L155 k79 S L x1 x2 x3 x4 (lpF (fun _ _ => none) (fB_X8_least_L155 k79 S L x1 x2 x3 x4) N155) x5 x6) _
    generalize lpF (fun _ _ => none) (fB_X8_least_L155 k79 S L x1 x2 x3 x4) N155 = k155 at hk155 ⊢
    have hN155 : 1000 - x6.toInt < (N155 : Int) + 1 := by omega
    clear ih
    unfold fB_X8_least_L155
    have n81 : 0 ≤ (S 62 0).toInt ∧ (S 62 0).toInt ≤ 21 := hS 62 0
    have n82 : 0 ≤ (S 62 1).toInt ∧ (S 62 1).toInt ≤ 21 := hS 62 1
    have n83 : 0 ≤ (S 0 14).toInt ∧ (S 0 14).toInt ≤ 10 := hS 0 14
    have n84 : 0 ≤ (S 0 13).toInt ∧ (S 0 13).toInt ≤ 6 := hS 0 13
    have n85 : 0 ≤ (S 0 12).toInt ∧ (S 0 12).toInt ≤ 5 := hS 0 12
    refine D_ite (fun c86 => ?_) (fun c86 => ?_)
    · have kc86 := tq_le (x := x2) (y := x6) rfl rfl c86
      unfold fJ_X8_least_J198
      refine D_ite (fun c87 => ?_) (fun c87 => ?_)
      · have kc87 := tq_eq (x := x5) (y := (0 : Int32)) rfl (b := 0) (by decide) c87
        have n89 : (x4 + 1).toInt = x4.toInt + 1 := i_addK rfl (by decide) (by clear hx1 hx2 h620 hpl hx5 hx6 hN79 hN155 hN n81 n82 n83 n84 n85 kc86 kc87; omega) (by clear hx1 hx2 h620 hpl hx5 hx6 hN79 hN155 hN n81 n82 n83 n84 n85 kc86 kc87; omega)
        refine D_lt (fun y88 ey88 => ?_)
        have hy88 : y88.toInt = (x4 + 1 : Int32).toInt := by rw [ey88]
        have n90 := i_rng x3
        exact hk79 x3 y88 S L daG dpI dg0 hS ⟨(by clear hx1 hx2 h620 hpl hx5 hx6 hN79 hN155 hN n81 n82 n83 n84 n85 kc86 kc87 n90; omega), (by clear hx1 hx2 h620 hpl hx5 hx6 hN79 hN155 hN n81 n82 n83 n84 n85 kc86 kc87 n90; omega)⟩ (by clear hx1 hx2 hx4 hpl hx5 hx6 hN79 hN155 hN n82 n83 n84 n85 kc86 kc87 n89 hy88 n90; omega) (by clear hx1 hx2 h620 hpl hx5 hx6 hN155 hN n81 n82 n83 n84 n85 kc86 kc87 n90; omega)
      · have kc870 := tq_eqn (x := x5) (y := (0 : Int32)) rfl (b := 0) (by decide) c87
        have kc87 : 1 ≤ x5.toInt := (by clear hx1 hx2 hx4 h620 hpl hx6 hN79 hN155 hN n81 n82 n83 n84 n85 kc86; omega)
        clear kc870
        refine D_bd2 (t_X8_toEnd S L hS dpI dgI) (fun S_91 L_92 eq94 hq93 => ?_)
        refine D_lte (y := S_91) rfl ?_
        refine D_lte (y := L_92) rfl ?_
        obtain ⟨p95, p96, p97, p98⟩ : (iR BM S_91) ∧ (aG 1 S S_91) ∧ (pI S_91) ∧ (gI 1 S_91) := hq93
        have k99 : aG 1 zaG S_91 := aG_tr daG p96
        have n100 : (S_91 0 12).toInt = (S 0 12).toInt := congrArg Int32.toInt (p96 0 _ rfl)
        have n101 : (S_91 0 13).toInt = (S 0 13).toInt := congrArg Int32.toInt (p96 0 _ rfl)
        have n102 : (S_91 0 14).toInt = (S 0 14).toInt := congrArg Int32.toInt (p96 0 _ rfl)
        have n103 : (S_91 62 0).toInt = (S 62 0).toInt := congrArg Int32.toInt (p96 62 _ rfl)
        have kg0_t104 : gI 0 S_91 := (gI0_G1 hS dg0 p96)
        have n106 := i_rng x3
        refine D_ite (fun c105 => ?_) (fun c105 => ?_)
        · have kc105 := tq_lt (x := x3) (y := (0 : Int32)) rfl (b := 0) (by decide) c105
          unfold fJ_X8_least_J225
          refine D_bd (t_X8_more S_91 p95) (fun r107 eq109 hq108 => ?_)
          have n110 := i_rng r107
          have l0 : (0 : Int32).toInt = 0 := by decide
          exact tl_X8_least_L233 zaG L_92 x1 x2 r107 x4 N79 ⟨(by clear hx2 hx4 h620 hpl hx5 hx6 hN79 hN155 hN n81 n82 n83 n84 n85 kc86 kc87 n100 n101 n102 n103 n106 kc105 n110; omega), (by clear hx2 hx4 h620 hpl hx5 hx6 hN79 hN155 hN n81 n82 n83 n84 n85 kc86 kc87 n100 n101 n102 n103 n106 kc105 n110; omega)⟩ ⟨(by clear hx1 hx4 h620 hx5 hN79 hN155 hN n81 n82 n83 n84 kc87 n101 n102 n103 n106 kc105 n110; omega), (by clear hx1 hx4 h620 hx5 hN79 hN155 hN n81 n82 n83 n84 kc87 n101 n102 n103 n106 kc105 n110; omega)⟩ ⟨(by clear hx1 hx2 h620 hpl hx5 hx6 hN79 hN155 hN n81 n82 n83 n84 n85 kc86 kc87 n100 n101 n102 n103 n106 kc105 n110; omega), (by clear hx1 hx2 h620 hpl hx5 hx6 hN79 hN155 hN n81 n82 n83 n84 n85 kc86 kc87 n100 n101 n102 n103 n106 kc105 n110; omega)⟩ hN79 k79 hk79 2000 (0 : Int32) S_91 k99 p97 kg0_t104 p98 p95 ⟨(by clear hx1 hx2 hx4 h620 hpl hx5 hx6 hN79 hN155 hN n81 n82 n83 n84 n85 kc86 kc87 n100 n101 n102 n103 n106 kc105 n110; omega), (by clear hx1 hx2 hx4 h620 hpl hx5 hx6 hN79 hN155 hN n81 n82 n83 n84 n85 kc86 kc87 n100 n101 n102 n103 n106 kc105 n110; omega)⟩ (by clear hx1 hx2 hx4 hpl hx5 hx6 hN79 hN155 hN n82 n83 n84 n85 kc86 kc87 n100 n101 n102 n106 kc105 n110; omega) (by clear hx1 hx4 h620 hx5 hN79 hN155 hN n81 n82 n83 n84 kc87 n101 n102 n103 n106 kc105 n110; omega) (by clear hx1 hx2 hx4 h620 hpl hx5 hx6 hN79 hN155 hN n81 n82 n83 n84 n85 kc86 kc87 n100 n101 n102 n103 n106 kc105 n110; omega)
        · have kc105 := tq_ltn (x := x3) (y := (0 : Int32)) rfl (b := 0) (by decide) c105
          refine D_bd (t_X8_more S_91 p95) (fun r143 eq145 hq144 => ?_)
          have n146 := i_rng r143
          refine D_ite (fun c147 => ?_) (fun c147 => ?_)
          · have kc147 := tq_lt (x := r143) (y := x3) rfl rfl c147
            unfold fJ_X8_least_J225
            refine D_bd (t_X8_more S_91 p95) (fun r148 eq150 hq149 => ?_)
            have n151 := i_rng r148
            have l0 : (0 : Int32).toInt = 0 := by decide
            exact tl_X8_least_L233 zaG L_92 x1 x2 r148 x4 N79 ⟨(by clear hx2 hx4 h620 hpl hx5 hx6 hN79 hN155 hN n81 n82 n83 n84 n85 kc86 kc87 n100 n101 n102 n103 n106 kc105 n146 kc147 n151; omega), (by clear hx2 hx4 h620 hpl hx5 hx6 hN79 hN155 hN n81 n82 n83 n84 n85 kc86 kc87 n100 n101 n102 n103 n106 kc105 n146 kc147 n151; omega)⟩ ⟨(by clear hx1 hx4 h620 hx5 hN79 hN155 hN n81 n82 n83 n84 kc87 n101 n102 n103 n106 kc105 n146 kc147 n151; omega), (by clear hx1 hx4 h620 hx5 hN79 hN155 hN n81 n82 n83 n84 kc87 n101 n102 n103 n106 kc105 n146 kc147 n151; omega)⟩ ⟨(by clear hx1 hx2 h620 hpl hx5 hx6 hN79 hN155 hN n81 n82 n83 n84 n85 kc86 kc87 n100 n101 n102 n103 n106 kc105 n146 kc147 n151; omega), (by clear hx1 hx2 h620 hpl hx5 hx6 hN79 hN155 hN n81 n82 n83 n84 n85 kc86 kc87 n100 n101 n102 n103 n106 kc105 n146 kc147 n151; omega)⟩ hN79 k79 hk79 2000 (0 : Int32) S_91 k99 p97 kg0_t104 p98 p95 ⟨(by clear hx1 hx2 hx4 h620 hpl hx5 hx6 hN79 hN155 hN n81 n82 n83 n84 n85 kc86 kc87 n100 n101 n102 n103 n106 kc105 n146 kc147 n151; omega), (by clear hx1 hx2 hx4 h620 hpl hx5 hx6 hN79 hN155 hN n81 n82 n83 n84 n85 kc86 kc87 n100 n101 n102 n103 n106 kc105 n146 kc147 n151; omega)⟩ (by clear hx1 hx2 hx4 hpl hx5 hx6 hN79 hN155 hN n82 n83 n84 n85 kc86 kc87 n100 n101 n102 n106 kc105 n146 kc147 n151; omega) (by clear hx1 hx4 h620 hx5 hN79 hN155 hN n81 n82 n83 n84 kc87 n101 n102 n103 n106 kc105 n146 kc147 n151; omega) (by clear hx1 hx2 hx4 h620 hpl hx5 hx6 hN79 hN155 hN n81 n82 n83 n84 n85 kc86 kc87 n100 n101 n102 n103 n106 kc105 n146 kc147 n151; omega)
          · have kc147 := tq_ltn (x := r143) (y := x3) rfl rfl c147
            have n153 : (x4 + 1).toInt = x4.toInt + 1 := i_addK rfl (by decide) (by clear hx1 hx2 h620 hpl hx5 hx6 hN79 hN155 hN n81 n82 n83 n84 n85 kc86 kc87 n100 n101 n102 n103 n106 kc105 n146 kc147; omega) (by clear hx1 hx2 h620 hpl hx5 hx6 hN79 hN155 hN n81 n82 n83 n84 n85 kc86 kc87 n100 n101 n102 n103 n106 kc105 n146 kc147; omega)
            refine D_lt (fun y152 ey152 => ?_)
            have hy152 : y152.toInt = (x4 + 1 : Int32).toInt := by rw [ey152]
            exact hk79 x3 y152 S_91 L_92 k99 p97 kg0_t104 p95 ⟨(by clear hx1 hx2 h620 hpl hx5 hx6 hN79 hN155 hN n81 n82 n83 n84 n85 kc86 kc87 n100 n101 n102 n103 n106 kc105 n146 kc147; omega), (by clear hx1 hx2 h620 hpl hx5 hx6 hN79 hN155 hN n81 n82 n83 n84 n85 kc86 kc87 n100 n101 n102 n103 n106 kc105 n146 kc147; omega)⟩ (by clear hx1 hx2 hx4 hpl hx5 hx6 hN79 hN155 hN n82 n83 n84 n85 kc86 kc87 n100 n101 n102 n106 kc105 n146 kc147 n153 hy152; omega) (by clear hx1 hx2 h620 hpl hx5 hx6 hN155 hN n81 n82 n83 n84 n85 kc86 kc87 n100 n101 n102 n103 n106 kc105 n146 kc147; omega)
    · have kc86 := tq_len (x := x2) (y := x6) rfl rfl c86
      refine D_ite (fun c154 => ?_) (fun c154 => ?_)
      · have kc154 := tq_eq (x := x5) (y := (0 : Int32)) rfl (b := 0) (by decide) c154
        have n156 : (x6 + 1).toInt = x6.toInt + 1 := i_addK rfl (by decide) (by clear hx1 hx4 h620 hx5 hN79 hN155 hN n81 n82 n83 n84 kc154; omega) (by clear hx1 hx4 h620 hx5 hN79 hN155 hN n81 n82 n83 n84 kc154; omega)
        refine D_lt (fun y155 ey155 => ?_)
        have hy155 : y155.toInt = (x6 + 1 : Int32).toInt := by rw [ey155]
        have l0 : (0 : Int32).toInt = 0 := by decide
        exact hk155 (0 : Int32) y155 ⟨(by clear hx1 hx2 hx4 h620 hpl hx5 hx6 hN79 hN155 hN n81 n82 n83 n84 n85 kc86 kc154 n156 hy155; omega), (by clear hx1 hx2 hx4 h620 hpl hx5 hx6 hN79 hN155 hN n81 n82 n83 n84 n85 kc86 kc154 n156 hy155; omega)⟩ ⟨(by clear hx1 hx4 h620 hx5 hN79 hN155 hN n81 n82 n83 n84 kc154; omega), (by clear hx1 hx4 h620 hx5 hN79 hN155 hN n81 n82 n83 n84 kc154; omega)⟩ (by clear hx1 hx4 h620 hx5 hN79 n81 n82 n83 n84 kc154; omega)
      · have kc1540 := tq_eqn (x := x5) (y := (0 : Int32)) rfl (b := 0) (by decide) c154
        have kc154 : 1 ≤ x5.toInt := (by clear hx1 hx2 hx4 h620 hpl hx6 hN79 hN155 hN n81 n82 n83 n84 n85 kc86; omega)
        clear kc1540
        refine D_ck (okI_of (by clear hx1 hx4 h620 hx5 hN79 hN155 hN n81 n82 n83 n84 kc154; omega) (by clear hx1 hx4 h620 hx5 hN79 hN155 hN n81 n82 n83 n84 kc154; omega)) ?_
        have n157 : 0 ≤ (S 75 x6.toNatClampNeg).toInt ∧ (S 75 x6.toNatClampNeg).toInt ≤ 9 := hS 75 x6.toNatClampNeg
        have n158 : ((10 : Int32) + (S 75 x6.toNatClampNeg)).toInt = 10 + (S 75 x6.toNatClampNeg).toInt := i_addK (by decide) rfl (by clear hx1 hx2 hx4 h620 hpl hx5 hx6 hN79 hN155 hN n81 n82 n83 n84 n85 kc86 kc154; omega) (by clear hx1 hx2 hx4 h620 hpl hx5 hx6 hN79 hN155 hN n81 n82 n83 n84 n85 kc86 kc154; omega)
        refine D_ck (okI_of (by clear hx1 hx2 hx4 h620 hpl hx5 hx6 hN79 hN155 hN n81 n82 n83 n84 n85 kc86 kc154; omega) (by clear hx1 hx2 hx4 h620 hpl hx5 hx6 hN79 hN155 hN n81 n82 n83 n84 n85 kc86 kc154; omega)) ?_
        have n160 : 0 ≤ (S 53 ((10 : Int32) + (S 75 x6.toNatClampNeg)).toNatClampNeg).toInt ∧ (S 53 ((10 : Int32) + (S 75 x6.toNatClampNeg)).toNatClampNeg).toInt ≤ 5 := hS 53 (((10 : Int32) + (S 75 x6.toNatClampNeg)).toNatClampNeg)
        refine D_ite (fun c159 => ?_) (fun c159 => ?_)
        · have kc159 := tq_eq (x := (S 53 ((10 : Int32) + (S 75 x6.toNatClampNeg)).toNatClampNeg)) (y := (5 : Int32)) rfl (b := 5) (by decide) c159
          have n162 : (x6 + 1).toInt = x6.toInt + 1 := i_addK rfl (by decide) (by clear hx1 hx4 h620 hx5 hN79 hN155 hN n81 n82 n83 n84 kc154 n157 n158 n160 kc159; omega) (by clear hx1 hx4 h620 hx5 hN79 hN155 hN n81 n82 n83 n84 kc154 n157 n158 n160 kc159; omega)
          refine D_lt (fun y161 ey161 => ?_)
          have hy161 : y161.toInt = (x6 + 1 : Int32).toInt := by rw [ey161]
          have l0 : (0 : Int32).toInt = 0 := by decide
          exact hk155 (0 : Int32) y161 ⟨(by clear hx1 hx2 hx4 h620 hpl hx5 hx6 hN79 hN155 hN n81 n82 n83 n84 n85 kc86 kc154 n157 n158 n160 kc159 n162 hy161; omega), (by clear hx1 hx2 hx4 h620 hpl hx5 hx6 hN79 hN155 hN n81 n82 n83 n84 n85 kc86 kc154 n157 n158 n160 kc159 n162 hy161; omega)⟩ ⟨(by clear hx1 hx4 h620 hx5 hN79 hN155 hN n81 n82 n83 n84 kc154 n157 n158 n160 kc159; omega), (by clear hx1 hx4 h620 hx5 hN79 hN155 hN n81 n82 n83 n84 kc154 n157 n158 n160 kc159; omega)⟩ (by clear hx1 hx4 h620 hx5 hN79 n81 n82 n83 n84 kc154 n157 n158 n160 kc159; omega)
        · have kc1590 := tq_eqn (x := (S 53 ((10 : Int32) + (S 75 x6.toNatClampNeg)).toNatClampNeg)) (y := (5 : Int32)) rfl (b := 5) (by decide) c159
          have kc159 : (S 53 ((10 : Int32) + (S 75 x6.toNatClampNeg)).toNatClampNeg).toInt ≤ 4 := (by clear hx1 hx2 hx4 h620 hpl hx5 hx6 hN79 hN155 hN n81 n82 n83 n84 n85 kc86 kc154 n157 n158; omega)
          clear kc1590
          have n164 : (x6 + 1).toInt = x6.toInt + 1 := i_addK rfl (by decide) (by clear hx1 hx4 h620 hx5 hN79 hN155 hN n81 n82 n83 n84 kc154 n157 n158 n160 kc159; omega) (by clear hx1 hx4 h620 hx5 hN79 hN155 hN n81 n82 n83 n84 kc154 n157 n158 n160 kc159; omega)
          refine D_lt (fun y163 ey163 => ?_)
          have hy163 : y163.toInt = (x6 + 1 : Int32).toInt := by rw [ey163]
          have l1 : (1 : Int32).toInt = 1 := by decide
          exact hk155 (1 : Int32) y163 ⟨(by clear hx1 hx2 hx4 h620 hpl hx5 hx6 hN79 hN155 hN n81 n82 n83 n84 n85 kc86 kc154 n157 n158 n160 kc159 n164 hy163; omega), (by clear hx1 hx2 hx4 h620 hpl hx5 hx6 hN79 hN155 hN n81 n82 n83 n84 n85 kc86 kc154 n157 n158 n160 kc159 n164 hy163; omega)⟩ ⟨(by clear hx1 hx4 h620 hx5 hN79 hN155 hN n81 n82 n83 n84 kc154 n157 n158 n160 kc159; omega), (by clear hx1 hx4 h620 hx5 hN79 hN155 hN n81 n82 n83 n84 kc154 n157 n158 n160 kc159; omega)⟩ (by clear hx1 hx4 h620 hx5 hN79 n81 n82 n83 n84 kc154 n157 n158 n160 kc159; omega)
set_option maxHeartbeats 1000000 in
set_option maxRecDepth 100000 in
theorem tl_X8_least_L99 (zaG : Tr) (L : Lo) (x1 : Int32) (x2 : Int32) (x3 : Int32) (x4 : Int32) (N79 : Nat) (hx1 : 0 ≤ x1.toInt ∧ x1.toInt ≤ 4) (hx2 : 0 ≤ x2.toInt ∧ x2.toInt ≤ 4) (hx4 : 0 ≤ x4.toInt ∧ x4.toInt ≤ 624) (hN79 : 1000 - x4.toInt < (N79 : Int) + 1) (k79 : Int32 → Int32 → Tr → Lo → Option (Int32 × Tr × Lo)) (hk79 : ∀ (x3 : Int32) (x4 : Int32) (S : Tr) (L : Lo), aG 1 zaG S → pI S → gI 0 S → iR BM S → 0 ≤ x4.toInt ∧ x4.toInt ≤ 1000 → (S 62 0).toInt ≤ 20 → 1000 - x4.toInt < (N79 : Int) → D (k79 x3 x4 S L) (fun (q : Int32 × Tr × Lo) => (iR BM (q.2.1)) ∧ (aG 1 zaG (q.2.1)) ∧ (pI (q.2.1)) ∧ (gI 0 (q.2.1)))) (N : Nat) : ∀ (x5 : Int32) (S : Tr), aG 1 zaG S → pI S → gI 0 S → gI 1 S → iR BM S → 0 ≤ x5.toInt ∧ x5.toInt ≤ 1000 → (S 62 0).toInt ≤ 20 → (S 62 1).toInt ≤ 20 → (x2.toInt = 0 ∨ 1 ≤ (S 0 12).toInt) → 1000 - x5.toInt < (N : Int) → D (lpF (fun _ _ => none) (fB_X8_least_L99 k79 L x1 x2 x3 x4) N x5 S) (fun (q : Int32 × Tr × Lo) => (iR BM (q.2.1)) ∧ (aG 1 zaG (q.2.1)) ∧ (pI (q.2.1)) ∧ (gI 0 (q.2.1))) := by
  induction N with
  | zero =>
    intro x5 S daG dpI dg0 dgI hS hx5 h620 h621 hpl hN
    exfalso
    omega
  | succ N99 ih =>
    intro x5 S daG dpI dg0 dgI hS hx5 h620 h621 hpl hN
    have hk99 : ∀ (x5 : Int32) (S : Tr), aG 1 zaG S → pI S → gI 0 S → gI 1 S → iR BM S → 0 ≤ x5.toInt ∧ x5.toInt ≤ 1000 → (S 62 0).toInt ≤ 20 → (S 62 1).toInt ≤ 20 → (x2.toInt = 0 ∨ 1 ≤ (S 0 12).toInt) → 1000 - x5.toInt < (N99 : Int) → D (lpF (fun _ _ => none) (fB_X8_least_L99 k79 L x1 x2 x3 x4) N99 x5 S) (fun (q : Int32 × Tr × Lo) => (iR BM (q.2.1)) ∧ (aG 1 zaG (q.2.1)) ∧ (pI (q.2.1)) ∧ (gI 0 (q.2.1))) := ih
    show D (fB_X8_least_L99 k79 L x1 x2 x3 x4 (lpF (fun _ _ => none) (fB_X8_least_L99 k79 L x1 x2 x3 x4) N99) x5 S) _
    generalize lpF (fun _ _ => none) (fB_X8_least_L99 k79 L x1 x2 x3 x4) N99 = k99 at hk99 ⊢
    have hN99 : 1000 - x5.toInt < (N99 : Int) + 1 := by omega
    clear ih
    unfold fB_X8_least_L99
    have n60 : 0 ≤ (S 62 0).toInt ∧ (S 62 0).toInt ≤ 21 := hS 62 0
    have n61 : 0 ≤ (S 62 1).toInt ∧ (S 62 1).toInt ≤ 21 := hS 62 1
    have n62 : 0 ≤ (S 0 14).toInt ∧ (S 0 14).toInt ≤ 10 := hS 0 14
    have n63 : 0 ≤ (S 0 13).toInt ∧ (S 0 13).toInt ≤ 6 := hS 0 13
    have n64 : 0 ≤ (S 0 12).toInt ∧ (S 0 12).toInt ≤ 5 := hS 0 12
    refine D_ite (fun c65 => ?_) (fun c65 => ?_)
    · have kc65 := tq_le (x := x2) (y := x5) rfl rfl c65
      unfold fJ_X8_least_J144
      have l1 : (1 : Int32).toInt = 1 := by decide
      refine D_bd2 (t_X8_goOn S L (1 : Int32) hS dpI dgI ⟨(by clear hx1 hx2 hx4 hx5 h620 h621 hpl hN79 hN99 hN n60 n61 n62 n63 n64 kc65; omega), (by clear hx1 hx2 hx4 hx5 h620 h621 hpl hN79 hN99 hN n60 n61 n62 n63 n64 kc65; omega)⟩ (show (S 62 1).toInt ≤ 20 from (by first | assumption | exact (by clear hx1 hx2 hx4 hx5 h620 hpl hN79 hN99 hN n60 n62 n63 n64 kc65; omega)))) (fun S_66 L_67 eq69 hq68 => ?_)
      refine D_lte (y := S_66) rfl ?_
      refine D_lte (y := L_67) rfl ?_
      obtain ⟨p70, p71, p72, p73, p74⟩ : (iR BM S_66) ∧ (aG 1 S S_66) ∧ (pI S_66) ∧ (gI 1 S_66) ∧ ((S_66 62 1).toInt = (S 62 1).toInt + 1) := hq68
      have k75 : aG 1 zaG S_66 := aG_tr daG p71
      have n76 : (S_66 0 12).toInt = (S 0 12).toInt := congrArg Int32.toInt (p71 0 _ rfl)
      have n77 : (S_66 0 13).toInt = (S 0 13).toInt := congrArg Int32.toInt (p71 0 _ rfl)
      have n78 : (S_66 0 14).toInt = (S 0 14).toInt := congrArg Int32.toInt (p71 0 _ rfl)
      have n79 : (S_66 62 0).toInt = (S 62 0).toInt := congrArg Int32.toInt (p71 62 _ rfl)
      have kg0_t80 : gI 0 S_66 := (gI0_G1 hS dg0 p71)
      have l0 : (0 : Int32).toInt = 0 := by decide
      have n165 := i_rng x3
      exact tl_X8_least_L155 zaG S_66 L_67 x1 x2 x3 x4 N79 p70 k75 p72 kg0_t80 p73 ⟨(by clear hx2 hx4 hx5 h620 h621 hpl hN79 hN99 hN n60 n61 n62 n63 n64 kc65 p74 n76 n77 n78 n79 n165; omega), (by clear hx2 hx4 hx5 h620 h621 hpl hN79 hN99 hN n60 n61 n62 n63 n64 kc65 p74 n76 n77 n78 n79 n165; omega)⟩ ⟨(by clear hx1 hx4 h620 h621 hN79 hN99 hN n60 n61 n62 n63 p74 n77 n78 n79 n165; omega), (by clear hx1 hx4 h620 h621 hN79 hN99 hN n60 n61 n62 n63 p74 n77 n78 n79 n165; omega)⟩ ⟨(by clear hx1 hx2 hx5 h620 h621 hpl hN79 hN99 hN n60 n61 n62 n63 n64 kc65 p74 n76 n77 n78 n79 n165; omega), (by clear hx1 hx2 hx5 h620 h621 hpl hN79 hN99 hN n60 n61 n62 n63 n64 kc65 p74 n76 n77 n78 n79 n165; omega)⟩ (by clear hx1 hx2 hx4 hx5 h621 hpl hN79 hN99 hN n61 n62 n63 n64 kc65 p74 n76 n77 n78 n165; omega) (by clear hx1 hx4 h620 h621 hN79 hN99 hN n60 n61 n62 n63 p74 n77 n78 n79 n165; omega) hN79 k79 hk79 2000 (1 : Int32) (0 : Int32) ⟨(by clear hx1 hx2 hx4 hx5 h620 h621 hpl hN79 hN99 hN n60 n61 n62 n63 n64 kc65 p74 n76 n77 n78 n79 n165; omega), (by clear hx1 hx2 hx4 hx5 h620 h621 hpl hN79 hN99 hN n60 n61 n62 n63 n64 kc65 p74 n76 n77 n78 n79 n165; omega)⟩ ⟨(by clear hx1 hx2 hx4 hx5 h620 h621 hpl hN79 hN99 hN n60 n61 n62 n63 n64 kc65 p74 n76 n77 n78 n79 n165; omega), (by clear hx1 hx2 hx4 hx5 h620 h621 hpl hN79 hN99 hN n60 n61 n62 n63 n64 kc65 p74 n76 n77 n78 n79 n165; omega)⟩ (by clear hx1 hx2 hx4 hx5 h620 h621 hpl hN79 hN99 hN n60 n61 n62 n63 n64 kc65 p74 n76 n77 n78 n79 n165; omega)
    · have kc65 := tq_len (x := x2) (y := x5) rfl rfl c65
      refine D_ck (okI_of (by clear hx1 hx4 h620 h621 hN79 hN99 hN n60 n61 n62 n63; omega) (by clear hx1 hx4 h620 h621 hN79 hN99 hN n60 n61 n62 n63; omega)) ?_
      have n166 : (x2 - 1).toInt = x2.toInt - 1 := i_subK rfl (by decide) (by clear hx1 hx4 h620 h621 hN79 hN99 hN n60 n61 n62 n63; omega) (by clear hx1 hx4 h620 h621 hN79 hN99 hN n60 n61 n62 n63; omega)
      have n167 : ((x2 - 1) - x5).toInt = (x2 - 1).toInt - x5.toInt := i_subK rfl rfl (by clear hx1 hx4 h620 h621 hN79 hN99 hN n60 n61 n62 n63; omega) (by clear hx1 hx4 h620 h621 hN79 hN99 hN n60 n61 n62 n63; omega)
      refine D_bd (t_X8_powerOf (S 0 12) ((x2 - 1) - x5) ⟨(by clear hx1 hx4 h620 h621 hN79 hN99 hN n60 n61 n62 n63; omega), (by clear hx1 hx4 h620 h621 hN79 hN99 hN n60 n61 n62 n63; omega)⟩ ⟨(by clear hx1 hx4 h620 h621 hN79 hN99 hN n60 n61 n62 n63; omega), (by clear hx1 hx4 h620 h621 hN79 hN99 hN n60 n61 n62 n63; omega)⟩) (fun r168 eq170 hq169 => ?_)
      obtain ⟨p171, p172, p173⟩ : (0 ≤ r168.toInt ∧ r168.toInt ≤ 625) ∧ (1 ≤ (S 0 12).toInt → 1 ≤ r168.toInt) ∧ (1 ≤ ((x2 - 1) - x5).toInt → (S 0 12).toInt = 0 → r168.toInt = 0) := hq169
      have n174 := i_rng r168
      have n175 : 1 ≤ (S 0 12).toInt := (by clear hx1 hx4 h620 h621 hN79 hN99 hN n60 n61 n62 n63; omega)
      have n176 : 1 ≤ r168.toInt ∧ r168.toInt ≤ 625 := ⟨(by clear hx1 hx4 h620 h621 hN79 hN99 hN n60 n61 n62 n63; omega), (by clear hx1 hx4 h620 h621 hN79 hN99 hN n60 n61 n62 n63; omega)⟩
      have l0 : (0 : Int32).toInt = 0 := by decide
      refine D_ck (ok_ne (by clear hx1 hx4 h620 h621 hN79 hN99 hN n60 n61 n62 n63; omega)) ?_
      refine D_ck (ok_ne (by clear hx1 hx4 h620 h621 hN79 hN99 hN n60 n61 n62 n63; omega)) ?_
      have n177 : 0 ≤ (S 75 x5.toNatClampNeg).toInt ∧ (S 75 x5.toNatClampNeg).toInt ≤ 9 := hS 75 x5.toNatClampNeg
      refine D_ck (okI_of (by clear hx1 hx2 hx4 hx5 h620 h621 hpl hN79 hN99 hN n60 n61 n62 n63 n64 kc65 n166 n167 p171 p172 p173 n174 n175 n176; omega) (by clear hx1 hx2 hx4 hx5 h620 h621 hpl hN79 hN99 hN n60 n61 n62 n63 n64 kc65 n166 n167 p171 p172 p173 n174 n175 n176; omega)) ?_
      have n179 := i_divv (a := x4) (b := r168) (by clear hx1 hx2 hx5 h620 h621 hpl hN79 hN99 hN n60 n61 n62 n63 n64 kc65 n166 n167 p171 p172 p173 n174 n175 n176 n177; omega) (by clear hx1 hx4 h620 h621 hN79 hN99 hN n60 n61 n62 n63 n177; omega)
      have n180 := i_remv (a := (x4 / r168)) (b := (S 0 12)) (by clear hx1 h620 h621 hN79 hN99 hN n60 n61 n62 n63 n177; omega) (by clear hx1 h620 h621 hN79 hN99 hN n60 n61 n62 n63 n177; omega)
      refine D_lt (fun S_178 eS_178 => ?_)
      have hS_178 : iR BM S_178 := by rw [eS_178]; exact iR_set hS (show ((-1) : Int) ≤ _ from (by clear hx1 h620 h621 hN79 hN99 hN n60 n61 n62 n63 n177; omega)) (show _ ≤ (4 : Int) from (by clear hx1 h620 h621 hN79 hN99 hN n60 n61 n62 n63 n177; omega))
      have kaG_t181 : aG 1 zaG S_178 := (by rw [eS_178]; exact aG_set daG (Wb_t rfl))
      have kpI_t182 : pI S_178 := by rw [eS_178]; exact dpI
      have kg0_t183 : gI 0 S_178 := by rw [eS_178]; exact dg0
      have kgI_t184 : gI 1 S_178 := by rw [eS_178]; exact dgI
      have n185 : (S_178 62 1).toInt = (S 62 1).toInt := by rw [eS_178]; rfl
      have n186 : (S_178 62 0).toInt = (S 62 0).toInt := by rw [eS_178]; rfl
      have n187 : (S_178 0 12).toInt = (S 0 12).toInt := by rw [eS_178]; rfl
      have n188 : (S_178 0 14).toInt = (S 0 14).toInt := by rw [eS_178]; rfl
      have n189 : (S_178 0 13).toInt = (S 0 13).toInt := by rw [eS_178]; rfl
      have n191 : (x5 + 1).toInt = x5.toInt + 1 := i_addK rfl (by decide) (by clear hx1 h620 h621 hN79 hN99 hN n60 n61 n62 n63 n177 n185 n186 n188 n189; omega) (by clear hx1 h620 h621 hN79 hN99 hN n60 n61 n62 n63 n177 n185 n186 n188 n189; omega)
      refine D_lt (fun y190 ey190 => ?_)
      have hy190 : y190.toInt = (x5 + 1 : Int32).toInt := by rw [ey190]
      exact hk99 y190 S_178 kaG_t181 kpI_t182 kg0_t183 kgI_t184 hS_178 ⟨(by clear hx1 h620 h621 hN79 hN99 hN n60 n61 n62 n63 n177 n185 n186 n188 n189; omega), (by clear hx1 h620 h621 hN79 hN99 hN n60 n61 n62 n63 n177 n185 n186 n188 n189; omega)⟩ (by clear hx1 hx2 hx4 hx5 h621 hpl hN79 hN99 hN n61 n62 n63 n64 kc65 n166 n167 p171 p172 p173 n174 n175 n176 n177 n179 n180 n185 n187 n188 n189 n191 hy190; omega) (by clear hx1 hx2 hx4 hx5 h620 hpl hN79 hN99 hN n60 n62 n63 n64 kc65 n166 n167 p171 p172 p173 n174 n175 n176 n177 n179 n180 n186 n187 n188 n189 n191 hy190; omega) (by clear hx1 h620 h621 hN79 hN99 hN n60 n61 n62 n63 n177 n185 n186 n188 n189; omega) (by clear hx1 h620 h621 hN79 n60 n61 n62 n63 n177 n185 n186 n188 n189; omega)
set_option maxHeartbeats 1000000 in
set_option maxRecDepth 100000 in
theorem tl_X8_least_L79 (zaG : Tr) (x1 : Int32) (x2 : Int32) (hx1 : 0 ≤ x1.toInt ∧ x1.toInt ≤ 4) (hx2 : 0 ≤ x2.toInt ∧ x2.toInt ≤ 4)   (N : Nat) : ∀ (x3 : Int32) (x4 : Int32) (S : Tr) (L : Lo), aG 1 zaG S → pI S → gI 0 S → iR BM S → 0 ≤ x4.toInt ∧ x4.toInt ≤ 1000 → (S 62 0).toInt ≤ 20 → 1000 - x4.toInt < (N : Int) → D (lpF (fun _ _ _ _ => none) (fB_X8_least_L79 x1 x2) N x3 x4 S L) (fun (q : Int32 × Tr × Lo) => (iR BM (q.2.1)) ∧ (aG 1 zaG (q.2.1)) ∧ (pI (q.2.1)) ∧ (gI 0 (q.2.1))) := by
  induction N with
  | zero =>
    intro x3 x4 S L daG dpI dg0 hS hx4 h620 hN
    exfalso
    omega
  | succ N79 ih =>
    intro x3 x4 S L daG dpI dg0 hS hx4 h620 hN
    have hk79 : ∀ (x3 : Int32) (x4 : Int32) (S : Tr) (L : Lo), aG 1 zaG S → pI S → gI 0 S → iR BM S → 0 ≤ x4.toInt ∧ x4.toInt ≤ 1000 → (S 62 0).toInt ≤ 20 → 1000 - x4.toInt < (N79 : Int) → D (lpF (fun _ _ _ _ => none) (fB_X8_least_L79 x1 x2) N79 x3 x4 S L) (fun (q : Int32 × Tr × Lo) => (iR BM (q.2.1)) ∧ (aG 1 zaG (q.2.1)) ∧ (pI (q.2.1)) ∧ (gI 0 (q.2.1))) := ih
    show D (fB_X8_least_L79 x1 x2 (lpF (fun _ _ _ _ => none) (fB_X8_least_L79 x1 x2) N79) x3 x4 S L) _
    generalize lpF (fun _ _ _ _ => none) (fB_X8_least_L79 x1 x2) N79 = k79 at hk79 ⊢
    have hN79 : 1000 - x4.toInt < (N79 : Int) + 1 := by omega
    clear ih
    unfold fB_X8_least_L79
    have n22 : 0 ≤ (S 62 0).toInt ∧ (S 62 0).toInt ≤ 21 := hS 62 0
    have n23 : 0 ≤ (S 62 1).toInt ∧ (S 62 1).toInt ≤ 21 := hS 62 1
    have n24 : 0 ≤ (S 0 14).toInt ∧ (S 0 14).toInt ≤ 10 := hS 0 14
    have n25 : 0 ≤ (S 0 13).toInt ∧ (S 0 13).toInt ≤ 6 := hS 0 13
    have n26 : 0 ≤ (S 0 12).toInt ∧ (S 0 12).toInt ≤ 5 := hS 0 12
    refine D_bd (t_X8_powerOf (S 0 12) x2 ⟨(by clear hx1 hx2 hx4 h620 hN79 hN n22 n23 n24 n25; omega), (by clear hx1 hx2 hx4 h620 hN79 hN n22 n23 n24 n25; omega)⟩ ⟨(by clear hx1 hx4 h620 hN79 hN n22 n23 n24 n25 n26; omega), (by clear hx1 hx4 h620 hN79 hN n22 n23 n24 n25 n26; omega)⟩) (fun r27 eq29 hq28 => ?_)
    obtain ⟨p30, p31, p32⟩ : (0 ≤ r27.toInt ∧ r27.toInt ≤ 625) ∧ (1 ≤ (S 0 12).toInt → 1 ≤ r27.toInt) ∧ (1 ≤ x2.toInt → (S 0 12).toInt = 0 → r27.toInt = 0) := hq28
    have n33 := i_rng r27
    refine D_ite (fun c34 => ?_) (fun c34 => ?_)
    · have kc34 := tq_le (x := r27) (y := x4) rfl rfl c34
      unfold fJ_X8_least_J279
      have n36 := i_rng x3
      refine D_ite (fun c35 => ?_) (fun c35 => ?_)
      · have kc35 := tq_le (x := (0 : Int32)) (y := x3) (a := 0) (by decide) rfl c35
        refine D_ite (fun c37 => ?_) (fun c37 => ?_)
        · have kc37 := tq_eq (x := x1) (y := (0 : Int32)) rfl (b := 0) (by decide) c37
          exact D_some (show (iR BM S) ∧ (aG 1 zaG S) ∧ (pI S) ∧ (gI 0 S) from ⟨hS, daG, dpI, dg0⟩)
        · have kc370 := tq_eqn (x := x1) (y := (0 : Int32)) rfl (b := 0) (by decide) c37
          have kc37 : 1 ≤ x1.toInt := (by clear hx2 hx4 h620 hN79 hN n22 n23 n24 n25 n26 p30 p31 p32 n33 kc34 n36 kc35; omega)
          clear kc370
          refine D_ite (fun c38 => ?_) (fun c38 => ?_)
          · have kc38 := tq_le (x := x1) (y := x2) rfl rfl c38
            have n39 : (x1 - 1).toInt = x1.toInt - 1 := i_subK rfl (by decide) (by clear h620 hN79 hN n22 n23 n24 n25 n36 kc35; omega) (by clear h620 hN79 hN n22 n23 n24 n25 n36 kc35; omega)
            refine D_ck (okI_of (by clear h620 hN79 hN n22 n23 n24 n25 n36 kc35; omega) (by clear h620 hN79 hN n22 n23 n24 n25 n36 kc35; omega)) ?_
            have n40 := i_rng (S 76 (x1 - 1).toNatClampNeg)
            exact D_some (show (iR BM S) ∧ (aG 1 zaG S) ∧ (pI S) ∧ (gI 0 S) from ⟨hS, daG, dpI, dg0⟩)
          · have kc38 := tq_len (x := x1) (y := x2) rfl rfl c38
            have lm2 : ((-2) : Int32).toInt = (-2) := by decide
            exact D_some (show (iR BM S) ∧ (aG 1 zaG S) ∧ (pI S) ∧ (gI 0 S) from ⟨hS, daG, dpI, dg0⟩)
      · have kc35 := tq_len (x := (0 : Int32)) (y := x3) (a := 0) (by decide) rfl c35
        have lm3 : ((-3) : Int32).toInt = (-3) := by decide
        exact D_some (show (iR BM S) ∧ (aG 1 zaG S) ∧ (pI S) ∧ (gI 0 S) from ⟨hS, daG, dpI, dg0⟩)
    · have kc34 := tq_len (x := r27) (y := x4) rfl rfl c34
      refine D_bd (t_X8_layTried S hS dg0 dpI) (fun S_41 eq43 hq42 => ?_)
      obtain ⟨p44, p45, p46, p47, p48, p49⟩ : (iR BM S_41) ∧ (aG 1 S S_41) ∧ (gI 1 S_41) ∧ (pI S_41) ∧ (S_41 62 1 = S 62 0) ∧ (S_41 61 1 = S 61 0) := hq42
      have k50 : aG 1 zaG S_41 := aG_tr daG p45
      have n51 : (S_41 0 12).toInt = (S 0 12).toInt := congrArg Int32.toInt (p45 0 _ rfl)
      have n52 : (S_41 0 13).toInt = (S 0 13).toInt := congrArg Int32.toInt (p45 0 _ rfl)
      have n53 : (S_41 0 14).toInt = (S 0 14).toInt := congrArg Int32.toInt (p45 0 _ rfl)
      have n54 : (S_41 62 0).toInt = (S 62 0).toInt := congrArg Int32.toInt (p45 62 _ rfl)
      have kpI_t55 : pI S_41 := (pI_aG dpI p45)
      have kg0_t56 : gI 0 S_41 := (gI0_G1 hS dg0 p45)
      have kgI_t57 : gI 1 S_41 := p46
      have n58 : 0 ≤ (S_41 62 1).toInt ∧ (S_41 62 1).toInt ≤ 21 := p44 62 1
      have kz59 : (S_41 62 1).toInt = (S 62 0).toInt := congrArg Int32.toInt p48
      have l0 : (0 : Int32).toInt = 0 := by decide
      have n192 := i_rng x3
      exact tl_X8_least_L99 zaG L x1 x2 x3 x4 N79 ⟨(by clear hx2 hx4 h620 hN79 hN n22 n23 n24 n25 n26 p30 p31 p32 n33 kc34 n51 n52 n53 n54 n58 kz59 n192; omega), (by clear hx2 hx4 h620 hN79 hN n22 n23 n24 n25 n26 p30 p31 p32 n33 kc34 n51 n52 n53 n54 n58 kz59 n192; omega)⟩ ⟨(by clear hx1 h620 hN79 hN n22 n23 n24 n25 n52 n53 n54 n58 kz59 n192; omega), (by clear hx1 h620 hN79 hN n22 n23 n24 n25 n52 n53 n54 n58 kz59 n192; omega)⟩ ⟨(by clear hx1 h620 hN79 hN n22 n23 n24 n25 n52 n53 n54 n58 kz59 n192; omega), (by clear hx1 h620 hN79 hN n22 n23 n24 n25 n52 n53 n54 n58 kz59 n192; omega)⟩ hN79 k79 hk79 2000 (0 : Int32) S_41 k50 kpI_t55 kg0_t56 kgI_t57 p44 ⟨(by clear hx1 hx2 hx4 h620 hN79 hN n22 n23 n24 n25 n26 p30 p31 p32 n33 kc34 n51 n52 n53 n54 n58 kz59 n192; omega), (by clear hx1 hx2 hx4 h620 hN79 hN n22 n23 n24 n25 n26 p30 p31 p32 n33 kc34 n51 n52 n53 n54 n58 kz59 n192; omega)⟩ (by clear hx1 hx2 hx4 hN79 hN n23 n24 n25 n26 p30 p31 p32 n33 kc34 n51 n52 n53 n192; omega) (by clear hx1 hx2 hx4 hN79 hN n23 n24 n25 n26 p30 p31 p32 n33 kc34 n51 n52 n53 n192; omega) (by clear hx1 h620 hN79 hN n22 n23 n24 n25 n52 n53 n54 n58 kz59 n192; omega) (by clear hx1 hx2 hx4 h620 hN79 hN n22 n23 n24 n25 n26 p30 p31 p32 n33 kc34 n51 n52 n53 n54 n58 kz59 n192; omega)
set_option maxHeartbeats 1000000 in
set_option maxRecDepth 100000 in
theorem tl_X8_least_L31 (zaG : Tr) (L : Lo) (x1 : Int32) (hx1 : 0 ≤ x1.toInt ∧ x1.toInt ≤ 4)   (N : Nat) : ∀ (x2 : Int32) (x3 : Int32) (S : Tr), aG 1 zaG S → pI S → gI 0 S → iR BM S → 0 ≤ x2.toInt ∧ x2.toInt ≤ 4 → 0 ≤ x3.toInt ∧ x3.toInt ≤ 1000 → (S 62 0).toInt ≤ 20 → 1000 - x3.toInt < (N : Int) → D (lpF (fun _ _ _ => none) (fB_X8_least_L31 L x1) N x2 x3 S) (fun (q : Int32 × Tr × Lo) => (iR BM (q.2.1)) ∧ (aG 1 zaG (q.2.1)) ∧ (pI (q.2.1)) ∧ (gI 0 (q.2.1))) := by
  induction N with
  | zero =>
    intro x2 x3 S daG dpI dg0 hS hx2 hx3 h620 hN
    exfalso
    omega
  | succ N31 ih =>
    intro x2 x3 S daG dpI dg0 hS hx2 hx3 h620 hN
    have hk31 : ∀ (x2 : Int32) (x3 : Int32) (S : Tr), aG 1 zaG S → pI S → gI 0 S → iR BM S → 0 ≤ x2.toInt ∧ x2.toInt ≤ 4 → 0 ≤ x3.toInt ∧ x3.toInt ≤ 1000 → (S 62 0).toInt ≤ 20 → 1000 - x3.toInt < (N31 : Int) → D (lpF (fun _ _ _ => none) (fB_X8_least_L31 L x1) N31 x2 x3 S) (fun (q : Int32 × Tr × Lo) => (iR BM (q.2.1)) ∧ (aG 1 zaG (q.2.1)) ∧ (pI (q.2.1)) ∧ (gI 0 (q.2.1))) := ih
    show D (fB_X8_least_L31 L x1 (lpF (fun _ _ _ => none) (fB_X8_least_L31 L x1) N31) x2 x3 S) _
    generalize lpF (fun _ _ _ => none) (fB_X8_least_L31 L x1) N31 = k31 at hk31 ⊢
    have hN31 : 1000 - x3.toInt < (N31 : Int) + 1 := by omega
    clear ih
    unfold fB_X8_least_L31
    have n16 : 0 ≤ (S 62 0).toInt ∧ (S 62 0).toInt ≤ 21 := hS 62 0
    have n17 : 0 ≤ (S 62 1).toInt ∧ (S 62 1).toInt ≤ 21 := hS 62 1
    have n18 : 0 ≤ (S 0 14).toInt ∧ (S 0 14).toInt ≤ 10 := hS 0 14
    have n19 : 0 ≤ (S 0 13).toInt ∧ (S 0 13).toInt ≤ 6 := hS 0 13
    have n20 : 0 ≤ (S 0 12).toInt ∧ (S 0 12).toInt ≤ 5 := hS 0 12
    refine D_ite (fun c21 => ?_) (fun c21 => ?_)
    · have kc21 := tq_le (x := (S 0 14)) (y := x3) rfl rfl c21
      have lm1 : ((-1) : Int32).toInt = (-1) := by decide
      have l0 : (0 : Int32).toInt = 0 := by decide
      exact tl_X8_least_L79 zaG x1 x2 ⟨(by clear hx2 hx3 h620 hN31 hN n16 n17 n18 n19 n20 kc21; omega), (by clear hx2 hx3 h620 hN31 hN n16 n17 n18 n19 n20 kc21; omega)⟩ ⟨(by clear hx1 hx3 h620 hN31 hN n16 n17 n18 n19 n20 kc21; omega), (by clear hx1 hx3 h620 hN31 hN n16 n17 n18 n19 n20 kc21; omega)⟩   2000 ((-1) : Int32) (0 : Int32) S L daG dpI dg0 hS ⟨(by clear hx1 hx2 hx3 h620 hN31 hN n16 n17 n18 n19 n20 kc21; omega), (by clear hx1 hx2 hx3 h620 hN31 hN n16 n17 n18 n19 n20 kc21; omega)⟩ (by clear hx1 hx2 hx3 hN31 hN n17 n18 n19 n20 kc21; omega) (by clear hx1 hx2 hx3 h620 hN31 hN n16 n17 n18 n19 n20 kc21; omega)
    · have kc21 := tq_len (x := (S 0 14)) (y := x3) rfl rfl c21
      refine D_bd (t_X8_isComing S x3 hS ⟨(by clear hx1 hx2 h620 hN31 hN n16 n17 n19 n20; omega), (by clear hx1 hx2 h620 hN31 hN n16 n17 n19 n20; omega)⟩) (fun r193 eq195 hq194 => ?_)
      obtain ⟨p196, p197⟩ : (0 ≤ r193.toInt ∧ r193.toInt ≤ 1) ∧ (r193.toInt = 1 → (S 53 x3.toNatClampNeg).toInt = 0) := hq194
      refine D_ite (fun c198 => ?_) (fun c198 => ?_)
      · have kc198 := tq_eq (x := r193) (y := (0 : Int32)) rfl (b := 0) (by decide) c198
        have n200 : (x3 + 1).toInt = x3.toInt + 1 := i_addK rfl (by decide) (by clear hx1 hx2 h620 hN31 hN n16 n17 n19 n20 p196 p197 kc198; omega) (by clear hx1 hx2 h620 hN31 hN n16 n17 n19 n20 p196 p197 kc198; omega)
        refine D_lt (fun y199 ey199 => ?_)
        have hy199 : y199.toInt = (x3 + 1 : Int32).toInt := by rw [ey199]
        exact hk31 x2 y199 S daG dpI dg0 hS ⟨(by clear hx1 hx3 h620 hN31 hN n16 n17 n18 n19 n20 kc21 p196 p197 kc198 n200 hy199; omega), (by clear hx1 hx3 h620 hN31 hN n16 n17 n18 n19 n20 kc21 p196 p197 kc198 n200 hy199; omega)⟩ ⟨(by clear hx1 hx2 h620 hN31 hN n16 n17 n19 n20 p196 p197 kc198; omega), (by clear hx1 hx2 h620 hN31 hN n16 n17 n19 n20 p196 p197 kc198; omega)⟩ (by clear hx1 hx2 hx3 hN31 hN n17 n18 n19 n20 kc21 p196 p197 kc198 n200 hy199; omega) (by clear hx1 hx2 h620 n16 n17 n19 n20 p196 p197 kc198; omega)
      · have kc1980 := tq_eqn (x := r193) (y := (0 : Int32)) rfl (b := 0) (by decide) c198
        have kc198 : 1 ≤ r193.toInt := (by clear hx1 hx2 hx3 h620 hN31 hN n16 n17 n18 n19 n20 kc21; omega)
        clear kc1980
        refine D_ite (fun c201 => ?_) (fun c201 => ?_)
        · have kc201 := tq_eq (x := x2) (y := (4 : Int32)) rfl (b := 4) (by decide) c201
          have lm4 : ((-4) : Int32).toInt = (-4) := by decide
          exact D_some (show (iR BM S) ∧ (aG 1 zaG S) ∧ (pI S) ∧ (gI 0 S) from ⟨hS, daG, dpI, dg0⟩)
        · have kc2010 := tq_eqn (x := x2) (y := (4 : Int32)) rfl (b := 4) (by decide) c201
          have kc201 : x2.toInt ≤ 3 := (by clear hx1 hx3 h620 hN31 hN n16 n17 n18 n19 n20 kc21 p196 p197 kc198; omega)
          clear kc2010
          refine D_ck (okI_of (by clear hx1 hx3 h620 hN31 hN n16 n17 n18 n19 n20 kc21 p196 p197 kc198; omega) (by clear hx1 hx3 h620 hN31 hN n16 n17 n18 n19 n20 kc21 p196 p197 kc198; omega)) ?_
          refine D_lt (fun S_202 eS_202 => ?_)
          have hS_202 : iR BM S_202 := by rw [eS_202]; exact iR_set hS (show (0 : Int) ≤ _ from (by clear hx1 hx2 h620 hN31 hN n16 n17 n19 n20 p196 p197 kc198 kc201; omega)) (show _ ≤ (9 : Int) from (by clear hx1 hx2 h620 hN31 hN n16 n17 n19 n20 p196 p197 kc198 kc201; omega))
          have kaG_t203 : aG 1 zaG S_202 := (by rw [eS_202]; exact aG_set daG (Wb_t rfl))
          have kpI_t204 : pI S_202 := by rw [eS_202]; exact dpI
          have kg0_t205 : gI 0 S_202 := by rw [eS_202]; exact dg0
          have n207 : (S_202 0 12).toInt = (S 0 12).toInt := by rw [eS_202]; rfl
          have n208 : (S_202 0 14).toInt = (S 0 14).toInt := by rw [eS_202]; rfl
          have n209 : (S_202 62 1).toInt = (S 62 1).toInt := by rw [eS_202]; rfl
          have n210 : (S_202 62 0).toInt = (S 62 0).toInt := by rw [eS_202]; rfl
          have n211 : (S_202 0 13).toInt = (S 0 13).toInt := by rw [eS_202]; rfl
          have n213 : (x2 + 1).toInt = x2.toInt + 1 := i_addK rfl (by decide) (by clear hx1 hx3 h620 hN31 hN n16 n17 n18 n19 n20 kc21 p196 p197 kc198 n207 n208 n209 n210 n211; omega) (by clear hx1 hx3 h620 hN31 hN n16 n17 n18 n19 n20 kc21 p196 p197 kc198 n207 n208 n209 n210 n211; omega)
          refine D_lt (fun y212 ey212 => ?_)
          have hy212 : y212.toInt = (x2 + 1 : Int32).toInt := by rw [ey212]
          have n215 : (x3 + 1).toInt = x3.toInt + 1 := i_addK rfl (by decide) (by clear hx1 hx2 h620 hN31 hN n16 n17 n19 n20 p196 p197 kc198 kc201 n207 n209 n210 n211 n213 hy212; omega) (by clear hx1 hx2 h620 hN31 hN n16 n17 n19 n20 p196 p197 kc198 kc201 n207 n209 n210 n211 n213 hy212; omega)
          refine D_lt (fun y214 ey214 => ?_)
          have hy214 : y214.toInt = (x3 + 1 : Int32).toInt := by rw [ey214]
          exact hk31 y212 y214 S_202 kaG_t203 kpI_t204 kg0_t205 hS_202 ⟨(by clear hx1 hx3 h620 hN31 hN n16 n17 n18 n19 n20 kc21 p196 p197 kc198 n207 n208 n209 n210 n211 n215 hy214; omega), (by clear hx1 hx3 h620 hN31 hN n16 n17 n18 n19 n20 kc21 p196 p197 kc198 n207 n208 n209 n210 n211 n215 hy214; omega)⟩ ⟨(by clear hx1 hx2 h620 hN31 hN n16 n17 n19 n20 p196 p197 kc198 kc201 n207 n209 n210 n211 n213 hy212; omega), (by clear hx1 hx2 h620 hN31 hN n16 n17 n19 n20 p196 p197 kc198 kc201 n207 n209 n210 n211 n213 hy212; omega)⟩ (by clear hx1 hx2 hx3 hN31 hN n17 n18 n19 n20 kc21 p196 p197 kc198 kc201 n207 n208 n209 n211 n213 hy212 n215 hy214; omega) (by clear hx1 hx2 h620 n16 n17 n19 n20 p196 p197 kc198 kc201 n207 n209 n210 n211 n213 hy212; omega)
set_option maxHeartbeats 1000000 in
set_option maxRecDepth 100000 in
theorem t_X8_least (S : Tr) (L : Lo) (x1 : Int32) (hS : iR BM S) (dpI : pI S) (dg0 : gI 0 S) : D (f_X8_least S L x1) (fun (q : Int32 × Tr × Lo) => (iR BM (q.2.1)) ∧ (aG 1 S (q.2.1)) ∧ (pI (q.2.1)) ∧ (gI 0 (q.2.1))) := by
  unfold f_X8_least
  refine D_lt (fun S_1 eS_1 => ?_)
  have hS_1 : iR BM S_1 := by rw [eS_1]; exact iR_setU hS rfl
  have kaG_t2 : aG 1 S S_1 := (by rw [eS_1]; exact aG_set aG_rfl (Wb_t rfl))
  have kpI_t3 : pI S_1 := by rw [eS_1]; exact dpI
  have kg0_t4 : gI 0 S_1 := by rw [eS_1]; exact dg0
  have l0 : (0 : Int32).toInt = 0 := by decide
  have n6 : (S_1 0 2).toInt = (0 : Int32).toInt := by rw [eS_1]; rfl
  have n7 := i_rng x1
  have l4 : (4 : Int32).toInt = 4 := by decide
  refine D_bd (t_X8_isIn x1 (0 : Int32) (4 : Int32) ) (fun r8 eq10 hq9 => ?_)
  obtain ⟨p11, p12⟩ : (0 ≤ r8.toInt ∧ r8.toInt ≤ 1) ∧ (r8.toInt = 1 → (0 : Int32).toInt ≤ x1.toInt ∧ x1.toInt ≤ (4 : Int32).toInt) := hq9
  refine D_ite (fun c13 => ?_) (fun c13 => ?_)
  · have kc13 := tq_eq (x := r8) (y := (0 : Int32)) rfl (b := 0) (by decide) c13
    have lm1 : ((-1) : Int32).toInt = (-1) := by decide
    exact D_some (show (iR BM S_1) ∧ (aG 1 S S_1) ∧ (pI S_1) ∧ (gI 0 S_1) from ⟨hS_1, kaG_t2, kpI_t3, kg0_t4⟩)
  · have kc130 := tq_eqn (x := r8) (y := (0 : Int32)) rfl (b := 0) (by decide) c13
    have kc13 : 1 ≤ r8.toInt := (by omega)
    clear kc130
    have n15 : 0 ≤ (S_1 62 0).toInt ∧ (S_1 62 0).toInt ≤ 21 := hS_1 62 0
    refine D_ite (fun c14 => ?_) (fun c14 => ?_)
    · have kc14 := tq_lt (x := (S_1 62 0)) (y := (21 : Int32)) rfl (b := 21) (by decide) c14
      exact tl_X8_least_L31 S L x1 ⟨(by clear n6 n15 kc14; omega), (by clear n6 n15 kc14; omega)⟩   2000 (0 : Int32) (0 : Int32) S_1 kaG_t2 kpI_t3 kg0_t4 hS_1 ⟨(by clear n6 n7 p11 p12 kc13 n15 kc14; omega), (by clear n6 n7 p11 p12 kc13 n15 kc14; omega)⟩ ⟨(by clear n6 n7 p11 p12 kc13 n15 kc14; omega), (by clear n6 n7 p11 p12 kc13 n15 kc14; omega)⟩ (by clear n6 n7 p11 p12 kc13; omega) (by clear n6 n7 p11 p12 kc13 n15 kc14; omega)
    · have kc14 := tq_ltn (x := (S_1 62 0)) (y := (21 : Int32)) rfl (b := 21) (by decide) c14
      have lm1 : ((-1) : Int32).toInt = (-1) := by decide
      exact D_some (show (iR BM S_1) ∧ (aG 1 S S_1) ∧ (pI S_1) ∧ (gI 0 S_1) from ⟨hS_1, kaG_t2, kpI_t3, kg0_t4⟩)
set_option maxHeartbeats 1000000 in
set_option maxRecDepth 100000 in
theorem tl_X8_find_26_L3 (S : Tr) (x1 : Int32) (x2 : Int32) (x3 : Int32) (hS : iR BM S) (hx1 : 0 ≤ x1.toInt ∧ x1.toInt ≤ 6) (hx2 : 0 ≤ x2.toInt ∧ x2.toInt ≤ 6)   (N : Nat) : ∀ (x4 : Int32), 0 ≤ x4.toInt ∧ x4.toInt ≤ 1000 → 1000 - x4.toInt < (N : Int) → D (lpF (fun _ => none) (fB_X8_find_26_L3 S x1 x2 x3) N x4) (fun (q : Int32) => ((-1) ≤ q.toInt ∧ q.toInt ≤ 5)) := by
  induction N with
  | zero =>
    intro x4 hx4 hN
    exfalso
    omega
  | succ N3 ih =>
    intro x4 hx4 hN
    have hk3 : ∀ (x4 : Int32), 0 ≤ x4.toInt ∧ x4.toInt ≤ 1000 → 1000 - x4.toInt < (N3 : Int) → D (lpF (fun _ => none) (fB_X8_find_26_L3 S x1 x2 x3) N3 x4) (fun (q : Int32) => ((-1) ≤ q.toInt ∧ q.toInt ≤ 5)) := ih
    show D (fB_X8_find_26_L3 S x1 x2 x3 (lpF (fun _ => none) (fB_X8_find_26_L3 S x1 x2 x3) N3) x4) _
    generalize lpF (fun _ => none) (fB_X8_find_26_L3 S x1 x2 x3) N3 = k3 at hk3 ⊢
    have hN3 : 1000 - x4.toInt < (N3 : Int) + 1 := by omega
    clear ih
    unfold fB_X8_find_26_L3
    refine D_ite (fun c1 => ?_) (fun c1 => ?_)
    · have kc1 := tq_le (x := x2) (y := x4) rfl rfl c1
      have lm1 : ((-1) : Int32).toInt = (-1) := by decide
      exact D_some (show ((-1) ≤ ((-1) : Int32).toInt ∧ ((-1) : Int32).toInt ≤ 5) from ⟨(by clear hx1 hx2 hx4 hN3 hN kc1; omega), (by clear hx1 hx2 hx4 hN3 hN kc1; omega)⟩)
    · have kc1 := tq_len (x := x2) (y := x4) rfl rfl c1
      have n2 : (x1 + x4).toInt = x1.toInt + x4.toInt := i_addK rfl rfl (by omega) (by omega)
      refine D_ck (okI_of (by omega) (by omega)) ?_
      have n4 := i_rng (S 26 (x1 + x4).toNatClampNeg)
      have n5 := i_rng x3
      refine D_ite (fun c3 => ?_) (fun c3 => ?_)
      · have kc3 := tq_eq (x := (S 26 (x1 + x4).toNatClampNeg)) (y := x3) rfl rfl c3
        exact D_some (show ((-1) ≤ x4.toInt ∧ x4.toInt ≤ 5) from ⟨(by clear hN3 hN n4 n5 kc3; omega), (by clear hN3 hN n4 n5 kc3; omega)⟩)
      · skip
        have n7 : (x4 + 1).toInt = x4.toInt + 1 := i_addK rfl (by decide) (by clear hN3 hN n4 n5; omega) (by clear hN3 hN n4 n5; omega)
        refine D_lt (fun y6 ey6 => ?_)
        have hy6 : y6.toInt = (x4 + 1 : Int32).toInt := by rw [ey6]
        exact hk3 y6 ⟨(by clear hN3 hN n4 n5; omega), (by clear hN3 hN n4 n5; omega)⟩ (by omega)
set_option maxHeartbeats 1000000 in
set_option maxRecDepth 100000 in
theorem t_X8_find_26 (S : Tr) (x1 : Int32) (x2 : Int32) (x3 : Int32) (hS : iR BM S) (hx1 : 0 ≤ x1.toInt ∧ x1.toInt ≤ 6) (hx2 : 0 ≤ x2.toInt ∧ x2.toInt ≤ 6) : D (f_X8_find_26 S x1 x2 x3) (fun (q : Int32) => ((-1) ≤ q.toInt ∧ q.toInt ≤ 5)) := by
  unfold f_X8_find_26
  have l0 : (0 : Int32).toInt = 0 := by decide
  have n8 := i_rng x3
  exact tl_X8_find_26_L3 S x1 x2 x3 hS ⟨(by omega), (by omega)⟩ ⟨(by omega), (by omega)⟩   2000 (0 : Int32) ⟨(by clear hx1 hx2 n8; omega), (by clear hx1 hx2 n8; omega)⟩ (by clear hx1 hx2 n8; omega)
set_option maxHeartbeats 1000000 in
set_option maxRecDepth 100000 in
theorem tl_X8_mine_L53 (zaG : Tr) (x1 : Int32) (x2 : Int32) (hx1 : 0 ≤ x1.toInt ∧ x1.toInt ≤ 9)   (N : Nat) : ∀ (x3 : Int32) (x4 : Int32) (x5 : Int32) (S : Tr) (L : Lo), aG 1 zaG S → pI S → gI 0 S → iR BM S → 0 ≤ x5.toInt ∧ x5.toInt ≤ 1000 → (S 62 0).toInt ≤ 20 → 1000 - x5.toInt < (N : Int) → D (lpF (fun _ _ _ _ _ => none) (fB_X8_mine_L53 x1 x2) N x3 x4 x5 S L) (fun (q : Int32 × Tr × Lo) => (iR BM (q.2.1)) ∧ (aG 1 zaG (q.2.1)) ∧ (pI (q.2.1)) ∧ (gI 0 (q.2.1))) := by
  induction N with
  | zero =>
    intro x3 x4 x5 S L daG dpI dg0 hS hx5 h620 hN
    exfalso
    omega
  | succ N53 ih =>
    intro x3 x4 x5 S L daG dpI dg0 hS hx5 h620 hN
    have hk53 : ∀ (x3 : Int32) (x4 : Int32) (x5 : Int32) (S : Tr) (L : Lo), aG 1 zaG S → pI S → gI 0 S → iR BM S → 0 ≤ x5.toInt ∧ x5.toInt ≤ 1000 → (S 62 0).toInt ≤ 20 → 1000 - x5.toInt < (N53 : Int) → D (lpF (fun _ _ _ _ _ => none) (fB_X8_mine_L53 x1 x2) N53 x3 x4 x5 S L) (fun (q : Int32 × Tr × Lo) => (iR BM (q.2.1)) ∧ (aG 1 zaG (q.2.1)) ∧ (pI (q.2.1)) ∧ (gI 0 (q.2.1))) := ih
    show D (fB_X8_mine_L53 x1 x2 (lpF (fun _ _ _ _ _ => none) (fB_X8_mine_L53 x1 x2) N53) x3 x4 x5 S L) _
    generalize lpF (fun _ _ _ _ _ => none) (fB_X8_mine_L53 x1 x2) N53 = k53 at hk53 ⊢
    have hN53 : 1000 - x5.toInt < (N53 : Int) + 1 := by omega
    clear ih
    unfold fB_X8_mine_L53
    have n32 : 0 ≤ (S 62 0).toInt ∧ (S 62 0).toInt ≤ 21 := hS 62 0
    have n33 : 0 ≤ (S 0 14).toInt ∧ (S 0 14).toInt ≤ 10 := hS 0 14
    have n34 : 0 ≤ (S 0 13).toInt ∧ (S 0 13).toInt ≤ 6 := hS 0 13
    have n35 : 0 ≤ (S 0 12).toInt ∧ (S 0 12).toInt ≤ 5 := hS 0 12
    refine D_ite (fun c36 => ?_) (fun c36 => ?_)
    · have kc36 := tq_le (x := (S 0 12)) (y := x5) rfl rfl c36
      unfold fJ_X8_mine_J166
      have n38 := i_rng (x2 - x2 / 2 * 2)
      refine D_ite (fun c37 => ?_) (fun c37 => ?_)
      · have kc37 := tq_eq (x := (x2 - x2 / 2 * 2)) (y := (0 : Int32)) rfl (b := 0) (by decide) c37
        have n39 := i_rng x3
        exact D_some (show (iR BM S) ∧ (aG 1 zaG S) ∧ (pI S) ∧ (gI 0 S) from ⟨hS, daG, dpI, dg0⟩)
      · skip
        have n40 := i_rng x4
        exact D_some (show (iR BM S) ∧ (aG 1 zaG S) ∧ (pI S) ∧ (gI 0 S) from ⟨hS, daG, dpI, dg0⟩)
    · have kc36 := tq_len (x := (S 0 12)) (y := x5) rfl rfl c36
      refine D_bd (t_X8_layTried S hS dg0 dpI) (fun S_41 eq43 hq42 => ?_)
      obtain ⟨p44, p45, p46, p47, p48, p49⟩ : (iR BM S_41) ∧ (aG 1 S S_41) ∧ (gI 1 S_41) ∧ (pI S_41) ∧ (S_41 62 1 = S 62 0) ∧ (S_41 61 1 = S 61 0) := hq42
      have k50 : aG 1 zaG S_41 := aG_tr daG p45
      have n51 : (S_41 0 12).toInt = (S 0 12).toInt := congrArg Int32.toInt (p45 0 _ rfl)
      have n52 : (S_41 0 13).toInt = (S 0 13).toInt := congrArg Int32.toInt (p45 0 _ rfl)
      have n53 : (S_41 0 14).toInt = (S 0 14).toInt := congrArg Int32.toInt (p45 0 _ rfl)
      have n54 : (S_41 62 0).toInt = (S 62 0).toInt := congrArg Int32.toInt (p45 62 _ rfl)
      have kpI_t55 : pI S_41 := (pI_aG dpI p45)
      have kg0_t56 : gI 0 S_41 := (gI0_G1 hS dg0 p45)
      have kgI_t57 : gI 1 S_41 := p46
      have n58 : 0 ≤ (S_41 62 1).toInt ∧ (S_41 62 1).toInt ≤ 21 := p44 62 1
      have kz59 : (S_41 62 1).toInt = (S 62 0).toInt := congrArg Int32.toInt p48
      refine D_ck (okI_of (by clear hx5 h620 hN53 hN n32 n33 n34 n35 kc36 n51 n52 n53 n54 n58 kz59; omega) (by clear hx5 h620 hN53 hN n32 n33 n34 n35 kc36 n51 n52 n53 n54 n58 kz59; omega)) ?_
      refine D_lt (fun S_60 eS_60 => ?_)
      have hS_60 : iR BM S_60 := by rw [eS_60]; exact iR_set p44 (show ((-1) : Int) ≤ _ from (by clear hx1 h620 hN53 hN n32 n33 n34 n52 n53 n54 n58 kz59; omega)) (show _ ≤ (4 : Int) from (by clear hx1 h620 hN53 hN n32 n33 n34 n52 n53 n54 n58 kz59; omega))
      have kaG_t61 : aG 1 zaG S_60 := (by rw [eS_60]; exact aG_set k50 (Wb_t rfl))
      have kpI_t62 : pI S_60 := by rw [eS_60]; exact kpI_t55
      have kg0_t63 : gI 0 S_60 := by rw [eS_60]; exact kg0_t56
      have kgI_t64 : gI 1 S_60 := by rw [eS_60]; exact kgI_t57
      have n65 : (S_60 0 13).toInt = (S_41 0 13).toInt := by rw [eS_60]; rfl
      have n66 : (S_60 0 12).toInt = (S_41 0 12).toInt := by rw [eS_60]; rfl
      have n67 : (S_60 62 0).toInt = (S_41 62 0).toInt := by rw [eS_60]; rfl
      have n68 : (S_60 62 1).toInt = (S_41 62 1).toInt := by rw [eS_60]; rfl
      have n69 : (S_60 0 14).toInt = (S_41 0 14).toInt := by rw [eS_60]; rfl
      have l1 : (1 : Int32).toInt = 1 := by decide
      refine D_bd2 (t_X8_goOn S_60 L (1 : Int32) hS_60 kpI_t62 kgI_t64 ⟨(by clear hx1 hx5 h620 hN53 hN n32 n33 n34 n35 kc36 n51 n52 n53 n54 n58 kz59 n65 n66 n67 n68 n69; omega), (by clear hx1 hx5 h620 hN53 hN n32 n33 n34 n35 kc36 n51 n52 n53 n54 n58 kz59 n65 n66 n67 n68 n69; omega)⟩ (show (S_60 62 1).toInt ≤ 20 from (by first | assumption | exact (by clear hx1 hx5 hN53 hN n33 n34 n35 kc36 n51 n52 n53 n65 n66 n69; omega)))) (fun S_70 L_71 eq73 hq72 => ?_)
      refine D_lte (y := S_70) rfl ?_
      refine D_lte (y := L_71) rfl ?_
      obtain ⟨p74, p75, p76, p77, p78⟩ : (iR BM S_70) ∧ (aG 1 S_60 S_70) ∧ (pI S_70) ∧ (gI 1 S_70) ∧ ((S_70 62 1).toInt = (S_60 62 1).toInt + 1) := hq72
      have k79 : aG 1 zaG S_70 := aG_tr kaG_t61 p75
      have n80 : (S_70 0 12).toInt = (S_60 0 12).toInt := congrArg Int32.toInt (p75 0 _ rfl)
      have n81 : (S_70 0 13).toInt = (S_60 0 13).toInt := congrArg Int32.toInt (p75 0 _ rfl)
      have n82 : (S_70 0 14).toInt = (S_60 0 14).toInt := congrArg Int32.toInt (p75 0 _ rfl)
      have n83 : (S_70 62 0).toInt = (S_60 62 0).toInt := congrArg Int32.toInt (p75 62 _ rfl)
      have kg0_t84 : gI 0 S_70 := (gI0_G1 hS_60 kg0_t63 p75)
      have n85 : ((10 : Int32) + x1).toInt = 10 + x1.toInt := i_addK (by decide) rfl (by clear hx5 h620 hN53 hN n32 n33 n34 n35 kc36 n51 n52 n53 n54 n58 kz59 n65 n66 n67 n68 n69 p78 n80 n81 n82 n83; omega) (by clear hx5 h620 hN53 hN n32 n33 n34 n35 kc36 n51 n52 n53 n54 n58 kz59 n65 n66 n67 n68 n69 p78 n80 n81 n82 n83; omega)
      refine D_ck (okI_of (by clear hx5 h620 hN53 hN n32 n33 n34 n35 kc36 n51 n52 n53 n54 n58 kz59 n65 n66 n67 n68 n69 p78 n80 n81 n82 n83; omega) (by clear hx5 h620 hN53 hN n32 n33 n34 n35 kc36 n51 n52 n53 n54 n58 kz59 n65 n66 n67 n68 n69 p78 n80 n81 n82 n83; omega)) ?_
      have n87 : 0 ≤ (S_70 53 ((10 : Int32) + x1).toNatClampNeg).toInt ∧ (S_70 53 ((10 : Int32) + x1).toNatClampNeg).toInt ≤ 5 := p74 53 (((10 : Int32) + x1).toNatClampNeg)
      refine D_ite (fun c86 => ?_) (fun c86 => ?_)
      · have kc86 := tq_eq (x := (S_70 53 ((10 : Int32) + x1).toNatClampNeg)) (y := (5 : Int32)) rfl (b := 5) (by decide) c86
        have n89 : (x5 + 1).toInt = x5.toInt + 1 := i_addK rfl (by decide) (by clear hx1 h620 hN53 hN n32 n33 n34 n52 n53 n54 n58 kz59 n65 n67 n68 n69 p78 n81 n82 n83 n85 n87 kc86; omega) (by clear hx1 h620 hN53 hN n32 n33 n34 n52 n53 n54 n58 kz59 n65 n67 n68 n69 p78 n81 n82 n83 n85 n87 kc86; omega)
        refine D_lt (fun y88 ey88 => ?_)
        have hy88 : y88.toInt = (x5 + 1 : Int32).toInt := by rw [ey88]
        have n90 := i_rng x3
        have n91 := i_rng x4
        exact hk53 x3 x4 y88 S_70 L_71 k79 p76 kg0_t84 p74 ⟨(by clear hx1 h620 hN53 hN n32 n33 n34 n52 n53 n54 n58 kz59 n65 n67 n68 n69 p78 n81 n82 n83 n85 n87 kc86 n90 n91; omega), (by clear hx1 h620 hN53 hN n32 n33 n34 n52 n53 n54 n58 kz59 n65 n67 n68 n69 p78 n81 n82 n83 n85 n87 kc86 n90 n91; omega)⟩ (by clear hx1 hx5 hN53 hN n33 n34 n35 kc36 n51 n52 n53 n65 n66 n69 n80 n81 n82 n85 n87 kc86 n89 hy88 n90 n91; omega) (by clear hx1 h620 n32 n33 n34 n52 n53 n54 n58 kz59 n65 n67 n68 n69 p78 n81 n82 n83 n85 n87 kc86 n90 n91; omega)
      · have kc860 := tq_eqn (x := (S_70 53 ((10 : Int32) + x1).toNatClampNeg)) (y := (5 : Int32)) rfl (b := 5) (by decide) c86
        have kc86 : (S_70 53 ((10 : Int32) + x1).toNatClampNeg).toInt ≤ 4 := (by clear hx1 hx5 h620 hN53 hN n32 n33 n34 n35 kc36 n51 n52 n53 n54 n58 kz59 n65 n66 n67 n68 n69 p78 n80 n81 n82 n83 n85; omega)
        clear kc860
        refine D_bd2 (t_X8_toEnd S_70 L_71 p74 p76 p77) (fun S_92 L_93 eq95 hq94 => ?_)
        refine D_lte (y := S_92) rfl ?_
        refine D_lte (y := L_93) rfl ?_
        obtain ⟨p96, p97, p98, p99⟩ : (iR BM S_92) ∧ (aG 1 S_70 S_92) ∧ (pI S_92) ∧ (gI 1 S_92) := hq94
        have k100 : aG 1 zaG S_92 := aG_tr k79 p97
        have n101 : (S_92 0 12).toInt = (S_70 0 12).toInt := congrArg Int32.toInt (p97 0 _ rfl)
        have n102 : (S_92 0 13).toInt = (S_70 0 13).toInt := congrArg Int32.toInt (p97 0 _ rfl)
        have n103 : (S_92 0 14).toInt = (S_70 0 14).toInt := congrArg Int32.toInt (p97 0 _ rfl)
        have n104 : (S_92 62 0).toInt = (S_70 62 0).toInt := congrArg Int32.toInt (p97 62 _ rfl)
        have kg0_t105 : gI 0 S_92 := (gI0_G1 p74 kg0_t84 p97)
        have n107 := i_rng x2
        refine D_ite (fun c106 => ?_) (fun c106 => ?_)
        · have kc106 := tq_le (x := (2 : Int32)) (y := x2) (a := 2) (by decide) rfl c106
          refine D_bd (t_X8_more S_92 p96) (fun r108 eq110 hq109 => ?_)
          have n111 := i_rng r108
          unfold fJ_X8_mine_J137
          have n113 := i_rng x3
          refine D_ite (fun c112 => ?_) (fun c112 => ?_)
          · have kc112 := tq_lt (x := x3) (y := (0 : Int32)) rfl (b := 0) (by decide) c112
            unfold fJ_X8_mine_J153
            have n115 : (x5 + 1).toInt = x5.toInt + 1 := i_addK rfl (by decide) (by clear hx1 h620 hN53 hN n32 n33 n34 n52 n53 n54 n58 kz59 n65 n67 n68 n69 p78 n81 n82 n83 n85 n87 kc86 n102 n103 n104 n107 kc106 n111 n113 kc112; omega) (by clear hx1 h620 hN53 hN n32 n33 n34 n52 n53 n54 n58 kz59 n65 n67 n68 n69 p78 n81 n82 n83 n85 n87 kc86 n102 n103 n104 n107 kc106 n111 n113 kc112; omega)
            refine D_lt (fun y114 ey114 => ?_)
            have hy114 : y114.toInt = (x5 + 1 : Int32).toInt := by rw [ey114]
            exact hk53 x5 r108 y114 S_92 L_93 k100 p98 kg0_t105 p96 ⟨(by clear hx1 h620 hN53 hN n32 n33 n34 n52 n53 n54 n58 kz59 n65 n67 n68 n69 p78 n81 n82 n83 n85 n87 kc86 n102 n103 n104 n107 kc106 n111 n113 kc112; omega), (by clear hx1 h620 hN53 hN n32 n33 n34 n52 n53 n54 n58 kz59 n65 n67 n68 n69 p78 n81 n82 n83 n85 n87 kc86 n102 n103 n104 n107 kc106 n111 n113 kc112; omega)⟩ (by clear hx1 hx5 hN53 hN n33 n34 n35 kc36 n51 n52 n53 n65 n66 n69 n80 n81 n82 n85 n87 kc86 n101 n102 n103 n107 kc106 n111 n113 kc112 n115 hy114; omega) (by clear hx1 h620 n32 n33 n34 n52 n53 n54 n58 kz59 n65 n67 n68 n69 p78 n81 n82 n83 n85 n87 kc86 n102 n103 n104 n107 kc106 n111 n113 kc112; omega)
          · have kc112 := tq_ltn (x := x3) (y := (0 : Int32)) rfl (b := 0) (by decide) c112
            have n117 := i_rng x4
            refine D_ite (fun c116 => ?_) (fun c116 => ?_)
            · have kc116 := tq_lt (x := r108) (y := x4) rfl rfl c116
              unfold fJ_X8_mine_J153
              have n119 : (x5 + 1).toInt = x5.toInt + 1 := i_addK rfl (by decide) (by clear hx1 h620 hN53 hN n32 n33 n34 n52 n53 n54 n58 kz59 n65 n67 n68 n69 p78 n81 n82 n83 n85 n87 kc86 n102 n103 n104 n107 kc106 n111 n113 kc112 n117 kc116; omega) (by clear hx1 h620 hN53 hN n32 n33 n34 n52 n53 n54 n58 kz59 n65 n67 n68 n69 p78 n81 n82 n83 n85 n87 kc86 n102 n103 n104 n107 kc106 n111 n113 kc112 n117 kc116; omega)
              refine D_lt (fun y118 ey118 => ?_)
              have hy118 : y118.toInt = (x5 + 1 : Int32).toInt := by rw [ey118]
              exact hk53 x5 r108 y118 S_92 L_93 k100 p98 kg0_t105 p96 ⟨(by clear hx1 h620 hN53 hN n32 n33 n34 n52 n53 n54 n58 kz59 n65 n67 n68 n69 p78 n81 n82 n83 n85 n87 kc86 n102 n103 n104 n107 kc106 n111 n113 kc112 n117 kc116; omega), (by clear hx1 h620 hN53 hN n32 n33 n34 n52 n53 n54 n58 kz59 n65 n67 n68 n69 p78 n81 n82 n83 n85 n87 kc86 n102 n103 n104 n107 kc106 n111 n113 kc112 n117 kc116; omega)⟩ (by clear hx1 hx5 hN53 hN n33 n34 n35 kc36 n51 n52 n53 n65 n66 n69 n80 n81 n82 n85 n87 kc86 n101 n102 n103 n107 kc106 n111 n113 kc112 n117 kc116 n119 hy118; omega) (by clear hx1 h620 n32 n33 n34 n52 n53 n54 n58 kz59 n65 n67 n68 n69 p78 n81 n82 n83 n85 n87 kc86 n102 n103 n104 n107 kc106 n111 n113 kc112 n117 kc116; omega)
            · have kc116 := tq_ltn (x := r108) (y := x4) rfl rfl c116
              have n121 : (x5 + 1).toInt = x5.toInt + 1 := i_addK rfl (by decide) (by clear hx1 h620 hN53 hN n32 n33 n34 n52 n53 n54 n58 kz59 n65 n67 n68 n69 p78 n81 n82 n83 n85 n87 kc86 n102 n103 n104 n107 kc106 n111 n113 kc112 n117 kc116; omega) (by clear hx1 h620 hN53 hN n32 n33 n34 n52 n53 n54 n58 kz59 n65 n67 n68 n69 p78 n81 n82 n83 n85 n87 kc86 n102 n103 n104 n107 kc106 n111 n113 kc112 n117 kc116; omega)
              refine D_lt (fun y120 ey120 => ?_)
              have hy120 : y120.toInt = (x5 + 1 : Int32).toInt := by rw [ey120]
              exact hk53 x3 x4 y120 S_92 L_93 k100 p98 kg0_t105 p96 ⟨(by clear hx1 h620 hN53 hN n32 n33 n34 n52 n53 n54 n58 kz59 n65 n67 n68 n69 p78 n81 n82 n83 n85 n87 kc86 n102 n103 n104 n107 kc106 n111 n113 kc112 n117 kc116; omega), (by clear hx1 h620 hN53 hN n32 n33 n34 n52 n53 n54 n58 kz59 n65 n67 n68 n69 p78 n81 n82 n83 n85 n87 kc86 n102 n103 n104 n107 kc106 n111 n113 kc112 n117 kc116; omega)⟩ (by clear hx1 hx5 hN53 hN n33 n34 n35 kc36 n51 n52 n53 n65 n66 n69 n80 n81 n82 n85 n87 kc86 n101 n102 n103 n107 kc106 n111 n113 kc112 n117 kc116 n121 hy120; omega) (by clear hx1 h620 n32 n33 n34 n52 n53 n54 n58 kz59 n65 n67 n68 n69 p78 n81 n82 n83 n85 n87 kc86 n102 n103 n104 n107 kc106 n111 n113 kc112 n117 kc116; omega)
        · have kc106 := tq_len (x := (2 : Int32)) (y := x2) (a := 2) (by decide) rfl c106
          refine D_ck (okI_of (by clear hx5 h620 hN53 hN n32 n33 n34 n35 kc36 n51 n52 n53 n54 n58 kz59 n65 n66 n67 n68 n69 p78 n80 n81 n82 n83 n87 kc86 n101 n102 n103 n104 n107 kc106; omega) (by clear hx5 h620 hN53 hN n32 n33 n34 n35 kc36 n51 n52 n53 n54 n58 kz59 n65 n66 n67 n68 n69 p78 n80 n81 n82 n83 n87 kc86 n101 n102 n103 n104 n107 kc106; omega)) ?_
          have n122 : 0 ≤ (S_92 30 x1.toNatClampNeg).toInt ∧ (S_92 30 x1.toNatClampNeg).toInt ≤ 5 := p96 30 x1.toNatClampNeg
          have n123 : ((6 : Int32) + (S_92 30 x1.toNatClampNeg)).toInt = 6 + (S_92 30 x1.toNatClampNeg).toInt := i_addK (by decide) rfl (by clear hx1 hx5 h620 hN53 hN n32 n33 n34 n35 kc36 n51 n52 n53 n54 n58 kz59 n65 n66 n67 n68 n69 p78 n80 n81 n82 n83 n85 n87 kc86 n101 n102 n103 n104 n107 kc106; omega) (by clear hx1 hx5 h620 hN53 hN n32 n33 n34 n35 kc36 n51 n52 n53 n54 n58 kz59 n65 n66 n67 n68 n69 p78 n80 n81 n82 n83 n85 n87 kc86 n101 n102 n103 n104 n107 kc106; omega)
          refine D_ck (okI_of (by clear hx1 hx5 h620 hN53 hN n32 n33 n34 n35 kc36 n51 n52 n53 n54 n58 kz59 n65 n66 n67 n68 n69 p78 n80 n81 n82 n83 n85 n87 kc86 n101 n102 n103 n104 n107 kc106; omega) (by clear hx1 hx5 h620 hN53 hN n32 n33 n34 n35 kc36 n51 n52 n53 n54 n58 kz59 n65 n66 n67 n68 n69 p78 n80 n81 n82 n83 n85 n87 kc86 n101 n102 n103 n104 n107 kc106; omega)) ?_
          refine D_ck (okI_of (by clear hx1 hx5 h620 hN53 hN n32 n33 n34 n35 kc36 n51 n52 n53 n54 n58 kz59 n65 n66 n67 n68 n69 p78 n80 n81 n82 n83 n85 n87 kc86 n101 n102 n103 n104 n107 kc106; omega) (by clear hx1 hx5 h620 hN53 hN n32 n33 n34 n35 kc36 n51 n52 n53 n54 n58 kz59 n65 n66 n67 n68 n69 p78 n80 n81 n82 n83 n85 n87 kc86 n101 n102 n103 n104 n107 kc106; omega)) ?_
          unfold fJ_X8_mine_J137
          have n125 := i_rng x3
          refine D_ite (fun c124 => ?_) (fun c124 => ?_)
          · have kc124 := tq_lt (x := x3) (y := (0 : Int32)) rfl (b := 0) (by decide) c124
            unfold fJ_X8_mine_J153
            have n127 : (x5 + 1).toInt = x5.toInt + 1 := i_addK rfl (by decide) (by clear hx1 h620 hN53 hN n32 n33 n34 n52 n53 n54 n58 kz59 n65 n67 n68 n69 p78 n81 n82 n83 n85 n87 kc86 n102 n103 n104 n107 kc106 n122 n123 n125 kc124; omega) (by clear hx1 h620 hN53 hN n32 n33 n34 n52 n53 n54 n58 kz59 n65 n67 n68 n69 p78 n81 n82 n83 n85 n87 kc86 n102 n103 n104 n107 kc106 n122 n123 n125 kc124; omega)
            refine D_lt (fun y126 ey126 => ?_)
            have hy126 : y126.toInt = (x5 + 1 : Int32).toInt := by rw [ey126]
            have n128 := i_rng ((S_92 60 ((6 : Int32) + (S_92 30 x1.toNatClampNeg)).toNatClampNeg) - (S_92 60 (S_92 30 x1.toNatClampNeg).toNatClampNeg))
            exact hk53 x5 ((S_92 60 ((6 : Int32) + (S_92 30 x1.toNatClampNeg)).toNatClampNeg) - (S_92 60 (S_92 30 x1.toNatClampNeg).toNatClampNeg)) y126 S_92 L_93 k100 p98 kg0_t105 p96 ⟨(by clear hx1 h620 hN53 hN n32 n33 n34 n52 n53 n54 n58 kz59 n65 n67 n68 n69 p78 n81 n82 n83 n85 n87 kc86 n102 n103 n104 n107 kc106 n122 n123 n125 kc124 n128; omega), (by clear hx1 h620 hN53 hN n32 n33 n34 n52 n53 n54 n58 kz59 n65 n67 n68 n69 p78 n81 n82 n83 n85 n87 kc86 n102 n103 n104 n107 kc106 n122 n123 n125 kc124 n128; omega)⟩ (by clear hx1 hx5 hN53 hN n33 n34 n35 kc36 n51 n52 n53 n65 n66 n69 n80 n81 n82 n85 n87 kc86 n101 n102 n103 n107 kc106 n122 n123 n125 kc124 n127 hy126 n128; omega) (by clear hx1 h620 n32 n33 n34 n52 n53 n54 n58 kz59 n65 n67 n68 n69 p78 n81 n82 n83 n85 n87 kc86 n102 n103 n104 n107 kc106 n122 n123 n125 kc124 n128; omega)
          · have kc124 := tq_ltn (x := x3) (y := (0 : Int32)) rfl (b := 0) (by decide) c124
            have n130 := i_rng ((S_92 60 ((6 : Int32) + (S_92 30 x1.toNatClampNeg)).toNatClampNeg) - (S_92 60 (S_92 30 x1.toNatClampNeg).toNatClampNeg))
            have n131 := i_rng x4
            refine D_ite (fun c129 => ?_) (fun c129 => ?_)
            · have kc129 := tq_lt (x := ((S_92 60 ((6 : Int32) + (S_92 30 x1.toNatClampNeg)).toNatClampNeg) - (S_92 60 (S_92 30 x1.toNatClampNeg).toNatClampNeg))) (y := x4) rfl rfl c129
              unfold fJ_X8_mine_J153
              have n133 : (x5 + 1).toInt = x5.toInt + 1 := i_addK rfl (by decide) (by clear hx1 h620 hN53 hN n32 n33 n34 n52 n53 n54 n58 kz59 n65 n67 n68 n69 p78 n81 n82 n83 n85 n87 kc86 n102 n103 n104 n107 kc106 n122 n123 n125 kc124 n130 n131 kc129; omega) (by clear hx1 h620 hN53 hN n32 n33 n34 n52 n53 n54 n58 kz59 n65 n67 n68 n69 p78 n81 n82 n83 n85 n87 kc86 n102 n103 n104 n107 kc106 n122 n123 n125 kc124 n130 n131 kc129; omega)
              refine D_lt (fun y132 ey132 => ?_)
              have hy132 : y132.toInt = (x5 + 1 : Int32).toInt := by rw [ey132]
              exact hk53 x5 ((S_92 60 ((6 : Int32) + (S_92 30 x1.toNatClampNeg)).toNatClampNeg) - (S_92 60 (S_92 30 x1.toNatClampNeg).toNatClampNeg)) y132 S_92 L_93 k100 p98 kg0_t105 p96 ⟨(by clear hx1 h620 hN53 hN n32 n33 n34 n52 n53 n54 n58 kz59 n65 n67 n68 n69 p78 n81 n82 n83 n85 n87 kc86 n102 n103 n104 n107 kc106 n122 n123 n125 kc124 n130 n131 kc129; omega), (by clear hx1 h620 hN53 hN n32 n33 n34 n52 n53 n54 n58 kz59 n65 n67 n68 n69 p78 n81 n82 n83 n85 n87 kc86 n102 n103 n104 n107 kc106 n122 n123 n125 kc124 n130 n131 kc129; omega)⟩ (by clear hx1 hx5 hN53 hN n33 n34 n35 kc36 n51 n52 n53 n65 n66 n69 n80 n81 n82 n85 n87 kc86 n101 n102 n103 n107 kc106 n122 n123 n125 kc124 n130 n131 kc129 n133 hy132; omega) (by clear hx1 h620 n32 n33 n34 n52 n53 n54 n58 kz59 n65 n67 n68 n69 p78 n81 n82 n83 n85 n87 kc86 n102 n103 n104 n107 kc106 n122 n123 n125 kc124 n130 n131 kc129; omega)
            · have kc129 := tq_ltn (x := ((S_92 60 ((6 : Int32) + (S_92 30 x1.toNatClampNeg)).toNatClampNeg) - (S_92 60 (S_92 30 x1.toNatClampNeg).toNatClampNeg))) (y := x4) rfl rfl c129
              have n135 : (x5 + 1).toInt = x5.toInt + 1 := i_addK rfl (by decide) (by clear hx1 h620 hN53 hN n32 n33 n34 n52 n53 n54 n58 kz59 n65 n67 n68 n69 p78 n81 n82 n83 n85 n87 kc86 n102 n103 n104 n107 kc106 n122 n123 n125 kc124 n130 n131 kc129; omega) (by clear hx1 h620 hN53 hN n32 n33 n34 n52 n53 n54 n58 kz59 n65 n67 n68 n69 p78 n81 n82 n83 n85 n87 kc86 n102 n103 n104 n107 kc106 n122 n123 n125 kc124 n130 n131 kc129; omega)
              refine D_lt (fun y134 ey134 => ?_)
              have hy134 : y134.toInt = (x5 + 1 : Int32).toInt := by rw [ey134]
              exact hk53 x3 x4 y134 S_92 L_93 k100 p98 kg0_t105 p96 ⟨(by clear hx1 h620 hN53 hN n32 n33 n34 n52 n53 n54 n58 kz59 n65 n67 n68 n69 p78 n81 n82 n83 n85 n87 kc86 n102 n103 n104 n107 kc106 n122 n123 n125 kc124 n130 n131 kc129; omega), (by clear hx1 h620 hN53 hN n32 n33 n34 n52 n53 n54 n58 kz59 n65 n67 n68 n69 p78 n81 n82 n83 n85 n87 kc86 n102 n103 n104 n107 kc106 n122 n123 n125 kc124 n130 n131 kc129; omega)⟩ (by clear hx1 hx5 hN53 hN n33 n34 n35 kc36 n51 n52 n53 n65 n66 n69 n80 n81 n82 n85 n87 kc86 n101 n102 n103 n107 kc106 n122 n123 n125 kc124 n130 n131 kc129 n135 hy134; omega) (by clear hx1 h620 n32 n33 n34 n52 n53 n54 n58 kz59 n65 n67 n68 n69 p78 n81 n82 n83 n85 n87 kc86 n102 n103 n104 n107 kc106 n122 n123 n125 kc124 n130 n131 kc129; omega)
set_option maxHeartbeats 1000000 in
set_option maxRecDepth 100000 in
theorem t_X8_mine (S : Tr) (L : Lo) (x1 : Int32) (x2 : Int32) (hS : iR BM S) (dpI : pI S) (dg0 : gI 0 S) : D (f_X8_mine S L x1 x2) (fun (q : Int32 × Tr × Lo) => (iR BM (q.2.1)) ∧ (aG 1 S (q.2.1)) ∧ (pI (q.2.1)) ∧ (gI 0 (q.2.1))) := by
  unfold f_X8_mine
  refine D_lt (fun S_1 eS_1 => ?_)
  have hS_1 : iR BM S_1 := by rw [eS_1]; exact iR_setU hS rfl
  have kaG_t2 : aG 1 S S_1 := (by rw [eS_1]; exact aG_set aG_rfl (Wb_t rfl))
  have kpI_t3 : pI S_1 := by rw [eS_1]; exact dpI
  have kg0_t4 : gI 0 S_1 := by rw [eS_1]; exact dg0
  have l0 : (0 : Int32).toInt = 0 := by decide
  have n6 : (S_1 0 2).toInt = (0 : Int32).toInt := by rw [eS_1]; rfl
  have n7 := i_rng x1
  refine D_bd (t_X8_isPiece S_1 x1 hS_1) (fun r8 eq10 hq9 => ?_)
  obtain ⟨p11, p12⟩ : (0 ≤ r8.toInt ∧ r8.toInt ≤ 1) ∧ (r8.toInt = 1 → 0 ≤ x1.toInt ∧ x1.toInt < (S_1 0 14).toInt) := hq9
  have n13 : 0 ≤ (S_1 0 14).toInt ∧ (S_1 0 14).toInt ≤ 10 := hS_1 0 14
  have n14 : 0 ≤ (S_1 0 13).toInt ∧ (S_1 0 13).toInt ≤ 6 := hS_1 0 13
  have n15 : 0 ≤ (S_1 0 12).toInt ∧ (S_1 0 12).toInt ≤ 5 := hS_1 0 12
  refine D_ite (fun c16 => ?_) (fun c16 => ?_)
  · have kc16 := tq_eq (x := r8) (y := (0 : Int32)) rfl (b := 0) (by decide) c16
    have lm1 : ((-1) : Int32).toInt = (-1) := by decide
    exact D_some (show (iR BM S_1) ∧ (aG 1 S S_1) ∧ (pI S_1) ∧ (gI 0 S_1) from ⟨hS_1, kaG_t2, kpI_t3, kg0_t4⟩)
  · have kc160 := tq_eqn (x := r8) (y := (0 : Int32)) rfl (b := 0) (by decide) c16
    have kc16 : 1 ≤ r8.toInt := (by clear n6 n14 n15; omega)
    clear kc160
    have n17 := i_rng x2
    have l3 : (3 : Int32).toInt = 3 := by decide
    refine D_bd (t_X8_isIn x2 (0 : Int32) (3 : Int32) ) (fun r18 eq20 hq19 => ?_)
    obtain ⟨p21, p22⟩ : (0 ≤ r18.toInt ∧ r18.toInt ≤ 1) ∧ (r18.toInt = 1 → (0 : Int32).toInt ≤ x2.toInt ∧ x2.toInt ≤ (3 : Int32).toInt) := hq19
    refine D_ite (fun c23 => ?_) (fun c23 => ?_)
    · have kc23 := tq_eq (x := r18) (y := (0 : Int32)) rfl (b := 0) (by decide) c23
      have lm1 : ((-1) : Int32).toInt = (-1) := by decide
      exact D_some (show (iR BM S_1) ∧ (aG 1 S S_1) ∧ (pI S_1) ∧ (gI 0 S_1) from ⟨hS_1, kaG_t2, kpI_t3, kg0_t4⟩)
    · have kc230 := tq_eqn (x := r18) (y := (0 : Int32)) rfl (b := 0) (by decide) c23
      have kc23 : 1 ≤ r18.toInt := (by clear n6 n7 p11 p12 n13 n14 n15 kc16; omega)
      clear kc230
      have n25 : 0 ≤ (S_1 62 0).toInt ∧ (S_1 62 0).toInt ≤ 21 := hS_1 62 0
      refine D_ite (fun c24 => ?_) (fun c24 => ?_)
      · have kc24 := tq_le (x := (21 : Int32)) (y := (S_1 62 0)) (a := 21) (by decide) rfl c24
        have lm1 : ((-1) : Int32).toInt = (-1) := by decide
        exact D_some (show (iR BM S_1) ∧ (aG 1 S S_1) ∧ (pI S_1) ∧ (gI 0 S_1) from ⟨hS_1, kaG_t2, kpI_t3, kg0_t4⟩)
      · have kc24 := tq_len (x := (21 : Int32)) (y := (S_1 62 0)) (a := 21) (by decide) rfl c24
        refine D_bd (t_X8_isComing S_1 x1 hS_1 ⟨(by clear n6 n14 n15 n17 p21 p22 kc23 n25 kc24; omega), (by clear n6 n14 n15 n17 p21 p22 kc23 n25 kc24; omega)⟩) (fun r26 eq28 hq27 => ?_)
        obtain ⟨p29, p30⟩ : (0 ≤ r26.toInt ∧ r26.toInt ≤ 1) ∧ (r26.toInt = 1 → (S_1 53 x1.toNatClampNeg).toInt = 0) := hq27
        refine D_ite (fun c31 => ?_) (fun c31 => ?_)
        · have kc31 := tq_eq (x := r26) (y := (0 : Int32)) rfl (b := 0) (by decide) c31
          have lm1 : ((-1) : Int32).toInt = (-1) := by decide
          exact D_some (show (iR BM S_1) ∧ (aG 1 S S_1) ∧ (pI S_1) ∧ (gI 0 S_1) from ⟨hS_1, kaG_t2, kpI_t3, kg0_t4⟩)
        · have kc310 := tq_eqn (x := r26) (y := (0 : Int32)) rfl (b := 0) (by decide) c31
          have kc31 : 1 ≤ r26.toInt := (by clear n6 n7 p11 p12 n13 n14 n15 kc16 n17 p21 p22 kc23 n25 kc24; omega)
          clear kc310
          have lm2 : ((-2) : Int32).toInt = (-2) := by decide
          exact tl_X8_mine_L53 S x1 x2 ⟨(by clear n6 n14 n15 n17 p21 p22 kc23 n25 kc24 p29 p30 kc31; omega), (by clear n6 n14 n15 n17 p21 p22 kc23 n25 kc24 p29 p30 kc31; omega)⟩   2000 ((-2) : Int32) ((-2) : Int32) (0 : Int32) S_1 L kaG_t2 kpI_t3 kg0_t4 hS_1 ⟨(by clear n6 n7 p11 p12 n13 n14 n15 kc16 n17 p21 p22 kc23 n25 kc24 p29 p30 kc31; omega), (by clear n6 n7 p11 p12 n13 n14 n15 kc16 n17 p21 p22 kc23 n25 kc24 p29 p30 kc31; omega)⟩ (by clear n6 n7 p11 p12 n13 n14 n15 kc16 n17 p21 p22 kc23 p29 p30 kc31; omega) (by clear n6 n7 p11 p12 n13 n14 n15 kc16 n17 p21 p22 kc23 n25 kc24 p29 p30 kc31; omega)
set_option maxHeartbeats 1000000 in
set_option maxRecDepth 100000 in
theorem tl_X8_missed_L145 (zkn : Int32) (zaG : Tr) (x3 : Int32) (hx3 : 0 ≤ x3.toInt ∧ x3.toInt ≤ 20)   (N : Nat) : ∀ (S : Tr) (L : Lo), aG 1 zaG S → pI S → gI 0 S → gI 1 S → iR BM S → 22 - (S 62 1).toInt < (N : Int) → D (lpF (fun _ _ => none) (fB_X8_missed_L145 x3) N S L) (fun (q : Int32 × Tr × Lo) => (iR BM (q.2.1)) ∧ (aG 1 zaG (q.2.1)) ∧ (pI (q.2.1)) ∧ (gI 0 (q.2.1))) := by
  induction N with
  | zero =>
    intro S L daG dpI dg0 dgI hS hN
    exfalso
    have n119 : 0 ≤ (S 62 1).toInt ∧ (S 62 1).toInt ≤ 21 := hS 62 1
    omega
  | succ N145 ih =>
    intro S L daG dpI dg0 dgI hS hN
    have hk145 : ∀ (S : Tr) (L : Lo), aG 1 zaG S → pI S → gI 0 S → gI 1 S → iR BM S → 22 - (S 62 1).toInt < (N145 : Int) → D (lpF (fun _ _ => none) (fB_X8_missed_L145 x3) N145 S L) (fun (q : Int32 × Tr × Lo) => (iR BM (q.2.1)) ∧ (aG 1 zaG (q.2.1)) ∧ (pI (q.2.1)) ∧ (gI 0 (q.2.1))) := ih
    show D (fB_X8_missed_L145 x3 (lpF (fun _ _ => none) (fB_X8_missed_L145 x3) N145) S L) _
    generalize lpF (fun _ _ => none) (fB_X8_missed_L145 x3) N145 = k145 at hk145 ⊢
    have hN145 : 22 - (S 62 1).toInt < (N145 : Int) + 1 := by omega
    clear ih
    unfold fB_X8_missed_L145
    have n60 : 0 ≤ (S 62 1).toInt ∧ (S 62 1).toInt ≤ 21 := hS 62 1
    have n61 : 0 ≤ (S 0 14).toInt ∧ (S 0 14).toInt ≤ 10 := hS 0 14
    have n62 : 0 ≤ (S 0 13).toInt ∧ (S 0 13).toInt ≤ 6 := hS 0 13
    have n63 : 0 ≤ (S 0 12).toInt ∧ (S 0 12).toInt ≤ 5 := hS 0 12
    refine D_ite (fun c64 => ?_) (fun c64 => ?_)
    · have kc64 := tq_le (x := x3) (y := (S 62 1)) rfl rfl c64
      unfold fJ_X8_missed_J163
      have l1 : (1 : Int32).toInt = 1 := by decide
      refine D_lt (fun S_65 eS_65 => ?_)
      have hS_65 : iR BM S_65 := by rw [eS_65]; exact iR_set hS (show (0 : Int) ≤ _ from (by clear hx3 hN145 hN n60 n61 n62 n63 kc64; omega)) (show _ ≤ (1 : Int) from (by clear hx3 hN145 hN n60 n61 n62 n63 kc64; omega))
      have kaG_t66 : aG 1 zaG S_65 := (by rw [eS_65]; exact aG_set daG (Wb_t rfl))
      have kpI_t67 : pI S_65 := by rw [eS_65]; exact dpI
      have kg0_t68 : gI 0 S_65 := by rw [eS_65]; exact dg0
      have kgI_t69 : gI 1 S_65 := by rw [eS_65]; exact dgI
      have n71 : (S_65 0 13).toInt = (S 0 13).toInt := by rw [eS_65]; rfl
      have n72 : (S_65 0 12).toInt = (S 0 12).toInt := by rw [eS_65]; rfl
      have n73 : (S_65 0 14).toInt = (S 0 14).toInt := by rw [eS_65]; rfl
      have n74 : (S_65 62 1).toInt = (S 62 1).toInt := by rw [eS_65]; rfl
      have n75 : (S_65 0 70).toInt = (1 : Int32).toInt := by rw [eS_65]; rfl
      refine D_bd2 (t_X8_outs S_65 L (1 : Int32) hS_65 kpI_t67 kgI_t69 ⟨(by clear hx3 hN145 hN n60 n61 n62 n63 kc64 n71 n72 n73 n74 n75; omega), (by clear hx3 hN145 hN n60 n61 n62 n63 kc64 n71 n72 n73 n74 n75; omega)⟩) (fun S_76 L_77 eq79 hq78 => ?_)
      refine D_lte (y := S_76) rfl ?_
      refine D_lte (y := L_77) rfl ?_
      obtain ⟨p80, p81, p82, p83, p84⟩ : (iR BM S_76) ∧ (aG 1 S_65 S_76) ∧ (pI S_76) ∧ (gI 1 S_76) ∧ (S_76 62 1 = (S_65 62 1)) := hq78
      have k85 : aG 1 zaG S_76 := aG_tr kaG_t66 p81
      have n86 : (S_76 0 12).toInt = (S_65 0 12).toInt := congrArg Int32.toInt (p81 0 _ rfl)
      have n87 : (S_76 0 13).toInt = (S_65 0 13).toInt := congrArg Int32.toInt (p81 0 _ rfl)
      have n88 : (S_76 0 14).toInt = (S_65 0 14).toInt := congrArg Int32.toInt (p81 0 _ rfl)
      have kg0_t89 : gI 0 S_76 := (gI0_G1 hS_65 kg0_t68 p81)
      have n90 : 0 ≤ (S_76 62 1).toInt ∧ (S_76 62 1).toInt ≤ 21 := p80 62 1
      have kz91 : (S_76 62 1).toInt = (S_65 62 1).toInt := congrArg Int32.toInt p84
      have l0 : (0 : Int32).toInt = 0 := by decide
      refine D_lt (fun S_92 eS_92 => ?_)
      have hS_92 : iR BM S_92 := by rw [eS_92]; exact iR_set p80 (show (0 : Int) ≤ _ from (by clear hx3 hN145 hN n60 n61 n62 n63 kc64 n71 n72 n73 n74 n75 n86 n87 n88 n90 kz91; omega)) (show _ ≤ (1 : Int) from (by clear hx3 hN145 hN n60 n61 n62 n63 kc64 n71 n72 n73 n74 n75 n86 n87 n88 n90 kz91; omega))
      have kaG_t93 : aG 1 zaG S_92 := (by rw [eS_92]; exact aG_set k85 (Wb_t rfl))
      have kpI_t94 : pI S_92 := by rw [eS_92]; exact p82
      have kg0_t95 : gI 0 S_92 := by rw [eS_92]; exact kg0_t89
      have kgI_t96 : gI 1 S_92 := by rw [eS_92]; exact p83
      have n98 : (S_92 0 12).toInt = (S_76 0 12).toInt := by rw [eS_92]; rfl
      have n99 : (S_92 0 13).toInt = (S_76 0 13).toInt := by rw [eS_92]; rfl
      have n100 : (S_92 62 1).toInt = (S_76 62 1).toInt := by rw [eS_92]; rfl
      have n101 : (S_92 0 14).toInt = (S_76 0 14).toInt := by rw [eS_92]; rfl
      have n102 : (S_92 0 70).toInt = (0 : Int32).toInt := by rw [eS_92]; rfl
      refine D_ck (okI_of (by clear hN145 hN n61 n62 n63 n71 n72 n73 n75 n86 n87 n88 n98 n99 n101 n102; omega) (by clear hN145 hN n61 n62 n63 n71 n72 n73 n75 n86 n87 n88 n98 n99 n101 n102; omega)) ?_
      have n103 := i_rng ((S_92 0 72) - (S_92 34 x3.toNatClampNeg))
      exact D_some (show (iR BM S_92) ∧ (aG 1 zaG S_92) ∧ (pI S_92) ∧ (gI 0 S_92) from ⟨hS_92, kaG_t93, kpI_t94, kg0_t95⟩)
    · have kc64 := tq_len (x := x3) (y := (S 62 1)) rfl rfl c64
      have l1 : (1 : Int32).toInt = 1 := by decide
      refine D_bd2 (t_X8_goOn S L (1 : Int32) hS dpI dgI ⟨(by clear hx3 hN145 hN n60 n61 n62 n63 kc64; omega), (by clear hx3 hN145 hN n60 n61 n62 n63 kc64; omega)⟩ (show (S 62 1).toInt ≤ 20 from (by first | assumption | exact (by clear hN145 hN n61 n62 n63; omega)))) (fun S_104 L_105 eq107 hq106 => ?_)
      refine D_lte (y := S_104) rfl ?_
      refine D_lte (y := L_105) rfl ?_
      obtain ⟨p108, p109, p110, p111, p112⟩ : (iR BM S_104) ∧ (aG 1 S S_104) ∧ (pI S_104) ∧ (gI 1 S_104) ∧ ((S_104 62 1).toInt = (S 62 1).toInt + 1) := hq106
      have k113 : aG 1 zaG S_104 := aG_tr daG p109
      have n114 : (S_104 0 12).toInt = (S 0 12).toInt := congrArg Int32.toInt (p109 0 _ rfl)
      have n115 : (S_104 0 13).toInt = (S 0 13).toInt := congrArg Int32.toInt (p109 0 _ rfl)
      have n116 : (S_104 0 14).toInt = (S 0 14).toInt := congrArg Int32.toInt (p109 0 _ rfl)
      have kg0_t117 : gI 0 S_104 := (gI0_G1 hS dg0 p109)
      have n118 : (S_104 62 1).toInt = (S 62 1).toInt + 1 := p112
      exact hk145 S_104 L_105 k113 p110 kg0_t117 p111 p108 (by clear n61 n62 n63 n114 n115 n116; omega)
set_option maxHeartbeats 1000000 in
set_option maxRecDepth 100000 in
theorem tl_X8_missed_L50 (zkn : Int32) (zaG : Tr) (S : Tr) (L : Lo) (x1 : Int32) (N23 : Nat) (hS : iR BM S) (daG : aG 1 zaG S) (dpI : pI S) (dg0 : gI 0 S) (dgI : gI 1 S) (h621 : (S 62 1).toInt ≤ 20) (hN23 : 22 - (S 62 1).toInt < (N23 : Int) + 1) (k23 : Int32 → Tr → Lo → Option (Int32 × Tr × Lo)) (hk23 : ∀ (x2 : Int32) (S : Tr) (L : Lo), aG 1 zaG S → pI S → gI 0 S → gI 1 S → iR BM S → (-2) ≤ x2.toInt ∧ x2.toInt ≤ 5 → 22 - (S 62 1).toInt < (N23 : Int) → D (k23 x2 S L) (fun (q : Int32 × Tr × Lo) => (iR BM (q.2.1)) ∧ (aG 1 zaG (q.2.1)) ∧ (pI (q.2.1)) ∧ (gI 0 (q.2.1)))) (N : Nat) : ∀ (x2 : Int32) (x3 : Int32), (-2) ≤ x2.toInt ∧ x2.toInt ≤ 5 → (-1) ≤ x3.toInt ∧ x3.toInt ≤ 5 → x3.toInt + 1 < (N : Int) → D (lpF (fun _ _ => none) (fB_X8_missed_L50 k23 S L x1) N x2 x3) (fun (q : Int32 × Tr × Lo) => (iR BM (q.2.1)) ∧ (aG 1 zaG (q.2.1)) ∧ (pI (q.2.1)) ∧ (gI 0 (q.2.1))) := by
  induction N with
  | zero =>
    intro x2 x3 hx2 hx3 hN
    exfalso
    omega
  | succ N50 ih =>
    intro x2 x3 hx2 hx3 hN
    have hk50 : ∀ (x2 : Int32) (x3 : Int32), (-2) ≤ x2.toInt ∧ x2.toInt ≤ 5 → (-1) ≤ x3.toInt ∧ x3.toInt ≤ 5 → x3.toInt + 1 < (N50 : Int) → D (lpF (fun _ _ => none) (fB_X8_missed_L50 k23 S L x1) N50 x2 x3) (fun (q : Int32 × Tr × Lo) => (iR BM (q.2.1)) ∧ (aG 1 zaG (q.2.1)) ∧ (pI (q.2.1)) ∧ (gI 0 (q.2.1))) := ih
    show D (fB_X8_missed_L50 k23 S L x1 (lpF (fun _ _ => none) (fB_X8_missed_L50 k23 S L x1) N50) x2 x3) _
    generalize lpF (fun _ _ => none) (fB_X8_missed_L50 k23 S L x1) N50 = k50 at hk50 ⊢
    have hN50 : x3.toInt + 1 < (N50 : Int) + 1 := by omega
    clear ih
    unfold fB_X8_missed_L50
    have n164 : 0 ≤ (S 62 1).toInt ∧ (S 62 1).toInt ≤ 21 := hS 62 1
    have n165 : 0 ≤ (S 0 14).toInt ∧ (S 0 14).toInt ≤ 10 := hS 0 14
    have n166 : 0 ≤ (S 0 13).toInt ∧ (S 0 13).toInt ≤ 6 := hS 0 13
    have n167 : 0 ≤ (S 0 12).toInt ∧ (S 0 12).toInt ≤ 5 := hS 0 12
    refine D_ite (fun c168 => ?_) (fun c168 => ?_)
    · have kc168 := tq_lt (x := x3) (y := (0 : Int32)) rfl (b := 0) (by decide) c168
      unfold fJ_X8_missed_J90
      have l1 : (1 : Int32).toInt = 1 := by decide
      refine D_bd (t_X8_ins S (1 : Int32) hS dpI dgI ⟨(by clear h621 hx2 hx3 hN23 hN50 hN n164 n165 n166 n167 kc168; omega), (by clear h621 hx2 hx3 hN23 hN50 hN n164 n165 n166 n167 kc168; omega)⟩) (fun S_169 eq171 hq170 => ?_)
      obtain ⟨p172, p173, p174, p175, p176⟩ : (iR BM S_169) ∧ (aG 1 S S_169) ∧ (pI S_169) ∧ (gI 1 S_169) ∧ (S_169 62 1 = (S 62 1)) := hq170
      have k177 : aG 1 zaG S_169 := aG_tr daG p173
      have k178 : S_169 62 1 = (S 62 1) := p176
      have n179 : (S_169 0 12).toInt = (S 0 12).toInt := congrArg Int32.toInt (p173 0 _ rfl)
      have n180 : (S_169 0 13).toInt = (S 0 13).toInt := congrArg Int32.toInt (p173 0 _ rfl)
      have n181 : (S_169 0 14).toInt = (S 0 14).toInt := congrArg Int32.toInt (p173 0 _ rfl)
      have kg0_t182 : gI 0 S_169 := (gI0_G1 hS dg0 p173)
      have n183 : 0 ≤ (S_169 62 1).toInt ∧ (S_169 62 1).toInt ≤ 21 := p172 62 1
      have kz184 : (S_169 62 1).toInt = (S 62 1).toInt := congrArg Int32.toInt p176
      refine D_ite (fun c185 => ?_) (fun c185 => ?_)
      · have kc185 := tq_le (x := (20 : Int32)) (y := (S_169 62 1)) (a := 20) (by decide) rfl c185
        unfold fJ_X8_missed_J111
        have n187 : ((S_169 62 1) + 1).toInt = (S_169 62 1).toInt + 1 := i_addK rfl (by decide) (by clear hx2 hx3 hN23 hN50 hN n165 n166 n167 kc168 n179 n180 n181; omega) (by clear hx2 hx3 hN23 hN50 hN n165 n166 n167 kc168 n179 n180 n181; omega)
        have kz188 : (S_169 62 1).toInt = (S 62 1).toInt := congrArg Int32.toInt k178
        refine D_lt (fun S_186 eS_186 => ?_)
        have hS_186 : iR BM S_186 := by rw [eS_186]; exact iR_set p172 (show (0 : Int) ≤ _ from (by clear hx2 hx3 hN23 hN50 hN n165 n166 n167 kc168 n179 n180 n181; omega)) (show _ ≤ (21 : Int) from (by clear hx2 hx3 hN23 hN50 hN n165 n166 n167 kc168 n179 n180 n181; omega))
        have kaG_t189 : aG 1 zaG S_186 := (by rw [eS_186]; exact aG_set k177 (Wb_62 (inB_of (by decide) (by decide))))
        have kpI_t190 : pI S_186 := by rw [eS_186]; exact p174
        have kg0_t191 : gI 0 S_186 := by rw [eS_186]; exact kg0_t182
        have kgI_t192 : gI 1 S_186 := by rw [eS_186]; exact p175
        have n194 : (S_186 0 12).toInt = (S_169 0 12).toInt := by rw [eS_186]; rfl
        have n195 : (S_186 0 13).toInt = (S_169 0 13).toInt := by rw [eS_186]; rfl
        have n196 : (S_186 0 14).toInt = (S_169 0 14).toInt := by rw [eS_186]; rfl
        have n197 : (S_186 62 1).toInt = (S_169 62 1).toInt + 1 := by rw [eS_186, st_same]; clear hx2 hx3 hN23 hN50 hN n165 n166 n167 kc168 n179 n180 n181 n194 n195 n196; omega
        have n198 : 0 ≤ (S_186 62 1).toInt ∧ (S_186 62 1).toInt ≤ 21 := hS_186 62 1
        exact hk23 x2 S_186 L kaG_t189 kpI_t190 kg0_t191 kgI_t192 hS_186 ⟨(by clear h621 hx3 hN23 hN50 hN n164 n165 n166 n167 kc168 n179 n180 n181 n183 kz184 kc185 n187 kz188 n194 n195 n196 n197; omega), (by clear h621 hx3 hN23 hN50 hN n164 n165 n166 n167 kc168 n179 n180 n181 n183 kz184 kc185 n187 kz188 n194 n195 n196 n197; omega)⟩ (by clear hx2 hx3 hN50 hN n165 n166 n167 kc168 n179 n180 n181 n194 n195 n196; omega)
      · have kc185 := tq_len (x := (20 : Int32)) (y := (S_169 62 1)) (a := 20) (by decide) rfl c185
        refine D_bd2 (t_X8_onTheWay S_169 L (1 : Int32) p172 p174 p175 ⟨(by clear h621 hx2 hx3 hN23 hN50 hN n164 n165 n166 n167 kc168 n179 n180 n181 n183 kz184 kc185; omega), (by clear h621 hx2 hx3 hN23 hN50 hN n164 n165 n166 n167 kc168 n179 n180 n181 n183 kz184 kc185; omega)⟩) (fun S_199 L_200 eq202 hq201 => ?_)
        refine D_lte (y := S_199) rfl ?_
        refine D_lte (y := L_200) rfl ?_
        obtain ⟨p203, p204, p205, p206, p207⟩ : (iR BM S_199) ∧ (aG 1 S_169 S_199) ∧ (pI S_199) ∧ (gI 1 S_199) ∧ (S_199 62 1 = (S_169 62 1)) := hq201
        have k208 : aG 1 zaG S_199 := aG_tr k177 p204
        have k209 : S_199 62 1 = (S 62 1) := p207.trans k178
        have n210 : (S_199 0 12).toInt = (S_169 0 12).toInt := congrArg Int32.toInt (p204 0 _ rfl)
        have n211 : (S_199 0 13).toInt = (S_169 0 13).toInt := congrArg Int32.toInt (p204 0 _ rfl)
        have n212 : (S_199 0 14).toInt = (S_169 0 14).toInt := congrArg Int32.toInt (p204 0 _ rfl)
        have kg0_t213 : gI 0 S_199 := (gI0_G1 p172 kg0_t182 p204)
        have n214 : 0 ≤ (S_199 62 1).toInt ∧ (S_199 62 1).toInt ≤ 21 := p203 62 1
        have kz215 : (S_199 62 1).toInt = (S_169 62 1).toInt := congrArg Int32.toInt p207
        unfold fJ_X8_missed_J111
        have n217 : ((S_199 62 1) + 1).toInt = (S_199 62 1).toInt + 1 := i_addK rfl (by decide) (by clear hx2 hx3 hN23 hN50 hN n165 n166 n167 kc168 n179 n180 n181 n210 n211 n212; omega) (by clear hx2 hx3 hN23 hN50 hN n165 n166 n167 kc168 n179 n180 n181 n210 n211 n212; omega)
        have kz218 : (S_199 62 1).toInt = (S 62 1).toInt := congrArg Int32.toInt k209
        refine D_lt (fun S_216 eS_216 => ?_)
        have hS_216 : iR BM S_216 := by rw [eS_216]; exact iR_set p203 (show (0 : Int) ≤ _ from (by clear hx2 hx3 hN23 hN50 hN n165 n166 n167 kc168 n179 n180 n181 n210 n211 n212; omega)) (show _ ≤ (21 : Int) from (by clear hx2 hx3 hN23 hN50 hN n165 n166 n167 kc168 n179 n180 n181 n210 n211 n212; omega))
        have kaG_t219 : aG 1 zaG S_216 := (by rw [eS_216]; exact aG_set k208 (Wb_62 (inB_of (by decide) (by decide))))
        have kpI_t220 : pI S_216 := by rw [eS_216]; exact p205
        have kg0_t221 : gI 0 S_216 := by rw [eS_216]; exact kg0_t213
        have kgI_t222 : gI 1 S_216 := by rw [eS_216]; exact p206
        have n224 : (S_216 0 14).toInt = (S_199 0 14).toInt := by rw [eS_216]; rfl
        have n225 : (S_216 0 13).toInt = (S_199 0 13).toInt := by rw [eS_216]; rfl
        have n226 : (S_216 0 12).toInt = (S_199 0 12).toInt := by rw [eS_216]; rfl
        have n227 : (S_216 62 1).toInt = (S_199 62 1).toInt + 1 := by rw [eS_216, st_same]; clear hx2 hx3 hN23 hN50 hN n165 n166 n167 kc168 n179 n180 n181 n210 n211 n212 n224 n225 n226; omega
        have n228 : 0 ≤ (S_216 62 1).toInt ∧ (S_216 62 1).toInt ≤ 21 := hS_216 62 1
        exact hk23 x2 S_216 L_200 kaG_t219 kpI_t220 kg0_t221 kgI_t222 hS_216 ⟨(by clear h621 hx3 hN23 hN50 hN n164 n165 n166 n167 kc168 n179 n180 n181 n183 kz184 kc185 n210 n211 n212 n214 kz215 n217 kz218 n224 n225 n226 n227; omega), (by clear h621 hx3 hN23 hN50 hN n164 n165 n166 n167 kc168 n179 n180 n181 n183 kz184 kc185 n210 n211 n212 n214 kz215 n217 kz218 n224 n225 n226 n227; omega)⟩ (by clear hx2 hx3 hN50 hN n165 n166 n167 kc168 n179 n180 n181 n210 n211 n212 n224 n225 n226; omega)
    · have kc168 := tq_ltn (x := x3) (y := (0 : Int32)) rfl (b := 0) (by decide) c168
      refine D_ck (okI_of (by clear h621 hx2 hN23 hN50 hN n164 n165 n166 n167; omega) (by clear h621 hx2 hN23 hN50 hN n164 n165 n166 n167; omega)) ?_
      have n230 : 0 ≤ (S 28 x3.toNatClampNeg).toInt ∧ (S 28 x3.toNatClampNeg).toInt ≤ 20 := hS 28 x3.toNatClampNeg
      refine D_ite (fun c229 => ?_) (fun c229 => ?_)
      · have kc229 := tq_eq (x := (S 28 x3.toNatClampNeg)) (y := (S 62 1)) rfl rfl c229
        have n231 : ((6 : Int32) + x3).toInt = 6 + x3.toInt := i_addK (by decide) rfl (by clear h621 hx2 hN23 hN50 hN n164 n165 n166 n167 n230 kc229; omega) (by clear h621 hx2 hN23 hN50 hN n164 n165 n166 n167 n230 kc229; omega)
        refine D_ck (okI_of (by clear h621 hx2 hN23 hN50 hN n164 n165 n166 n167 n230 kc229; omega) (by clear h621 hx2 hN23 hN50 hN n164 n165 n166 n167 n230 kc229; omega)) ?_
        have n233 := i_rng (S 59 ((6 : Int32) + x3).toNatClampNeg)
        refine D_ite (fun c232 => ?_) (fun c232 => ?_)
        · have kc232 := tq_eq (x := (S 59 ((6 : Int32) + x3).toNatClampNeg)) (y := (1 : Int32)) rfl (b := 1) (by decide) c232
          have n235 : (x3 + (-1)).toInt = x3.toInt + (-1) := i_addK rfl (by decide) (by clear h621 hx2 hN23 hN50 hN n164 n165 n166 n167 n230 kc229 n233 kc232; omega) (by clear h621 hx2 hN23 hN50 hN n164 n165 n166 n167 n230 kc229 n233 kc232; omega)
          refine D_lt (fun y234 ey234 => ?_)
          have hy234 : y234.toInt = (x3 + (-1) : Int32).toInt := by rw [ey234]
          exact hk50 x3 y234 ⟨(by clear h621 hx2 hN23 hN50 hN n164 n165 n166 n167 n230 kc229 n233 kc232; omega), (by clear h621 hx2 hN23 hN50 hN n164 n165 n166 n167 n230 kc229 n233 kc232; omega)⟩ ⟨(by clear h621 hx2 hN23 hN50 hN n164 n165 n166 n167 n230 kc229 n233 kc232; omega), (by clear h621 hx2 hN23 hN50 hN n164 n165 n166 n167 n230 kc229 n233 kc232; omega)⟩ (by clear h621 hx2 hN23 n164 n165 n166 n167 n230 kc229 n233 kc232; omega)
        · skip
          have n237 : (x3 + (-1)).toInt = x3.toInt + (-1) := i_addK rfl (by decide) (by clear h621 hx2 hN23 hN50 hN n164 n165 n166 n167 n230 kc229 n233; omega) (by clear h621 hx2 hN23 hN50 hN n164 n165 n166 n167 n230 kc229 n233; omega)
          refine D_lt (fun y236 ey236 => ?_)
          have hy236 : y236.toInt = (x3 + (-1) : Int32).toInt := by rw [ey236]
          exact hk50 x2 y236 ⟨(by clear h621 hx3 hN23 hN50 hN n164 n165 n166 n167 kc168 n230 kc229 n231 n233 n237 hy236; omega), (by clear h621 hx3 hN23 hN50 hN n164 n165 n166 n167 kc168 n230 kc229 n231 n233 n237 hy236; omega)⟩ ⟨(by clear h621 hx2 hN23 hN50 hN n164 n165 n166 n167 n230 kc229 n233; omega), (by clear h621 hx2 hN23 hN50 hN n164 n165 n166 n167 n230 kc229 n233; omega)⟩ (by clear h621 hx2 hN23 n164 n165 n166 n167 n230 kc229 n233; omega)
      · skip
        have n239 : (x3 + (-1)).toInt = x3.toInt + (-1) := i_addK rfl (by decide) (by clear h621 hx2 hN23 hN50 hN n164 n165 n166 n167 n230; omega) (by clear h621 hx2 hN23 hN50 hN n164 n165 n166 n167 n230; omega)
        refine D_lt (fun y238 ey238 => ?_)
        have hy238 : y238.toInt = (x3 + (-1) : Int32).toInt := by rw [ey238]
        exact hk50 x2 y238 ⟨(by clear h621 hx3 hN23 hN50 hN n164 n165 n166 n167 kc168 n230 n239 hy238; omega), (by clear h621 hx3 hN23 hN50 hN n164 n165 n166 n167 kc168 n230 n239 hy238; omega)⟩ ⟨(by clear h621 hx2 hN23 hN50 hN n164 n165 n166 n167 n230; omega), (by clear h621 hx2 hN23 hN50 hN n164 n165 n166 n167 n230; omega)⟩ (by clear h621 hx2 hN23 n164 n165 n166 n167 n230; omega)
set_option maxHeartbeats 1000000 in
set_option maxRecDepth 100000 in
theorem tl_X8_missed_L23 (zkn : Int32) (zaG : Tr) (x1 : Int32)    (N : Nat) : ∀ (x2 : Int32) (S : Tr) (L : Lo), aG 1 zaG S → pI S → gI 0 S → gI 1 S → iR BM S → (-2) ≤ x2.toInt ∧ x2.toInt ≤ 5 → 22 - (S 62 1).toInt < (N : Int) → D (lpF (fun _ _ _ => none) (fB_X8_missed_L23 x1) N x2 S L) (fun (q : Int32 × Tr × Lo) => (iR BM (q.2.1)) ∧ (aG 1 zaG (q.2.1)) ∧ (pI (q.2.1)) ∧ (gI 0 (q.2.1))) := by
  induction N with
  | zero =>
    intro x2 S L daG dpI dg0 dgI hS hx2 hN
    exfalso
    have n241 : 0 ≤ (S 62 1).toInt ∧ (S 62 1).toInt ≤ 21 := hS 62 1
    omega
  | succ N23 ih =>
    intro x2 S L daG dpI dg0 dgI hS hx2 hN
    have hk23 : ∀ (x2 : Int32) (S : Tr) (L : Lo), aG 1 zaG S → pI S → gI 0 S → gI 1 S → iR BM S → (-2) ≤ x2.toInt ∧ x2.toInt ≤ 5 → 22 - (S 62 1).toInt < (N23 : Int) → D (lpF (fun _ _ _ => none) (fB_X8_missed_L23 x1) N23 x2 S L) (fun (q : Int32 × Tr × Lo) => (iR BM (q.2.1)) ∧ (aG 1 zaG (q.2.1)) ∧ (pI (q.2.1)) ∧ (gI 0 (q.2.1))) := ih
    show D (fB_X8_missed_L23 x1 (lpF (fun _ _ _ => none) (fB_X8_missed_L23 x1) N23) x2 S L) _
    generalize lpF (fun _ _ _ => none) (fB_X8_missed_L23 x1) N23 = k23 at hk23 ⊢
    have hN23 : 22 - (S 62 1).toInt < (N23 : Int) + 1 := by omega
    clear ih
    unfold fB_X8_missed_L23
    have n31 : 0 ≤ (S 62 1).toInt ∧ (S 62 1).toInt ≤ 21 := hS 62 1
    have n32 : 0 ≤ (S 0 14).toInt ∧ (S 0 14).toInt ≤ 10 := hS 0 14
    have n33 : 0 ≤ (S 0 13).toInt ∧ (S 0 13).toInt ≤ 6 := hS 0 13
    have n34 : 0 ≤ (S 0 12).toInt ∧ (S 0 12).toInt ≤ 5 := hS 0 12
    refine D_ite (fun c35 => ?_) (fun c35 => ?_)
    · have kc35 := tq_le (x := (21 : Int32)) (y := (S 62 1)) (a := 21) (by decide) rfl c35
      unfold fJ_X8_missed_J124
      refine D_ite (fun c36 => ?_) (fun c36 => ?_)
      · have kc36 := tq_lt (x := x2) (y := (0 : Int32)) rfl (b := 0) (by decide) c36
        exact D_some (show (iR BM S) ∧ (aG 1 zaG S) ∧ (pI S) ∧ (gI 0 S) from ⟨hS, daG, dpI, dg0⟩)
      · have kc36 := tq_ltn (x := x2) (y := (0 : Int32)) rfl (b := 0) (by decide) c36
        have n38 := i_rng x1
        refine D_ite (fun c37 => ?_) (fun c37 => ?_)
        · have kc37 := tq_eq (x := x1) (y := (0 : Int32)) rfl (b := 0) (by decide) c37
          exact D_some (show (iR BM S) ∧ (aG 1 zaG S) ∧ (pI S) ∧ (gI 0 S) from ⟨hS, daG, dpI, dg0⟩)
        · skip
          refine D_ck (okI_of (by clear hN23 hN n31 n32 n33 n34 kc35 n38; omega) (by clear hN23 hN n31 n32 n33 n34 kc35 n38; omega)) ?_
          refine D_lt (fun y39 ey39 => ?_)
          have n40 : 0 ≤ (S 28 x2.toNatClampNeg).toInt ∧ (S 28 x2.toNatClampNeg).toInt ≤ 20 := hS 28 x2.toNatClampNeg
          have hy39 : y39.toInt = (S 28 x2.toNatClampNeg).toInt := by rw [ey39]
          refine D_bd (t_X8_layTried S hS dg0 dpI) (fun S_41 eq43 hq42 => ?_)
          obtain ⟨p44, p45, p46, p47, p48, p49⟩ : (iR BM S_41) ∧ (aG 1 S S_41) ∧ (gI 1 S_41) ∧ (pI S_41) ∧ (S_41 62 1 = S 62 0) ∧ (S_41 61 1 = S 61 0) := hq42
          have k50 : aG 1 zaG S_41 := aG_tr daG p45
          have n51 : (S_41 0 12).toInt = (S 0 12).toInt := congrArg Int32.toInt (p45 0 _ rfl)
          have n52 : (S_41 0 13).toInt = (S 0 13).toInt := congrArg Int32.toInt (p45 0 _ rfl)
          have n53 : (S_41 0 14).toInt = (S 0 14).toInt := congrArg Int32.toInt (p45 0 _ rfl)
          have kpI_t54 : pI S_41 := (pI_aG dpI p45)
          have kg0_t55 : gI 0 S_41 := (gI0_G1 hS dg0 p45)
          have kgI_t56 : gI 1 S_41 := p46
          have n57 : 0 ≤ (S_41 62 1).toInt ∧ (S_41 62 1).toInt ≤ 21 := p44 62 1
          have n58 : 0 ≤ (S 62 0).toInt ∧ (S 62 0).toInt ≤ 21 := hS 62 0
          have kz59 : (S_41 62 1).toInt = (S 62 0).toInt := congrArg Int32.toInt p48
          exact tl_X8_missed_L145 (S 62 1) zaG y39 ⟨(by clear hx2 hN23 hN n31 n32 n33 n34 kc35 kc36 n38 n51 n52 n53 n57 n58 kz59; omega), (by clear hx2 hN23 hN n31 n32 n33 n34 kc35 kc36 n38 n51 n52 n53 n57 n58 kz59; omega)⟩   2000 S_41 L k50 kpI_t54 kg0_t55 kgI_t56 p44 (by clear hx2 hN23 hN n31 n32 n33 n34 kc35 kc36 n38 n40 hy39 n51 n52 n53; omega)
    · have kc35 := tq_len (x := (21 : Int32)) (y := (S 62 1)) (a := 21) (by decide) rfl c35
      refine D_ite (fun c120 => ?_) (fun c120 => ?_)
      · have kc120 := tq_le (x := (0 : Int32)) (y := x2) (a := 0) (by decide) rfl c120
        unfold fJ_X8_missed_J124
        refine D_ite (fun c121 => ?_) (fun c121 => ?_)
        · have kc121 := tq_lt (x := x2) (y := (0 : Int32)) rfl (b := 0) (by decide) c121
          exfalso
          exact (by clear hN23 hN n31 n32 n33 n34 kc35; omega)
        · have kc121 := tq_ltn (x := x2) (y := (0 : Int32)) rfl (b := 0) (by decide) c121
          have n123 := i_rng x1
          refine D_ite (fun c122 => ?_) (fun c122 => ?_)
          · have kc122 := tq_eq (x := x1) (y := (0 : Int32)) rfl (b := 0) (by decide) c122
            exact D_some (show (iR BM S) ∧ (aG 1 zaG S) ∧ (pI S) ∧ (gI 0 S) from ⟨hS, daG, dpI, dg0⟩)
          · skip
            refine D_ck (okI_of (by clear hN23 hN n31 n32 n33 n34 kc35 n123; omega) (by clear hN23 hN n31 n32 n33 n34 kc35 n123; omega)) ?_
            refine D_lt (fun y124 ey124 => ?_)
            have n125 : 0 ≤ (S 28 x2.toNatClampNeg).toInt ∧ (S 28 x2.toNatClampNeg).toInt ≤ 20 := hS 28 x2.toNatClampNeg
            have hy124 : y124.toInt = (S 28 x2.toNatClampNeg).toInt := by rw [ey124]
            refine D_bd (t_X8_layTried S hS dg0 dpI) (fun S_126 eq128 hq127 => ?_)
            obtain ⟨p129, p130, p131, p132, p133, p134⟩ : (iR BM S_126) ∧ (aG 1 S S_126) ∧ (gI 1 S_126) ∧ (pI S_126) ∧ (S_126 62 1 = S 62 0) ∧ (S_126 61 1 = S 61 0) := hq127
            have k135 : aG 1 zaG S_126 := aG_tr daG p130
            have n136 : (S_126 0 12).toInt = (S 0 12).toInt := congrArg Int32.toInt (p130 0 _ rfl)
            have n137 : (S_126 0 13).toInt = (S 0 13).toInt := congrArg Int32.toInt (p130 0 _ rfl)
            have n138 : (S_126 0 14).toInt = (S 0 14).toInt := congrArg Int32.toInt (p130 0 _ rfl)
            have kpI_t139 : pI S_126 := (pI_aG dpI p130)
            have kg0_t140 : gI 0 S_126 := (gI0_G1 hS dg0 p130)
            have kgI_t141 : gI 1 S_126 := p131
            have n142 : 0 ≤ (S_126 62 1).toInt ∧ (S_126 62 1).toInt ≤ 21 := p129 62 1
            have n143 : 0 ≤ (S 62 0).toInt ∧ (S 62 0).toInt ≤ 21 := hS 62 0
            have kz144 : (S_126 62 1).toInt = (S 62 0).toInt := congrArg Int32.toInt p133
            exact tl_X8_missed_L145 (S 62 1) zaG y124 ⟨(by clear hx2 hN23 hN n31 n32 n33 n34 kc35 kc120 kc121 n123 n136 n137 n138 n142 n143 kz144; omega), (by clear hx2 hN23 hN n31 n32 n33 n34 kc35 kc120 kc121 n123 n136 n137 n138 n142 n143 kz144; omega)⟩   2000 S_126 L k135 kpI_t139 kg0_t140 kgI_t141 p129 (by clear hx2 hN23 hN n31 n32 n33 n34 kc35 kc120 kc121 n123 n125 hy124 n136 n137 n138; omega)
      · have kc120 := tq_len (x := (0 : Int32)) (y := x2) (a := 0) (by decide) rfl c120
        have l1 : (1 : Int32).toInt = 1 := by decide
        refine D_bd2 (t_X8_outs S L (1 : Int32) hS dpI dgI ⟨(by clear hx2 hN23 hN n31 n32 n33 n34 kc35 kc120; omega), (by clear hx2 hN23 hN n31 n32 n33 n34 kc35 kc120; omega)⟩) (fun S_145 L_146 eq148 hq147 => ?_)
        refine D_lte (y := S_145) rfl ?_
        refine D_lte (y := L_146) rfl ?_
        obtain ⟨p149, p150, p151, p152, p153⟩ : (iR BM S_145) ∧ (aG 1 S S_145) ∧ (pI S_145) ∧ (gI 1 S_145) ∧ (S_145 62 1 = (S 62 1)) := hq147
        have k154 : aG 1 zaG S_145 := aG_tr daG p150
        have k155 : S_145 62 1 = (S 62 1) := p153
        have n156 : (S_145 0 12).toInt = (S 0 12).toInt := congrArg Int32.toInt (p150 0 _ rfl)
        have n157 : (S_145 0 13).toInt = (S 0 13).toInt := congrArg Int32.toInt (p150 0 _ rfl)
        have n158 : (S_145 0 14).toInt = (S 0 14).toInt := congrArg Int32.toInt (p150 0 _ rfl)
        have kg0_t159 : gI 0 S_145 := (gI0_G1 hS dg0 p150)
        have n160 : 0 ≤ (S_145 62 1).toInt ∧ (S_145 62 1).toInt ≤ 21 := p149 62 1
        have kz161 : (S_145 62 1).toInt = (S 62 1).toInt := congrArg Int32.toInt p153
        refine D_lt (fun y162 ey162 => ?_)
        have n163 : ((S_145 0 13) - 1).toInt = (S_145 0 13).toInt - 1 := i_subK rfl (by decide) (by clear hx2 hN23 hN n31 n32 n34 kc35 kc120 n156 n158 n160 kz161; omega) (by clear hx2 hN23 hN n31 n32 n34 kc35 kc120 n156 n158 n160 kz161; omega)
        have hy162 : y162.toInt = ((S_145 0 13) - 1).toInt := by rw [ey162]
        have n240 := i_rng x1
        exact tl_X8_missed_L50 (S 62 1) zaG S_145 L_146 x1 N23 p149 k154 p151 kg0_t159 p152 (by clear hx2 hN23 hN n32 n33 n34 kc120 n156 n157 n158 n163 hy162 n240; omega) (by clear hx2 n32 n33 n34 kc120 n156 n157 n158 n163 hy162 n240; omega) k23 hk23 2000 x2 y162 ⟨(by clear hN23 hN n31 n32 n33 n34 kc35 n156 n157 n158 n160 kz161 n163 hy162 n240; omega), (by clear hN23 hN n31 n32 n33 n34 kc35 n156 n157 n158 n160 kz161 n163 hy162 n240; omega)⟩ ⟨(by clear hx2 hN23 hN n31 n32 n34 kc35 kc120 n156 n158 n160 kz161 n240; omega), (by clear hx2 hN23 hN n31 n32 n34 kc35 kc120 n156 n158 n160 kz161 n240; omega)⟩ (by clear hx2 hN23 hN n31 n32 n34 kc35 kc120 n156 n158 n160 kz161 n240; omega)
set_option maxHeartbeats 1000000 in
set_option maxRecDepth 100000 in
theorem t_X8_missed (S : Tr) (L : Lo) (x1 : Int32) (hS : iR BM S) (dpI : pI S) (dg0 : gI 0 S) : D (f_X8_missed S L x1) (fun (q : Int32 × Tr × Lo) => (iR BM (q.2.1)) ∧ (aG 1 S (q.2.1)) ∧ (pI (q.2.1)) ∧ (gI 0 (q.2.1))) := by
  unfold f_X8_missed
  refine D_lt (fun S_1 eS_1 => ?_)
  have hS_1 : iR BM S_1 := by rw [eS_1]; exact iR_setU hS rfl
  have kaG_t2 : aG 1 S S_1 := (by rw [eS_1]; exact aG_set aG_rfl (Wb_t rfl))
  have kpI_t3 : pI S_1 := by rw [eS_1]; exact dpI
  have kg0_t4 : gI 0 S_1 := by rw [eS_1]; exact dg0
  have kkn_t6 : S_1 62 1 = (S 62 1) := by rw [eS_1]; exact rfl
  have l0 : (0 : Int32).toInt = 0 := by decide
  have n7 : (S_1 0 2).toInt = (0 : Int32).toInt := by rw [eS_1]; rfl
  have n8 := i_rng x1
  have l1 : (1 : Int32).toInt = 1 := by decide
  refine D_bd (t_X8_isIn x1 (0 : Int32) (1 : Int32) ) (fun r9 eq11 hq10 => ?_)
  obtain ⟨p12, p13⟩ : (0 ≤ r9.toInt ∧ r9.toInt ≤ 1) ∧ (r9.toInt = 1 → (0 : Int32).toInt ≤ x1.toInt ∧ x1.toInt ≤ (1 : Int32).toInt) := hq10
  refine D_ite (fun c14 => ?_) (fun c14 => ?_)
  · have kc14 := tq_eq (x := r9) (y := (0 : Int32)) rfl (b := 0) (by decide) c14
    have lm1 : ((-1) : Int32).toInt = (-1) := by decide
    exact D_some (show (iR BM S_1) ∧ (aG 1 S S_1) ∧ (pI S_1) ∧ (gI 0 S_1) from ⟨hS_1, kaG_t2, kpI_t3, kg0_t4⟩)
  · have kc140 := tq_eqn (x := r9) (y := (0 : Int32)) rfl (b := 0) (by decide) c14
    have kc14 : 1 ≤ r9.toInt := (by omega)
    clear kc140
    refine D_bd (t_X8_layTried S_1 hS_1 kg0_t4 kpI_t3) (fun S_15 eq17 hq16 => ?_)
    obtain ⟨p18, p19, p20, p21, p22, p23⟩ : (iR BM S_15) ∧ (aG 1 S_1 S_15) ∧ (gI 1 S_15) ∧ (pI S_15) ∧ (S_15 62 1 = S_1 62 0) ∧ (S_15 61 1 = S_1 61 0) := hq16
    have k24 : aG 1 S S_15 := aG_tr kaG_t2 p19
    have kpI_t25 : pI S_15 := (pI_aG kpI_t3 p19)
    have kg0_t26 : gI 0 S_15 := (gI0_G1 hS_1 kg0_t4 p19)
    have kgI_t27 : gI 1 S_15 := p20
    have n28 : 0 ≤ (S_15 62 1).toInt ∧ (S_15 62 1).toInt ≤ 21 := p18 62 1
    have n29 : 0 ≤ (S_1 62 0).toInt ∧ (S_1 62 0).toInt ≤ 21 := hS_1 62 0
    have kz30 : (S_15 62 1).toInt = (S_1 62 0).toInt := congrArg Int32.toInt p22
    have lm2 : ((-2) : Int32).toInt = (-2) := by decide
    exact tl_X8_missed_L23 (S 62 1) S x1    2000 ((-2) : Int32) S_15 L k24 kpI_t25 kg0_t26 kgI_t27 p18 ⟨(by clear n7 n8 p12 p13 kc14 n28 n29 kz30; omega), (by clear n7 n8 p12 p13 kc14 n28 n29 kz30; omega)⟩ (by clear n7 n8 p12 p13 kc14; omega)
set_option maxHeartbeats 1000000 in
set_option maxRecDepth 100000 in
theorem t_X8_named (S : Tr) (x1 : Int32) (hS : iR BM S) (dpI : pI S) (dg0 : gI 0 S) : D (f_X8_named S x1) (fun (q : Int32 × Tr) => (iR BM (q.2)) ∧ (aT S (q.2)) ∧ (pI (q.2)) ∧ (gI 0 (q.2))) := by
  unfold f_X8_named
  refine D_lt (fun S_1 eS_1 => ?_)
  have hS_1 : iR BM S_1 := by rw [eS_1]; exact iR_setU hS rfl
  have kaT_t2 : aT S S_1 := (by rw [eS_1]; exact aT_set aT_rfl rfl)
  have kpI_t3 : pI S_1 := by rw [eS_1]; exact dpI
  have kg0_t4 : gI 0 S_1 := by rw [eS_1]; exact dg0
  have l0 : (0 : Int32).toInt = 0 := by decide
  have n5 : (S_1 0 2).toInt = (0 : Int32).toInt := by rw [eS_1]; rfl
  have n6 : 0 ≤ (S_1 0 13).toInt ∧ (S_1 0 13).toInt ≤ 6 := hS_1 0 13
  have n7 := i_rng x1
  refine D_bd (t_X8_find_26 S_1 (0 : Int32) (S_1 0 13) x1 hS_1 ⟨(by clear n5 n6 n7; omega), (by clear n5 n6 n7; omega)⟩ ⟨(by omega), (by omega)⟩) (fun r8 eq10 hq9 => ?_)
  have p11 : (-1) ≤ r8.toInt ∧ r8.toInt ≤ 5 := hq9
  exact D_some (show (iR BM S_1) ∧ (aT S S_1) ∧ (pI S_1) ∧ (gI 0 S_1) from ⟨hS_1, kaT_t2, kpI_t3, kg0_t4⟩)
set_option maxHeartbeats 1000000 in
set_option maxRecDepth 100000 in
theorem t_X8_person (S : Tr) (x1 : Int32) (x2 : Int32) (hS : iR BM S) (dpI : pI S) (dg0 : gI 0 S) : D (f_X8_person S x1 x2) (fun (q : Int32 × Tr) => (iR BM (q.2)) ∧ (aT S (q.2)) ∧ (pI (q.2)) ∧ (gI 0 (q.2))) := by
  unfold f_X8_person
  refine D_lt (fun S_1 eS_1 => ?_)
  have hS_1 : iR BM S_1 := by rw [eS_1]; exact iR_setU hS rfl
  have kaT_t2 : aT S S_1 := (by rw [eS_1]; exact aT_set aT_rfl rfl)
  have kpI_t3 : pI S_1 := by rw [eS_1]; exact dpI
  have kg0_t4 : gI 0 S_1 := by rw [eS_1]; exact dg0
  have l0 : (0 : Int32).toInt = 0 := by decide
  have n5 : (S_1 0 2).toInt = (0 : Int32).toInt := by rw [eS_1]; rfl
  have n6 := i_rng x1
  refine D_bd (t_X8_isPerson S_1 x1 hS_1) (fun r7 eq9 hq8 => ?_)
  obtain ⟨p10, p11⟩ : (0 ≤ r7.toInt ∧ r7.toInt ≤ 1) ∧ (r7.toInt = 1 → 0 ≤ x1.toInt ∧ x1.toInt < (S_1 0 13).toInt) := hq8
  have n12 : 0 ≤ (S_1 0 14).toInt ∧ (S_1 0 14).toInt ≤ 10 := hS_1 0 14
  have n13 : 0 ≤ (S_1 0 13).toInt ∧ (S_1 0 13).toInt ≤ 6 := hS_1 0 13
  have n14 : 0 ≤ (S_1 0 12).toInt ∧ (S_1 0 12).toInt ≤ 5 := hS_1 0 12
  refine D_ite (fun c15 => ?_) (fun c15 => ?_)
  · have kc15 := tq_eq (x := r7) (y := (0 : Int32)) rfl (b := 0) (by decide) c15
    have l1 : (1 : Int32).toInt = 1 := by decide
    refine D_bd2 (t_X8_fails S_1 (1 : Int32) hS_1 kpI_t3 kg0_t4) (fun r16 S_17 eq19 hq18 => ?_)
    refine D_lte (y := r16) rfl ?_
    refine D_lte (y := S_17) rfl ?_
    obtain ⟨p20, p21, p22, p23, p24⟩ : (0 ≤ r16.toInt ∧ r16.toInt ≤ 0) ∧ (iR BM S_17) ∧ (aT S_1 S_17) ∧ (pI S_17) ∧ (gI 0 S_17) := hq18
    have k25 : aT S S_17 := aT_tr kaT_t2 p22
    have n26 : (S_17 0 12).toInt = (S_1 0 12).toInt := congrArg Int32.toInt (p22 0 _ rfl)
    have n27 : (S_17 0 13).toInt = (S_1 0 13).toInt := congrArg Int32.toInt (p22 0 _ rfl)
    have n28 : (S_17 0 14).toInt = (S_1 0 14).toInt := congrArg Int32.toInt (p22 0 _ rfl)
    exact D_some (show (iR BM S_17) ∧ (aT S S_17) ∧ (pI S_17) ∧ (gI 0 S_17) from ⟨p21, k25, p23, p24⟩)
  · have kc150 := tq_eqn (x := r7) (y := (0 : Int32)) rfl (b := 0) (by decide) c15
    have kc15 : 1 ≤ r7.toInt := (by clear n5 n12 n14; omega)
    clear kc150
    have n29 := i_rng x2
    refine D_ite (fun c30 => ?_) (fun c30 => ?_)
    · have kc30 := tq_eq (x := x2) (y := (0 : Int32)) rfl (b := 0) (by decide) c30
      refine D_ck (okI_of (by clear n5 n12 n14 n29 kc30; omega) (by clear n5 n12 n14 n29 kc30; omega)) ?_
      have n31 := i_rng (S_1 27 x1.toNatClampNeg)
      exact D_some (show (iR BM S_1) ∧ (aT S S_1) ∧ (pI S_1) ∧ (gI 0 S_1) from ⟨hS_1, kaT_t2, kpI_t3, kg0_t4⟩)
    · skip
      refine D_ite (fun c32 => ?_) (fun c32 => ?_)
      · have kc32 := tq_eq (x := x2) (y := (1 : Int32)) rfl (b := 1) (by decide) c32
        refine D_ck (okI_of (by clear n5 n12 n14 n29 kc32; omega) (by clear n5 n12 n14 n29 kc32; omega)) ?_
        have n33 : 0 ≤ (S_1 28 x1.toNatClampNeg).toInt ∧ (S_1 28 x1.toNatClampNeg).toInt ≤ 20 := hS_1 28 x1.toNatClampNeg
        exact D_some (show (iR BM S_1) ∧ (aT S S_1) ∧ (pI S_1) ∧ (gI 0 S_1) from ⟨hS_1, kaT_t2, kpI_t3, kg0_t4⟩)
      · skip
        refine D_ite (fun c34 => ?_) (fun c34 => ?_)
        · have kc34 := tq_eq (x := x2) (y := (2 : Int32)) rfl (b := 2) (by decide) c34
          refine D_ck (okI_of (by clear n5 n12 n14 n29 kc34; omega) (by clear n5 n12 n14 n29 kc34; omega)) ?_
          have n35 := i_rng (S_1 58 x1.toNatClampNeg)
          exact D_some (show (iR BM S_1) ∧ (aT S S_1) ∧ (pI S_1) ∧ (gI 0 S_1) from ⟨hS_1, kaT_t2, kpI_t3, kg0_t4⟩)
        · skip
          refine D_ite (fun c36 => ?_) (fun c36 => ?_)
          · have kc36 := tq_eq (x := x2) (y := (3 : Int32)) rfl (b := 3) (by decide) c36
            refine D_ck (okI_of (by clear n5 n12 n14 n29 kc36; omega) (by clear n5 n12 n14 n29 kc36; omega)) ?_
            have n37 := i_rng (S_1 59 x1.toNatClampNeg)
            exact D_some (show (iR BM S_1) ∧ (aT S S_1) ∧ (pI S_1) ∧ (gI 0 S_1) from ⟨hS_1, kaT_t2, kpI_t3, kg0_t4⟩)
          · skip
            refine D_ite (fun c38 => ?_) (fun c38 => ?_)
            · have kc38 := tq_eq (x := x2) (y := (4 : Int32)) rfl (b := 4) (by decide) c38
              refine D_ck (okI_of (by clear n5 n12 n14 n29 kc38; omega) (by clear n5 n12 n14 n29 kc38; omega)) ?_
              have n39 := i_rng (S_1 60 x1.toNatClampNeg)
              exact D_some (show (iR BM S_1) ∧ (aT S S_1) ∧ (pI S_1) ∧ (gI 0 S_1) from ⟨hS_1, kaT_t2, kpI_t3, kg0_t4⟩)
            · skip
              have l2 : (2 : Int32).toInt = 2 := by decide
              refine D_bd2 (t_X8_fails S_1 (2 : Int32) hS_1 kpI_t3 kg0_t4) (fun r40 S_41 eq43 hq42 => ?_)
              refine D_lte (y := r40) rfl ?_
              refine D_lte (y := S_41) rfl ?_
              obtain ⟨p44, p45, p46, p47, p48⟩ : (0 ≤ r40.toInt ∧ r40.toInt ≤ 0) ∧ (iR BM S_41) ∧ (aT S_1 S_41) ∧ (pI S_41) ∧ (gI 0 S_41) := hq42
              have k49 : aT S S_41 := aT_tr kaT_t2 p46
              have n50 : (S_41 0 12).toInt = (S_1 0 12).toInt := congrArg Int32.toInt (p46 0 _ rfl)
              have n51 : (S_41 0 13).toInt = (S_1 0 13).toInt := congrArg Int32.toInt (p46 0 _ rfl)
              have n52 : (S_41 0 14).toInt = (S_1 0 14).toInt := congrArg Int32.toInt (p46 0 _ rfl)
              exact D_some (show (iR BM S_41) ∧ (aT S S_41) ∧ (pI S_41) ∧ (gI 0 S_41) from ⟨p45, k49, p47, p48⟩)
set_option maxHeartbeats 1000000 in
set_option maxRecDepth 100000 in
theorem t_X8_piece (S : Tr) (x1 : Int32) (x2 : Int32) (hS : iR BM S) (dpI : pI S) (dg0 : gI 0 S) : D (f_X8_piece S x1 x2) (fun (q : Int32 × Tr) => (iR BM (q.2)) ∧ (aT S (q.2)) ∧ (pI (q.2)) ∧ (gI 0 (q.2))) := by
  unfold f_X8_piece
  refine D_lt (fun S_1 eS_1 => ?_)
  have hS_1 : iR BM S_1 := by rw [eS_1]; exact iR_setU hS rfl
  have kaT_t2 : aT S S_1 := (by rw [eS_1]; exact aT_set aT_rfl rfl)
  have kpI_t3 : pI S_1 := by rw [eS_1]; exact dpI
  have kg0_t4 : gI 0 S_1 := by rw [eS_1]; exact dg0
  have l0 : (0 : Int32).toInt = 0 := by decide
  have n5 : (S_1 0 2).toInt = (0 : Int32).toInt := by rw [eS_1]; rfl
  have n6 := i_rng x1
  refine D_bd (t_X8_isPiece S_1 x1 hS_1) (fun r7 eq9 hq8 => ?_)
  obtain ⟨p10, p11⟩ : (0 ≤ r7.toInt ∧ r7.toInt ≤ 1) ∧ (r7.toInt = 1 → 0 ≤ x1.toInt ∧ x1.toInt < (S_1 0 14).toInt) := hq8
  have n12 : 0 ≤ (S_1 0 14).toInt ∧ (S_1 0 14).toInt ≤ 10 := hS_1 0 14
  have n13 : 0 ≤ (S_1 0 13).toInt ∧ (S_1 0 13).toInt ≤ 6 := hS_1 0 13
  have n14 : 0 ≤ (S_1 0 12).toInt ∧ (S_1 0 12).toInt ≤ 5 := hS_1 0 12
  refine D_ite (fun c15 => ?_) (fun c15 => ?_)
  · have kc15 := tq_eq (x := r7) (y := (0 : Int32)) rfl (b := 0) (by decide) c15
    have lm1 : ((-1) : Int32).toInt = (-1) := by decide
    exact D_some (show (iR BM S_1) ∧ (aT S S_1) ∧ (pI S_1) ∧ (gI 0 S_1) from ⟨hS_1, kaT_t2, kpI_t3, kg0_t4⟩)
  · have kc150 := tq_eqn (x := r7) (y := (0 : Int32)) rfl (b := 0) (by decide) c15
    have kc15 : 1 ≤ r7.toInt := (by clear n5 n13 n14; omega)
    clear kc150
    have n16 := i_rng x2
    refine D_ite (fun c17 => ?_) (fun c17 => ?_)
    · have kc17 := tq_eq (x := x2) (y := (0 : Int32)) rfl (b := 0) (by decide) c17
      refine D_ck (okI_of (by clear n5 n13 n14 n16 kc17; omega) (by clear n5 n13 n14 n16 kc17; omega)) ?_
      have n18 : 0 ≤ (S_1 30 x1.toNatClampNeg).toInt ∧ (S_1 30 x1.toNatClampNeg).toInt ≤ 5 := hS_1 30 x1.toNatClampNeg
      exact D_some (show (iR BM S_1) ∧ (aT S S_1) ∧ (pI S_1) ∧ (gI 0 S_1) from ⟨hS_1, kaT_t2, kpI_t3, kg0_t4⟩)
    · skip
      refine D_ite (fun c19 => ?_) (fun c19 => ?_)
      · have kc19 := tq_eq (x := x2) (y := (1 : Int32)) rfl (b := 1) (by decide) c19
        refine D_ck (okI_of (by clear n5 n13 n14 n16 kc19; omega) (by clear n5 n13 n14 n16 kc19; omega)) ?_
        have n20 := i_rng (S_1 31 x1.toNatClampNeg)
        exact D_some (show (iR BM S_1) ∧ (aT S S_1) ∧ (pI S_1) ∧ (gI 0 S_1) from ⟨hS_1, kaT_t2, kpI_t3, kg0_t4⟩)
      · skip
        refine D_ite (fun c21 => ?_) (fun c21 => ?_)
        · have kc21 := tq_eq (x := x2) (y := (2 : Int32)) rfl (b := 2) (by decide) c21
          refine D_ck (okI_of (by clear n5 n13 n14 n16 kc21; omega) (by clear n5 n13 n14 n16 kc21; omega)) ?_
          have n22 := i_rng (S_1 32 x1.toNatClampNeg)
          exact D_some (show (iR BM S_1) ∧ (aT S S_1) ∧ (pI S_1) ∧ (gI 0 S_1) from ⟨hS_1, kaT_t2, kpI_t3, kg0_t4⟩)
        · skip
          refine D_ite (fun c23 => ?_) (fun c23 => ?_)
          · have kc23 := tq_eq (x := x2) (y := (3 : Int32)) rfl (b := 3) (by decide) c23
            refine D_ck (okI_of (by clear n5 n13 n14 n16 kc23; omega) (by clear n5 n13 n14 n16 kc23; omega)) ?_
            have n24 : 0 ≤ (S_1 53 x1.toNatClampNeg).toInt ∧ (S_1 53 x1.toNatClampNeg).toInt ≤ 5 := hS_1 53 x1.toNatClampNeg
            exact D_some (show (iR BM S_1) ∧ (aT S S_1) ∧ (pI S_1) ∧ (gI 0 S_1) from ⟨hS_1, kaT_t2, kpI_t3, kg0_t4⟩)
          · skip
            refine D_ite (fun c25 => ?_) (fun c25 => ?_)
            · have kc25 := tq_eq (x := x2) (y := (4 : Int32)) rfl (b := 4) (by decide) c25
              refine D_ck (okI_of (by clear n5 n13 n14 n16 kc25; omega) (by clear n5 n13 n14 n16 kc25; omega)) ?_
              have n26 : (-1) ≤ (S_1 54 x1.toNatClampNeg).toInt ∧ (S_1 54 x1.toNatClampNeg).toInt ≤ 4 := hS_1 54 x1.toNatClampNeg
              exact D_some (show (iR BM S_1) ∧ (aT S S_1) ∧ (pI S_1) ∧ (gI 0 S_1) from ⟨hS_1, kaT_t2, kpI_t3, kg0_t4⟩)
            · skip
              refine D_ite (fun c27 => ?_) (fun c27 => ?_)
              · have kc27 := tq_eq (x := x2) (y := (5 : Int32)) rfl (b := 5) (by decide) c27
                refine D_bd (t_X8_aboveOf S_1 (0 : Int32) x1 hS_1 ⟨(by clear n5 n6 p10 p11 n12 n13 n14 kc15 n16 kc27; omega), (by clear n5 n6 p10 p11 n12 n13 n14 kc15 n16 kc27; omega)⟩ ⟨(by clear n5 n13 n14 n16 kc27; omega), (by clear n5 n13 n14 n16 kc27; omega)⟩ kg0_t4.1) (fun r28 eq30 hq29 => ?_)
                have n31 := i_rng r28
                exact D_some (show (iR BM S_1) ∧ (aT S S_1) ∧ (pI S_1) ∧ (gI 0 S_1) from ⟨hS_1, kaT_t2, kpI_t3, kg0_t4⟩)
              · skip
                have lm1 : ((-1) : Int32).toInt = (-1) := by decide
                exact D_some (show (iR BM S_1) ∧ (aT S S_1) ∧ (pI S_1) ∧ (gI 0 S_1) from ⟨hS_1, kaT_t2, kpI_t3, kg0_t4⟩)
set_option maxHeartbeats 1000000 in
set_option maxRecDepth 100000 in
theorem t_X8_place (S : Tr) (x1 : Int32) (x2 : Int32) (hS : iR BM S) (dpI : pI S) (dg0 : gI 0 S) : D (f_X8_place S x1 x2) (fun (q : Int32 × Tr) => (iR BM (q.2)) ∧ (aT S (q.2)) ∧ (pI (q.2)) ∧ (gI 0 (q.2))) := by
  unfold f_X8_place
  have n1 : 0 ≤ (S 0 14).toInt ∧ (S 0 14).toInt ≤ 10 := hS 0 14
  have n2 : 0 ≤ (S 0 13).toInt ∧ (S 0 13).toInt ≤ 6 := hS 0 13
  have n3 : 0 ≤ (S 0 12).toInt ∧ (S 0 12).toInt ≤ 5 := hS 0 12
  refine D_lt (fun S_4 eS_4 => ?_)
  have hS_4 : iR BM S_4 := by rw [eS_4]; exact iR_setU hS rfl
  have kaT_t5 : aT S S_4 := (by rw [eS_4]; exact aT_set aT_rfl rfl)
  have kpI_t6 : pI S_4 := by rw [eS_4]; exact dpI
  have kg0_t7 : gI 0 S_4 := by rw [eS_4]; exact dg0
  have n8 : (S_4 0 13).toInt = (S 0 13).toInt := by rw [eS_4]; rfl
  have n9 : (S_4 0 14).toInt = (S 0 14).toInt := by rw [eS_4]; rfl
  have n10 : (S_4 0 12).toInt = (S 0 12).toInt := by rw [eS_4]; rfl
  have l0 : (0 : Int32).toInt = 0 := by decide
  have n11 : (S_4 0 2).toInt = (0 : Int32).toInt := by rw [eS_4]; rfl
  have n12 := i_rng x1
  refine D_bd (t_X8_isPlace S_4 x1 hS_4) (fun r13 eq15 hq14 => ?_)
  obtain ⟨p16, p17⟩ : (0 ≤ r13.toInt ∧ r13.toInt ≤ 1) ∧ (r13.toInt = 1 → 0 ≤ x1.toInt ∧ x1.toInt < (S_4 0 12).toInt) := hq14
  refine D_ite (fun c18 => ?_) (fun c18 => ?_)
  · have kc18 := tq_eq (x := r13) (y := (0 : Int32)) rfl (b := 0) (by decide) c18
    have lm1 : ((-1) : Int32).toInt = (-1) := by decide
    exact D_some (show (iR BM S_4) ∧ (aT S S_4) ∧ (pI S_4) ∧ (gI 0 S_4) from ⟨hS_4, kaT_t5, kpI_t6, kg0_t7⟩)
  · have kc180 := tq_eqn (x := r13) (y := (0 : Int32)) rfl (b := 0) (by decide) c18
    have kc18 : 1 ≤ r13.toInt := (by clear n1 n2 n8 n9 n11; omega)
    clear kc180
    have n19 := i_rng x2
    refine D_ite (fun c20 => ?_) (fun c20 => ?_)
    · have kc20 := tq_eq (x := x2) (y := (0 : Int32)) rfl (b := 0) (by decide) c20
      refine D_ck (okI_of (by clear n1 n2 n8 n9 n11 n19 kc20; omega) (by clear n1 n2 n8 n9 n11 n19 kc20; omega)) ?_
      have n21 := i_rng (S_4 24 x1.toNatClampNeg)
      exact D_some (show (iR BM S_4) ∧ (aT S S_4) ∧ (pI S_4) ∧ (gI 0 S_4) from ⟨hS_4, kaT_t5, kpI_t6, kg0_t7⟩)
    · skip
      refine D_ite (fun c22 => ?_) (fun c22 => ?_)
      · have kc22 := tq_eq (x := x2) (y := (1 : Int32)) rfl (b := 1) (by decide) c22
        refine D_ck (okI_of (by clear n1 n2 n8 n9 n11 n19 kc22; omega) (by clear n1 n2 n8 n9 n11 n19 kc22; omega)) ?_
        have n23 := i_rng (S_4 25 x1.toNatClampNeg)
        exact D_some (show (iR BM S_4) ∧ (aT S S_4) ∧ (pI S_4) ∧ (gI 0 S_4) from ⟨hS_4, kaT_t5, kpI_t6, kg0_t7⟩)
      · skip
        refine D_ite (fun c24 => ?_) (fun c24 => ?_)
        · have kc24 := tq_eq (x := x2) (y := (2 : Int32)) rfl (b := 2) (by decide) c24
          refine D_bd (t_X8_weightIn S_4 (0 : Int32) x1 hS_4 ⟨(by clear n1 n2 n3 n8 n9 n10 n11 n12 p16 p17 kc18 n19 kc24; omega), (by clear n1 n2 n3 n8 n9 n10 n11 n12 p16 p17 kc18 n19 kc24; omega)⟩ ⟨(by clear n1 n2 n8 n9 n11 n19 kc24; omega), (by clear n1 n2 n8 n9 n11 n19 kc24; omega)⟩) (fun r25 eq27 hq26 => ?_)
          have n28 := i_rng r25
          exact D_some (show (iR BM S_4) ∧ (aT S S_4) ∧ (pI S_4) ∧ (gI 0 S_4) from ⟨hS_4, kaT_t5, kpI_t6, kg0_t7⟩)
        · skip
          refine D_ite (fun c29 => ?_) (fun c29 => ?_)
          · have kc29 := tq_eq (x := x2) (y := (3 : Int32)) rfl (b := 3) (by decide) c29
            refine D_ck (okI_of (by clear n1 n2 n8 n9 n11 n19 kc29; omega) (by clear n1 n2 n8 n9 n11 n19 kc29; omega)) ?_
            have n30 : 0 ≤ (S_4 56 x1.toNatClampNeg).toInt ∧ (S_4 56 x1.toNatClampNeg).toInt ≤ 10 := hS_4 56 x1.toNatClampNeg
            exact D_some (show (iR BM S_4) ∧ (aT S S_4) ∧ (pI S_4) ∧ (gI 0 S_4) from ⟨hS_4, kaT_t5, kpI_t6, kg0_t7⟩)
          · skip
            refine D_ite (fun c31 => ?_) (fun c31 => ?_)
            · have kc31 := tq_eq (x := x2) (y := (4 : Int32)) rfl (b := 4) (by decide) c31
              refine D_ck (okI_of (by clear n1 n2 n8 n9 n11 n19 kc31; omega) (by clear n1 n2 n8 n9 n11 n19 kc31; omega)) ?_
              have n33 : 0 ≤ (S_4 56 x1.toNatClampNeg).toInt ∧ (S_4 56 x1.toNatClampNeg).toInt ≤ 10 := hS_4 56 x1.toNatClampNeg
              refine D_ite (fun c32 => ?_) (fun c32 => ?_)
              · have kc32 := tq_eq (x := (S_4 56 x1.toNatClampNeg)) (y := (0 : Int32)) rfl (b := 0) (by decide) c32
                have lm1 : ((-1) : Int32).toInt = (-1) := by decide
                exact D_some (show (iR BM S_4) ∧ (aT S S_4) ∧ (pI S_4) ∧ (gI 0 S_4) from ⟨hS_4, kaT_t5, kpI_t6, kg0_t7⟩)
              · have kc320 := tq_eqn (x := (S_4 56 x1.toNatClampNeg)) (y := (0 : Int32)) rfl (b := 0) (by decide) c32
                have kc32 : 1 ≤ (S_4 56 x1.toNatClampNeg).toInt := (by clear n1 n2 n3 n8 n9 n10 n11 n12 p16 p17 kc18 n19 kc31; omega)
                clear kc320
                have n34 : ((S_4 56 x1.toNatClampNeg) - 1).toInt = (S_4 56 x1.toNatClampNeg).toInt - 1 := i_subK rfl (by decide) (by clear n1 n2 n3 n8 n9 n10 n11 n12 p16 p17 kc18 n19 kc31; omega) (by clear n1 n2 n3 n8 n9 n10 n11 n12 p16 p17 kc18 n19 kc31; omega)
                refine D_bd (t_X8_stackAt2 S_4 (0 : Int32) x1 ((S_4 56 x1.toNatClampNeg) - 1) hS_4 ⟨(by clear n1 n2 n3 n8 n9 n10 n11 n12 p16 p17 kc18 n19 kc31 n33 kc32 n34; omega), (by clear n1 n2 n3 n8 n9 n10 n11 n12 p16 p17 kc18 n19 kc31 n33 kc32 n34; omega)⟩ ⟨(by clear n1 n2 n8 n9 n11 n19 kc31 n33 kc32 n34; omega), (by clear n1 n2 n8 n9 n11 n19 kc31 n33 kc32 n34; omega)⟩ ⟨(by clear n1 n2 n3 n8 n9 n10 n11 n12 p16 p17 kc18 n19 kc31; omega), (by clear n1 n2 n3 n8 n9 n10 n11 n12 p16 p17 kc18 n19 kc31; omega)⟩) (fun r35 eq37 hq36 => ?_)
                obtain ⟨p38, p39⟩ : (0 ≤ r35.toInt ∧ r35.toInt ≤ 9) ∧ (r35 = S_4 55 (50 * 0 + 10 * x1.toNatClampNeg + ((S_4 56 x1.toNatClampNeg) - 1).toNatClampNeg)) := hq36
                exact D_some (show (iR BM S_4) ∧ (aT S S_4) ∧ (pI S_4) ∧ (gI 0 S_4) from ⟨hS_4, kaT_t5, kpI_t6, kg0_t7⟩)
            · skip
              have lm1 : ((-1) : Int32).toInt = (-1) := by decide
              exact D_some (show (iR BM S_4) ∧ (aT S S_4) ∧ (pI S_4) ∧ (gI 0 S_4) from ⟨hS_4, kaT_t5, kpI_t6, kg0_t7⟩)
set_option maxHeartbeats 1000000 in
set_option maxRecDepth 100000 in
theorem tl_X8_restAt_L156 (zaG : Tr) (S : Tr) (L : Lo) (x3 : Int32) (x4 : Int32) (x5 : Int32) (N136 : Nat) (hS : iR BM S) (daG : aG 1 zaG S) (dpI : pI S) (dg0 : gI 0 S) (hx5 : 0 ≤ x5.toInt ∧ x5.toInt ≤ 24) (hp1 : 1 ≤ (S 0 12).toInt) (hdv : 0 ≤ (x5 / (S 0 12)).toInt ∧ (x5 / (S 0 12)).toInt < (S 0 12).toInt) (hN136 : 1000 - x5.toInt < (N136 : Int) + 1) (k136 : Int32 → Int32 → Option (Int32 × Tr × Lo)) (hk136 : ∀ (x4 : Int32) (x5 : Int32), 0 ≤ x5.toInt ∧ x5.toInt ≤ 1000 → 1000 - x5.toInt < (N136 : Int) → D (k136 x4 x5) (fun (q : Int32 × Tr × Lo) => (iR BM (q.2.1)) ∧ (aG 1 zaG (q.2.1)) ∧ (pI (q.2.1)) ∧ (gI 0 (q.2.1)))) (N : Nat) : ∀ (x6 : Int32) (x7 : Int32), 0 ≤ x6.toInt ∧ x6.toInt ≤ 1 → 0 ≤ x7.toInt ∧ x7.toInt ≤ 1000 → 1000 - x7.toInt < (N : Int) → D (lpF (fun _ _ => none) (fB_X8_restAt_L156 k136 S L x3 x4 x5) N x6 x7) (fun (q : Int32 × Tr × Lo) => (iR BM (q.2.1)) ∧ (aG 1 zaG (q.2.1)) ∧ (pI (q.2.1)) ∧ (gI 0 (q.2.1))) := by
  induction N with
  | zero =>
    intro x6 x7 hx6 hx7 hN
    exfalso
    omega
  | succ N156 ih =>
    intro x6 x7 hx6 hx7 hN
    have hk156 : ∀ (x6 : Int32) (x7 : Int32), 0 ≤ x6.toInt ∧ x6.toInt ≤ 1 → 0 ≤ x7.toInt ∧ x7.toInt ≤ 1000 → 1000 - x7.toInt < (N156 : Int) → D (lpF (fun _ _ => none) (fB_X8_restAt_L156 k136 S L x3 x4 x5) N156 x6 x7) (fun (q : Int32 × Tr × Lo) => (iR BM (q.2.1)) ∧ (aG 1 zaG (q.2.1)) ∧ (pI (q.2.1)) ∧ (gI 0 (q.2.1))) := ih
    show D (fB_X8_restAt_L156 k136 S L x3 x4 x5 (lpF (fun _ _ => none) (fB_X8_restAt_L156 k136 S L x3 x4 x5) N156) x6 x7) _
    generalize lpF (fun _ _ => none) (fB_X8_restAt_L156 k136 S L x3 x4 x5) N156 = k156 at hk156 ⊢
    have hN156 : 1000 - x7.toInt < (N156 : Int) + 1 := by omega
    clear ih
    unfold fB_X8_restAt_L156
    have n19 : 0 ≤ (S 62 0).toInt ∧ (S 62 0).toInt ≤ 21 := hS 62 0
    have n20 : 0 ≤ (S 62 1).toInt ∧ (S 62 1).toInt ≤ 21 := hS 62 1
    have n21 : 0 ≤ (S 0 14).toInt ∧ (S 0 14).toInt ≤ 10 := hS 0 14
    have n22 : 0 ≤ (S 0 13).toInt ∧ (S 0 13).toInt ≤ 6 := hS 0 13
    have n23 : 0 ≤ (S 0 12).toInt ∧ (S 0 12).toInt ≤ 5 := hS 0 12
    refine D_ite (fun c24 => ?_) (fun c24 => ?_)
    · have kc24 := tq_le (x := (S 0 12)) (y := x7) rfl rfl c24
      unfold fJ_X8_restAt_J243
      refine D_ite (fun c25 => ?_) (fun c25 => ?_)
      · have kc25 := tq_eq (x := x6) (y := (0 : Int32)) rfl (b := 0) (by decide) c25
        have n27 : (x5 + 1).toInt = x5.toInt + 1 := i_addK rfl (by decide) (by clear hp1 hdv hx6 hx7 hN136 hN156 hN n19 n20 n21 n22 n23 kc24 kc25; omega) (by clear hp1 hdv hx6 hx7 hN136 hN156 hN n19 n20 n21 n22 n23 kc24 kc25; omega)
        refine D_lt (fun y26 ey26 => ?_)
        have hy26 : y26.toInt = (x5 + 1 : Int32).toInt := by rw [ey26]
        have n28 := i_rng x4
        exact hk136 x4 y26 ⟨(by clear hp1 hdv hx6 hx7 hN136 hN156 hN n19 n20 n21 n22 n23 kc24 kc25 n28; omega), (by clear hp1 hdv hx6 hx7 hN136 hN156 hN n19 n20 n21 n22 n23 kc24 kc25 n28; omega)⟩ (by clear hp1 hdv hx6 hx7 hN156 hN n19 n20 n21 n22 n23 kc24 kc25 n28; omega)
      · have kc250 := tq_eqn (x := x6) (y := (0 : Int32)) rfl (b := 0) (by decide) c25
        have kc25 : 1 ≤ x6.toInt := (by clear hx5 hp1 hdv hx7 hN136 hN156 hN n19 n20 n21 n22 n23 kc24; omega)
        clear kc250
        have n30 := i_rng x4
        have n31 := i_rng x3
        refine D_ite (fun c29 => ?_) (fun c29 => ?_)
        · have kc29 := tq_eq (x := x4) (y := x3) rfl rfl c29
          unfold fJ_X8_restAt_J257
          have l0 : (0 : Int32).toInt = 0 := by decide
          refine D_ck (ok_ne (by clear hx5 hx6 hN136 hN156 hN n19 n20 n21 n22 kc25 n30 n31 kc29; omega)) ?_
          have n32 := i_divv (a := x5) (b := (S 0 12)) (by clear hp1 hdv hx6 hx7 hN136 hN156 hN n19 n20 n21 n22 n23 kc24 kc25 n30 n31 kc29; omega) (by clear hx5 hx6 hN136 hN156 hN n19 n20 n21 n22 kc25 n30 n31 kc29; omega)
          have n33 := i_mulL (a := (10 : Int32)) (b := (x5 / (S 0 12))) 10 (by decide) (by clear hx6 hN136 hN156 hN n19 n20 n21 n22 kc25 n30 n31 kc29; omega) (by clear hx6 hN136 hN156 hN n19 n20 n21 n22 kc25 n30 n31 kc29; omega)
          have n34 := i_remv (a := x5) (b := (S 0 12)) (by clear hx6 hN136 hN156 hN n19 n20 n21 n22 kc25 n30 n31 kc29; omega) (by clear hx6 hN136 hN156 hN n19 n20 n21 n22 kc25 n30 n31 kc29; omega)
          have n35 : (((10 : Int32) * (x5 / (S 0 12))) + (x5 - x5 / (S 0 12) * (S 0 12))).toInt = ((10 : Int32) * (x5 / (S 0 12))).toInt + (x5 - x5 / (S 0 12) * (S 0 12)).toInt := i_addK rfl rfl (by clear hx6 hN136 hN156 hN n19 n20 n21 n22 kc25 n30 n31 kc29; omega) (by clear hx6 hN136 hN156 hN n19 n20 n21 n22 kc25 n30 n31 kc29; omega)
          exact D_some (show (iR BM S) ∧ (aG 1 zaG S) ∧ (pI S) ∧ (gI 0 S) from ⟨hS, daG, dpI, dg0⟩)
        · skip
          have n37 := i_rng (x4 + 1)
          refine D_lt (fun y36 ey36 => ?_)
          have hy36 : y36.toInt = (x4 + 1 : Int32).toInt := by rw [ey36]
          have n39 : (x5 + 1).toInt = x5.toInt + 1 := i_addK rfl (by decide) (by clear hp1 hdv hx6 hx7 hN136 hN156 hN n19 n20 n21 n22 n23 kc24 kc25 n30 n31 n37 hy36; omega) (by clear hp1 hdv hx6 hx7 hN136 hN156 hN n19 n20 n21 n22 n23 kc24 kc25 n30 n31 n37 hy36; omega)
          refine D_lt (fun y38 ey38 => ?_)
          have hy38 : y38.toInt = (x5 + 1 : Int32).toInt := by rw [ey38]
          exact hk136 y36 y38 ⟨(by clear hp1 hdv hx6 hx7 hN136 hN156 hN n19 n20 n21 n22 n23 kc24 kc25 n30 n31 n37 hy36; omega), (by clear hp1 hdv hx6 hx7 hN136 hN156 hN n19 n20 n21 n22 n23 kc24 kc25 n30 n31 n37 hy36; omega)⟩ (by clear hp1 hdv hx6 hx7 hN156 hN n19 n20 n21 n22 n23 kc24 kc25 n30 n31 n37 hy36; omega)
    · have kc24 := tq_len (x := (S 0 12)) (y := x7) rfl rfl c24
      refine D_ite (fun c40 => ?_) (fun c40 => ?_)
      · have kc40 := tq_eq (x := x6) (y := (0 : Int32)) rfl (b := 0) (by decide) c40
        have n42 : (x7 + 1).toInt = x7.toInt + 1 := i_addK rfl (by decide) (by clear hx5 hx6 hN136 hN156 hN n19 n20 n21 n22 kc40; omega) (by clear hx5 hx6 hN136 hN156 hN n19 n20 n21 n22 kc40; omega)
        refine D_lt (fun y41 ey41 => ?_)
        have hy41 : y41.toInt = (x7 + 1 : Int32).toInt := by rw [ey41]
        have l0 : (0 : Int32).toInt = 0 := by decide
        exact hk156 (0 : Int32) y41 ⟨(by clear hx5 hp1 hdv hx6 hx7 hN136 hN156 hN n19 n20 n21 n22 n23 kc24 kc40 n42 hy41; omega), (by clear hx5 hp1 hdv hx6 hx7 hN136 hN156 hN n19 n20 n21 n22 n23 kc24 kc40 n42 hy41; omega)⟩ ⟨(by clear hx5 hx6 hN136 hN156 hN n19 n20 n21 n22 kc40; omega), (by clear hx5 hx6 hN136 hN156 hN n19 n20 n21 n22 kc40; omega)⟩ (by clear hx5 hx6 hN136 n19 n20 n21 n22 kc40; omega)
      · have kc400 := tq_eqn (x := x6) (y := (0 : Int32)) rfl (b := 0) (by decide) c40
        have kc40 : 1 ≤ x6.toInt := (by clear hx5 hp1 hdv hx7 hN136 hN156 hN n19 n20 n21 n22 n23 kc24; omega)
        clear kc400
        have l0 : (0 : Int32).toInt = 0 := by decide
        refine D_ck (ok_ne (by clear hx5 hx6 hN136 hN156 hN n19 n20 n21 n22 kc40; omega)) ?_
        have n43 := i_remv (a := x5) (b := (S 0 12)) (by clear hp1 hdv hx6 hx7 hN136 hN156 hN n19 n20 n21 n22 n23 kc24 kc40; omega) (by clear hx5 hx6 hN136 hN156 hN n19 n20 n21 n22 kc40; omega)
        have n44 := i_sq (a := (S 0 12)) (p := x7) (r := (x5 - x5 / (S 0 12) * (S 0 12))) ⟨(by clear hx6 hN136 hN156 hN n19 n20 n21 n22 kc40; omega), (by clear hx6 hN136 hN156 hN n19 n20 n21 n22 kc40; omega)⟩ ⟨(by clear hx6 hN136 hN156 hN n19 n20 n21 n22 kc40; omega), (by clear hx6 hN136 hN156 hN n19 n20 n21 n22 kc40; omega)⟩ ⟨(by clear hx6 hN136 hN156 hN n19 n20 n21 n22 kc40; omega), (by clear hx6 hN136 hN156 hN n19 n20 n21 n22 kc40; omega)⟩
        refine D_ck (okI_of (by clear hx5 hp1 hdv hx6 hx7 hN136 hN156 hN n19 n20 n21 n22 n23 kc24 kc40 n43; omega) (by clear hx5 hp1 hdv hx6 hx7 hN136 hN156 hN n19 n20 n21 n22 n23 kc24 kc40 n43; omega)) ?_
        refine D_ck (okI_of (by clear hx6 hN136 hN156 hN n19 n20 n21 n22 kc40 n44; omega) (by clear hx6 hN136 hN156 hN n19 n20 n21 n22 kc40 n44; omega)) ?_
        have n46 := i_rng (S 77 (((S 0 12) * x7) + (x5 - x5 / (S 0 12) * (S 0 12))).toNatClampNeg)
        have n47 := i_rng (S 77 x5.toNatClampNeg)
        refine D_ite (fun c45 => ?_) (fun c45 => ?_)
        · have kc45 := tq_lt (x := (S 77 (((S 0 12) * x7) + (x5 - x5 / (S 0 12) * (S 0 12))).toNatClampNeg)) (y := (S 77 x5.toNatClampNeg)) rfl rfl c45
          have n49 : (x7 + 1).toInt = x7.toInt + 1 := i_addK rfl (by decide) (by clear hx6 hN136 hN156 hN n19 n20 n21 n22 kc40 n44 n46 n47 kc45; omega) (by clear hx6 hN136 hN156 hN n19 n20 n21 n22 kc40 n44 n46 n47 kc45; omega)
          refine D_lt (fun y48 ey48 => ?_)
          have hy48 : y48.toInt = (x7 + 1 : Int32).toInt := by rw [ey48]
          exact hk156 (0 : Int32) y48 ⟨(by clear hx5 hp1 hdv hx6 hx7 hN136 hN156 hN n19 n20 n21 n22 n23 kc24 kc40 n43 n44 n46 n47 kc45 n49 hy48; omega), (by clear hx5 hp1 hdv hx6 hx7 hN136 hN156 hN n19 n20 n21 n22 n23 kc24 kc40 n43 n44 n46 n47 kc45 n49 hy48; omega)⟩ ⟨(by clear hx6 hN136 hN156 hN n19 n20 n21 n22 kc40 n44 n46 n47 kc45; omega), (by clear hx6 hN136 hN156 hN n19 n20 n21 n22 kc40 n44 n46 n47 kc45; omega)⟩ (by clear hx6 hN136 n19 n20 n21 n22 kc40 n44 n46 n47 kc45; omega)
        · have kc45 := tq_ltn (x := (S 77 (((S 0 12) * x7) + (x5 - x5 / (S 0 12) * (S 0 12))).toNatClampNeg)) (y := (S 77 x5.toNatClampNeg)) rfl rfl c45
          have n50 := i_sq (a := (S 0 12)) (p := (x5 / (S 0 12))) (r := x7) ⟨(by clear hx6 hN136 hN156 hN n19 n20 n21 n22 kc40 n44 n46 n47 kc45; omega), (by clear hx6 hN136 hN156 hN n19 n20 n21 n22 kc40 n44 n46 n47 kc45; omega)⟩ ⟨(by clear hx6 hN136 hN156 hN n19 n20 n21 n22 kc40 n44 n46 n47 kc45; omega), (by clear hx6 hN136 hN156 hN n19 n20 n21 n22 kc40 n44 n46 n47 kc45; omega)⟩ ⟨(by clear hx6 hN136 hN156 hN n19 n20 n21 n22 kc40 n44 n46 n47 kc45; omega), (by clear hx6 hN136 hN156 hN n19 n20 n21 n22 kc40 n44 n46 n47 kc45; omega)⟩
          refine D_ck (okI_of (by clear hx5 hp1 hdv hx6 hx7 hN136 hN156 hN n19 n20 n21 n22 n23 kc24 kc40 n43 n44 n46 n47 kc45; omega) (by clear hx5 hp1 hdv hx6 hx7 hN136 hN156 hN n19 n20 n21 n22 n23 kc24 kc40 n43 n44 n46 n47 kc45; omega)) ?_
          have n52 := i_rng (S 78 (((x5 / (S 0 12)) * (S 0 12)) + x7).toNatClampNeg)
          have n53 := i_rng (S 78 x5.toNatClampNeg)
          refine D_ite (fun c51 => ?_) (fun c51 => ?_)
          · have kc51 := tq_lt (x := (S 78 (((x5 / (S 0 12)) * (S 0 12)) + x7).toNatClampNeg)) (y := (S 78 x5.toNatClampNeg)) rfl rfl c51
            have n55 : (x7 + 1).toInt = x7.toInt + 1 := i_addK rfl (by decide) (by clear hx6 hN136 hN156 hN n19 n20 n21 n22 kc40 n44 n46 n47 kc45 n50 n52 n53 kc51; omega) (by clear hx6 hN136 hN156 hN n19 n20 n21 n22 kc40 n44 n46 n47 kc45 n50 n52 n53 kc51; omega)
            refine D_lt (fun y54 ey54 => ?_)
            have hy54 : y54.toInt = (x7 + 1 : Int32).toInt := by rw [ey54]
            exact hk156 (0 : Int32) y54 ⟨(by clear hx5 hp1 hdv hx6 hx7 hN136 hN156 hN n19 n20 n21 n22 n23 kc24 kc40 n43 n44 n46 n47 kc45 n50 n52 n53 kc51 n55 hy54; omega), (by clear hx5 hp1 hdv hx6 hx7 hN136 hN156 hN n19 n20 n21 n22 n23 kc24 kc40 n43 n44 n46 n47 kc45 n50 n52 n53 kc51 n55 hy54; omega)⟩ ⟨(by clear hx6 hN136 hN156 hN n19 n20 n21 n22 kc40 n44 n46 n47 kc45 n50 n52 n53 kc51; omega), (by clear hx6 hN136 hN156 hN n19 n20 n21 n22 kc40 n44 n46 n47 kc45 n50 n52 n53 kc51; omega)⟩ (by clear hx6 hN136 n19 n20 n21 n22 kc40 n44 n46 n47 kc45 n50 n52 n53 kc51; omega)
          · have kc51 := tq_ltn (x := (S 78 (((x5 / (S 0 12)) * (S 0 12)) + x7).toNatClampNeg)) (y := (S 78 x5.toNatClampNeg)) rfl rfl c51
            have n57 : (x7 + 1).toInt = x7.toInt + 1 := i_addK rfl (by decide) (by clear hx6 hN136 hN156 hN n19 n20 n21 n22 kc40 n44 n46 n47 kc45 n50 n52 n53 kc51; omega) (by clear hx6 hN136 hN156 hN n19 n20 n21 n22 kc40 n44 n46 n47 kc45 n50 n52 n53 kc51; omega)
            refine D_lt (fun y56 ey56 => ?_)
            have hy56 : y56.toInt = (x7 + 1 : Int32).toInt := by rw [ey56]
            have l1 : (1 : Int32).toInt = 1 := by decide
            exact hk156 (1 : Int32) y56 ⟨(by clear hx5 hp1 hdv hx6 hx7 hN136 hN156 hN n19 n20 n21 n22 n23 kc24 kc40 n43 n44 n46 n47 kc45 n50 n52 n53 kc51 n57 hy56; omega), (by clear hx5 hp1 hdv hx6 hx7 hN136 hN156 hN n19 n20 n21 n22 n23 kc24 kc40 n43 n44 n46 n47 kc45 n50 n52 n53 kc51 n57 hy56; omega)⟩ ⟨(by clear hx6 hN136 hN156 hN n19 n20 n21 n22 kc40 n44 n46 n47 kc45 n50 n52 n53 kc51; omega), (by clear hx6 hN136 hN156 hN n19 n20 n21 n22 kc40 n44 n46 n47 kc45 n50 n52 n53 kc51; omega)⟩ (by clear hx6 hN136 n19 n20 n21 n22 kc40 n44 n46 n47 kc45 n50 n52 n53 kc51; omega)
set_option maxHeartbeats 1000000 in
set_option maxRecDepth 100000 in
theorem tl_X8_restAt_L136 (zaG : Tr) (S : Tr) (L : Lo) (x3 : Int32) (hS : iR BM S) (daG : aG 1 zaG S) (dpI : pI S) (dg0 : gI 0 S) (hp1 : 1 ≤ (S 0 12).toInt)   (N : Nat) : ∀ (x4 : Int32) (x5 : Int32), 0 ≤ x5.toInt ∧ x5.toInt ≤ 1000 → 1000 - x5.toInt < (N : Int) → D (lpF (fun _ _ => none) (fB_X8_restAt_L136 S L x3) N x4 x5) (fun (q : Int32 × Tr × Lo) => (iR BM (q.2.1)) ∧ (aG 1 zaG (q.2.1)) ∧ (pI (q.2.1)) ∧ (gI 0 (q.2.1))) := by
  induction N with
  | zero =>
    intro x4 x5 hx5 hN
    exfalso
    omega
  | succ N136 ih =>
    intro x4 x5 hx5 hN
    have hk136 : ∀ (x4 : Int32) (x5 : Int32), 0 ≤ x5.toInt ∧ x5.toInt ≤ 1000 → 1000 - x5.toInt < (N136 : Int) → D (lpF (fun _ _ => none) (fB_X8_restAt_L136 S L x3) N136 x4 x5) (fun (q : Int32 × Tr × Lo) => (iR BM (q.2.1)) ∧ (aG 1 zaG (q.2.1)) ∧ (pI (q.2.1)) ∧ (gI 0 (q.2.1))) := ih
    show D (fB_X8_restAt_L136 S L x3 (lpF (fun _ _ => none) (fB_X8_restAt_L136 S L x3) N136) x4 x5) _
    generalize lpF (fun _ _ => none) (fB_X8_restAt_L136 S L x3) N136 = k136 at hk136 ⊢
    have hN136 : 1000 - x5.toInt < (N136 : Int) + 1 := by omega
    clear ih
    unfold fB_X8_restAt_L136
    have n8 : 0 ≤ (S 62 0).toInt ∧ (S 62 0).toInt ≤ 21 := hS 62 0
    have n9 : 0 ≤ (S 62 1).toInt ∧ (S 62 1).toInt ≤ 21 := hS 62 1
    have n10 : 0 ≤ (S 0 14).toInt ∧ (S 0 14).toInt ≤ 10 := hS 0 14
    have n11 : 0 ≤ (S 0 13).toInt ∧ (S 0 13).toInt ≤ 6 := hS 0 13
    have n12 : 0 ≤ (S 0 12).toInt ∧ (S 0 12).toInt ≤ 5 := hS 0 12
    have n14 := i_mul5 (a := (S 0 12)) (b := (S 0 12)) (by clear hx5 hN136 hN n8 n9 n10 n11; omega) (by clear hx5 hN136 hN n8 n9 n10 n11; omega) (by clear hx5 hN136 hN n8 n9 n10 n11; omega) (by clear hx5 hN136 hN n8 n9 n10 n11; omega)
    refine D_ite (fun c13 => ?_) (fun c13 => ?_)
    · have kc13 := tq_le (x := ((S 0 12) * (S 0 12))) (y := x5) rfl rfl c13
      unfold fJ_X8_restAt_J285
      have n16 := i_rng x3
      refine D_ite (fun c15 => ?_) (fun c15 => ?_)
      · have kc15 := tq_le (x := (0 : Int32)) (y := x3) (a := 0) (by decide) rfl c15
        have lm2 : ((-2) : Int32).toInt = (-2) := by decide
        exact D_some (show (iR BM S) ∧ (aG 1 zaG S) ∧ (pI S) ∧ (gI 0 S) from ⟨hS, daG, dpI, dg0⟩)
      · have kc15 := tq_len (x := (0 : Int32)) (y := x3) (a := 0) (by decide) rfl c15
        have n17 := i_rng x4
        exact D_some (show (iR BM S) ∧ (aG 1 zaG S) ∧ (pI S) ∧ (gI 0 S) from ⟨hS, daG, dpI, dg0⟩)
    · have kc13 := tq_len (x := ((S 0 12) * (S 0 12))) (y := x5) rfl rfl c13
      have n18 := i_divsq (g := x5) (a := (S 0 12)) ⟨(by clear hN136 hN n8 n9 n10 n11; omega), (by clear hN136 hN n8 n9 n10 n11; omega)⟩ (by clear hN136 hN n8 n9 n10 n11; omega) (by clear hN136 hN n8 n9 n10 n11; omega)
      have l1 : (1 : Int32).toInt = 1 := by decide
      have l0 : (0 : Int32).toInt = 0 := by decide
      have n58 := i_rng x3
      have n59 := i_rng x4
      exact tl_X8_restAt_L156 zaG S L x3 x4 x5 N136 hS daG dpI dg0 ⟨(by clear hN136 hN n8 n9 n10 n11 n58 n59; omega), (by clear hN136 hN n8 n9 n10 n11 n58 n59; omega)⟩ (by clear hN136 hN n8 n9 n10 n11 n58 n59; omega) (by clear hN136 hN n8 n9 n10 n11 n58 n59; omega) hN136 k136 hk136 2000 (1 : Int32) (0 : Int32) ⟨(by clear hp1 hx5 hN136 hN n8 n9 n10 n11 n12 n14 kc13 n18 n58 n59; omega), (by clear hp1 hx5 hN136 hN n8 n9 n10 n11 n12 n14 kc13 n18 n58 n59; omega)⟩ ⟨(by clear hp1 hx5 hN136 hN n8 n9 n10 n11 n12 n14 kc13 n18 n58 n59; omega), (by clear hp1 hx5 hN136 hN n8 n9 n10 n11 n12 n14 kc13 n18 n58 n59; omega)⟩ (by clear hp1 hx5 hN136 hN n8 n9 n10 n11 n12 n14 kc13 n18 n58 n59; omega)
set_option maxHeartbeats 1000000 in
set_option maxRecDepth 100000 in
theorem tl_X8_restAt_L3 (zaG : Tr) (x1 : Int32) (x2 : Int32) (x3 : Int32) (hx1 : 0 ≤ x1.toInt ∧ x1.toInt ≤ 9) (hx2 : 0 ≤ x2.toInt ∧ x2.toInt ≤ 9)   (N : Nat) : ∀ (x4 : Int32) (S : Tr) (L : Lo), aG 1 zaG S → pI S → gI 0 S → iR BM S → 0 ≤ x4.toInt ∧ x4.toInt ≤ 1000 → (S 62 0).toInt ≤ 20 → 1 ≤ (S 0 12).toInt → 1000 - x4.toInt < (N : Int) → D (lpF (fun _ _ _ => none) (fB_X8_restAt_L3 x1 x2 x3) N x4 S L) (fun (q : Int32 × Tr × Lo) => (iR BM (q.2.1)) ∧ (aG 1 zaG (q.2.1)) ∧ (pI (q.2.1)) ∧ (gI 0 (q.2.1))) := by
  induction N with
  | zero =>
    intro x4 S L daG dpI dg0 hS hx4 h620 hp1 hN
    exfalso
    omega
  | succ N3 ih =>
    intro x4 S L daG dpI dg0 hS hx4 h620 hp1 hN
    have hk3 : ∀ (x4 : Int32) (S : Tr) (L : Lo), aG 1 zaG S → pI S → gI 0 S → iR BM S → 0 ≤ x4.toInt ∧ x4.toInt ≤ 1000 → (S 62 0).toInt ≤ 20 → 1 ≤ (S 0 12).toInt → 1000 - x4.toInt < (N3 : Int) → D (lpF (fun _ _ _ => none) (fB_X8_restAt_L3 x1 x2 x3) N3 x4 S L) (fun (q : Int32 × Tr × Lo) => (iR BM (q.2.1)) ∧ (aG 1 zaG (q.2.1)) ∧ (pI (q.2.1)) ∧ (gI 0 (q.2.1))) := ih
    show D (fB_X8_restAt_L3 x1 x2 x3 (lpF (fun _ _ _ => none) (fB_X8_restAt_L3 x1 x2 x3) N3) x4 S L) _
    generalize lpF (fun _ _ _ => none) (fB_X8_restAt_L3 x1 x2 x3) N3 = k3 at hk3 ⊢
    have hN3 : 1000 - x4.toInt < (N3 : Int) + 1 := by omega
    clear ih
    unfold fB_X8_restAt_L3
    have n1 : 0 ≤ (S 62 0).toInt ∧ (S 62 0).toInt ≤ 21 := hS 62 0
    have n2 : 0 ≤ (S 62 1).toInt ∧ (S 62 1).toInt ≤ 21 := hS 62 1
    have n3 : 0 ≤ (S 0 14).toInt ∧ (S 0 14).toInt ≤ 10 := hS 0 14
    have n4 : 0 ≤ (S 0 13).toInt ∧ (S 0 13).toInt ≤ 6 := hS 0 13
    have n5 : 0 ≤ (S 0 12).toInt ∧ (S 0 12).toInt ≤ 5 := hS 0 12
    have n7 := i_mul5 (a := (S 0 12)) (b := (S 0 12)) (by clear hx1 hx2 hx4 h620 hN3 hN n1 n2 n3 n4; omega) (by clear hx1 hx2 hx4 h620 hN3 hN n1 n2 n3 n4; omega) (by clear hx1 hx2 hx4 h620 hN3 hN n1 n2 n3 n4; omega) (by clear hx1 hx2 hx4 h620 hN3 hN n1 n2 n3 n4; omega)
    refine D_ite (fun c6 => ?_) (fun c6 => ?_)
    · have kc6 := tq_le (x := ((S 0 12) * (S 0 12))) (y := x4) rfl rfl c6
      have l0 : (0 : Int32).toInt = 0 := by decide
      have n60 := i_rng x3
      exact tl_X8_restAt_L136 zaG S L x3 hS daG dpI dg0 (by clear hx1 hx2 h620 hN3 hN n1 n2 n3 n4 n60; omega)   2000 (0 : Int32) (0 : Int32) ⟨(by clear hx1 hx2 hx4 h620 hp1 hN3 hN n1 n2 n3 n4 n5 n7 kc6 n60; omega), (by clear hx1 hx2 hx4 h620 hp1 hN3 hN n1 n2 n3 n4 n5 n7 kc6 n60; omega)⟩ (by clear hx1 hx2 hx4 h620 hp1 hN3 hN n1 n2 n3 n4 n5 n7 kc6 n60; omega)
    · have kc6 := tq_len (x := ((S 0 12) * (S 0 12))) (y := x4) rfl rfl c6
      have n61 := i_divsq (g := x4) (a := (S 0 12)) ⟨(by clear hx1 hx2 h620 hN3 hN n1 n2 n3 n4; omega), (by clear hx1 hx2 h620 hN3 hN n1 n2 n3 n4; omega)⟩ (by clear hx1 hx2 h620 hN3 hN n1 n2 n3 n4; omega) (by clear hx1 hx2 h620 hN3 hN n1 n2 n3 n4; omega)
      refine D_bd (t_X8_layTried S hS dg0 dpI) (fun S_62 eq64 hq63 => ?_)
      obtain ⟨p65, p66, p67, p68, p69, p70⟩ : (iR BM S_62) ∧ (aG 1 S S_62) ∧ (gI 1 S_62) ∧ (pI S_62) ∧ (S_62 62 1 = S 62 0) ∧ (S_62 61 1 = S 61 0) := hq63
      have k71 : aG 1 zaG S_62 := aG_tr daG p66
      have n72 : (S_62 0 12).toInt = (S 0 12).toInt := congrArg Int32.toInt (p66 0 _ rfl)
      have n73 : (S_62 0 13).toInt = (S 0 13).toInt := congrArg Int32.toInt (p66 0 _ rfl)
      have n74 : (S_62 0 14).toInt = (S 0 14).toInt := congrArg Int32.toInt (p66 0 _ rfl)
      have n75 : (S_62 62 0).toInt = (S 62 0).toInt := congrArg Int32.toInt (p66 62 _ rfl)
      have kpI_t76 : pI S_62 := (pI_aG dpI p66)
      have kg0_t77 : gI 0 S_62 := (gI0_G1 hS dg0 p66)
      have kgI_t78 : gI 1 S_62 := p67
      have n79 : 0 ≤ (S_62 62 1).toInt ∧ (S_62 62 1).toInt ≤ 21 := p65 62 1
      have kz80 : (S_62 62 1).toInt = (S 62 0).toInt := congrArg Int32.toInt p69
      have n81 : S_62 0 12 = S 0 12 := p66 0 12 rfl
      have n82 : 0 ≤ (x4 / (S_62 0 12)).toInt ∧ (x4 / (S_62 0 12)).toInt ≤ 4 := by rw [n81]; exact ⟨(by clear hx1 hx2 h620 hN3 hN n1 n2 n3 n4 n73 n74 n75 n79 kz80; omega), (by clear hx1 hx2 h620 hN3 hN n1 n2 n3 n4 n73 n74 n75 n79 kz80; omega)⟩
      have l0 : (0 : Int32).toInt = 0 := by decide
      refine D_ck (ok_ne (by clear hx1 hx2 h620 hN3 hN n1 n2 n3 n4 n73 n74 n75 n79 kz80 n82; omega)) ?_
      refine D_ck (okI_of (by clear hx2 hx4 h620 hp1 hN3 hN n1 n2 n3 n4 n5 n7 kc6 n61 n72 n73 n74 n75 n79 kz80 n82; omega) (by clear hx2 hx4 h620 hp1 hN3 hN n1 n2 n3 n4 n5 n7 kc6 n61 n72 n73 n74 n75 n79 kz80 n82; omega)) ?_
      refine D_lt (fun S_83 eS_83 => ?_)
      have hS_83 : iR BM S_83 := by rw [eS_83]; exact iR_set p65 (show ((-1) : Int) ≤ _ from (by clear hx1 hx2 hx4 h620 hp1 hN3 hN n1 n2 n3 n4 n5 n7 kc6 n61 n72 n73 n74 n75 n79 kz80; omega)) (show _ ≤ (4 : Int) from (by clear hx1 hx2 hx4 h620 hp1 hN3 hN n1 n2 n3 n4 n5 n7 kc6 n61 n72 n73 n74 n75 n79 kz80; omega))
      have kaG_t84 : aG 1 zaG S_83 := (by rw [eS_83]; exact aG_set k71 (Wb_t rfl))
      have kpI_t85 : pI S_83 := by rw [eS_83]; exact kpI_t76
      have kg0_t86 : gI 0 S_83 := by rw [eS_83]; exact kg0_t77
      have kgI_t87 : gI 1 S_83 := by rw [eS_83]; exact kgI_t78
      have n88 : (S_83 0 12).toInt = (S_62 0 12).toInt := by rw [eS_83]; rfl
      have n89 : (S_83 0 14).toInt = (S_62 0 14).toInt := by rw [eS_83]; rfl
      have n90 : (S_83 0 13).toInt = (S_62 0 13).toInt := by rw [eS_83]; rfl
      have n91 : (S_83 62 0).toInt = (S_62 62 0).toInt := by rw [eS_83]; rfl
      have n92 : (S_83 62 1).toInt = (S_62 62 1).toInt := by rw [eS_83]; rfl
      refine D_ck (ok_ne (by clear hx1 hx2 h620 hN3 hN n1 n2 n3 n4 n73 n74 n75 n79 kz80 n82 n89 n90 n91 n92; omega)) ?_
      refine D_ck (okI_of (by clear hx1 hx4 h620 hp1 hN3 hN n1 n2 n3 n4 n5 n7 kc6 n61 n72 n73 n74 n75 n79 kz80 n82 n88 n89 n90 n91 n92; omega) (by clear hx1 hx4 h620 hp1 hN3 hN n1 n2 n3 n4 n5 n7 kc6 n61 n72 n73 n74 n75 n79 kz80 n82 n88 n89 n90 n91 n92; omega)) ?_
      have n94 := i_remv (a := x4) (b := (S_83 0 12)) (by clear hx1 hx2 h620 hN3 hN n1 n2 n3 n4 n73 n74 n75 n79 kz80 n82 n89 n90 n91 n92; omega) (by clear hx1 hx2 h620 hN3 hN n1 n2 n3 n4 n73 n74 n75 n79 kz80 n82 n89 n90 n91 n92; omega)
      refine D_lt (fun S_93 eS_93 => ?_)
      have hS_93 : iR BM S_93 := by rw [eS_93]; exact iR_set hS_83 (show ((-1) : Int) ≤ _ from (by clear hx1 hx2 h620 hN3 hN n1 n2 n3 n4 n73 n74 n75 n79 kz80 n82 n89 n90 n91 n92; omega)) (show _ ≤ (4 : Int) from (by clear hx1 hx2 h620 hN3 hN n1 n2 n3 n4 n73 n74 n75 n79 kz80 n82 n89 n90 n91 n92; omega))
      have kaG_t95 : aG 1 zaG S_93 := (by rw [eS_93]; exact aG_set kaG_t84 (Wb_t rfl))
      have kpI_t96 : pI S_93 := by rw [eS_93]; exact kpI_t85
      have kg0_t97 : gI 0 S_93 := by rw [eS_93]; exact kg0_t86
      have kgI_t98 : gI 1 S_93 := by rw [eS_93]; exact kgI_t87
      have n99 : (S_93 0 13).toInt = (S_83 0 13).toInt := by rw [eS_93]; rfl
      have n100 : (S_93 0 14).toInt = (S_83 0 14).toInt := by rw [eS_93]; rfl
      have n101 : (S_93 62 0).toInt = (S_83 62 0).toInt := by rw [eS_93]; rfl
      have n102 : (S_93 0 12).toInt = (S_83 0 12).toInt := by rw [eS_93]; rfl
      have n103 : (S_93 62 1).toInt = (S_83 62 1).toInt := by rw [eS_93]; rfl
      have l1 : (1 : Int32).toInt = 1 := by decide
      refine D_bd2 (t_X8_goOn S_93 L (1 : Int32) hS_93 kpI_t96 kgI_t98 ⟨(by clear hx1 hx2 hx4 h620 hp1 hN3 hN n1 n2 n3 n4 n5 n7 kc6 n61 n72 n73 n74 n75 n79 kz80 n82 n88 n89 n90 n91 n92 n94 n99 n100 n101 n102 n103; omega), (by clear hx1 hx2 hx4 h620 hp1 hN3 hN n1 n2 n3 n4 n5 n7 kc6 n61 n72 n73 n74 n75 n79 kz80 n82 n88 n89 n90 n91 n92 n94 n99 n100 n101 n102 n103; omega)⟩ (show (S_93 62 1).toInt ≤ 20 from (by first | assumption | exact (by clear hx1 hx2 hx4 hp1 hN3 hN n2 n3 n4 n5 n7 kc6 n61 n72 n73 n74 n82 n88 n89 n90 n94 n99 n100 n102; omega)))) (fun S_104 L_105 eq107 hq106 => ?_)
      refine D_lte (y := S_104) rfl ?_
      refine D_lte (y := L_105) rfl ?_
      obtain ⟨p108, p109, p110, p111, p112⟩ : (iR BM S_104) ∧ (aG 1 S_93 S_104) ∧ (pI S_104) ∧ (gI 1 S_104) ∧ ((S_104 62 1).toInt = (S_93 62 1).toInt + 1) := hq106
      have k113 : aG 1 zaG S_104 := aG_tr kaG_t95 p109
      have n114 : (S_104 0 12).toInt = (S_93 0 12).toInt := congrArg Int32.toInt (p109 0 _ rfl)
      have n115 : (S_104 0 13).toInt = (S_93 0 13).toInt := congrArg Int32.toInt (p109 0 _ rfl)
      have n116 : (S_104 0 14).toInt = (S_93 0 14).toInt := congrArg Int32.toInt (p109 0 _ rfl)
      have n117 : (S_104 62 0).toInt = (S_93 62 0).toInt := congrArg Int32.toInt (p109 62 _ rfl)
      have kg0_t118 : gI 0 S_104 := (gI0_G1 hS_93 kg0_t97 p109)
      have n119 : ((10 : Int32) + x1).toInt = 10 + x1.toInt := i_addK (by decide) rfl (by clear hx2 hx4 h620 hp1 hN3 hN n1 n2 n3 n4 n5 n7 kc6 n61 n72 n73 n74 n75 n79 kz80 n82 n88 n89 n90 n91 n92 n94 n99 n100 n101 n102 n103 p112 n114 n115 n116 n117; omega) (by clear hx2 hx4 h620 hp1 hN3 hN n1 n2 n3 n4 n5 n7 kc6 n61 n72 n73 n74 n75 n79 kz80 n82 n88 n89 n90 n91 n92 n94 n99 n100 n101 n102 n103 p112 n114 n115 n116 n117; omega)
      refine D_ck (okI_of (by clear hx2 hx4 h620 hp1 hN3 hN n1 n2 n3 n4 n5 n7 kc6 n61 n72 n73 n74 n75 n79 kz80 n82 n88 n89 n90 n91 n92 n94 n99 n100 n101 n102 n103 p112 n114 n115 n116 n117; omega) (by clear hx2 hx4 h620 hp1 hN3 hN n1 n2 n3 n4 n5 n7 kc6 n61 n72 n73 n74 n75 n79 kz80 n82 n88 n89 n90 n91 n92 n94 n99 n100 n101 n102 n103 p112 n114 n115 n116 n117; omega)) ?_
      have n121 : 0 ≤ (S_104 53 ((10 : Int32) + x1).toNatClampNeg).toInt ∧ (S_104 53 ((10 : Int32) + x1).toNatClampNeg).toInt ≤ 5 := p108 53 (((10 : Int32) + x1).toNatClampNeg)
      refine D_ite (fun c120 => ?_) (fun c120 => ?_)
      · have kc120 := tq_eq (x := (S_104 53 ((10 : Int32) + x1).toNatClampNeg)) (y := (5 : Int32)) rfl (b := 5) (by decide) c120
        unfold fJ_X8_restAt_J70
        have n122 : ((10 : Int32) + x2).toInt = 10 + x2.toInt := i_addK (by decide) rfl (by clear hx1 hx4 h620 hp1 hN3 hN n1 n2 n3 n4 n5 n7 kc6 n61 n72 n73 n74 n75 n79 kz80 n82 n88 n89 n90 n91 n92 n94 n99 n100 n101 n102 n103 p112 n114 n115 n116 n117 n119 n121 kc120; omega) (by clear hx1 hx4 h620 hp1 hN3 hN n1 n2 n3 n4 n5 n7 kc6 n61 n72 n73 n74 n75 n79 kz80 n82 n88 n89 n90 n91 n92 n94 n99 n100 n101 n102 n103 p112 n114 n115 n116 n117 n119 n121 kc120; omega)
        refine D_ck (okI_of (by clear hx1 hx4 h620 hp1 hN3 hN n1 n2 n3 n4 n5 n7 kc6 n61 n72 n73 n74 n75 n79 kz80 n82 n88 n89 n90 n91 n92 n94 n99 n100 n101 n102 n103 p112 n114 n115 n116 n117 n119 n121 kc120; omega) (by clear hx1 hx4 h620 hp1 hN3 hN n1 n2 n3 n4 n5 n7 kc6 n61 n72 n73 n74 n75 n79 kz80 n82 n88 n89 n90 n91 n92 n94 n99 n100 n101 n102 n103 p112 n114 n115 n116 n117 n119 n121 kc120; omega)) ?_
        have n124 : 0 ≤ (S_104 53 ((10 : Int32) + x2).toNatClampNeg).toInt ∧ (S_104 53 ((10 : Int32) + x2).toNatClampNeg).toInt ≤ 5 := p108 53 (((10 : Int32) + x2).toNatClampNeg)
        refine D_ite (fun c123 => ?_) (fun c123 => ?_)
        · have kc123 := tq_eq (x := (S_104 53 ((10 : Int32) + x2).toNatClampNeg)) (y := (5 : Int32)) rfl (b := 5) (by decide) c123
          unfold fJ_X8_restAt_J90
          refine D_bd2 (t_X8_toEnd S_104 L_105 p108 p110 p111) (fun S_125 L_126 eq128 hq127 => ?_)
          refine D_lte (y := S_125) rfl ?_
          refine D_lte (y := L_126) rfl ?_
          obtain ⟨p129, p130, p131, p132⟩ : (iR BM S_125) ∧ (aG 1 S_104 S_125) ∧ (pI S_125) ∧ (gI 1 S_125) := hq127
          have k133 : aG 1 zaG S_125 := aG_tr k113 p130
          have n134 : (S_125 0 12).toInt = (S_104 0 12).toInt := congrArg Int32.toInt (p130 0 _ rfl)
          have n135 : (S_125 0 13).toInt = (S_104 0 13).toInt := congrArg Int32.toInt (p130 0 _ rfl)
          have n136 : (S_125 0 14).toInt = (S_104 0 14).toInt := congrArg Int32.toInt (p130 0 _ rfl)
          have n137 : (S_125 62 0).toInt = (S_104 62 0).toInt := congrArg Int32.toInt (p130 62 _ rfl)
          have kg0_t138 : gI 0 S_125 := (gI0_G1 p108 kg0_t118 p130)
          refine D_bd (t_X8_costOf S_125 x1 (1 : Int32) p129 ⟨(by clear hx2 hx4 h620 hp1 hN3 hN n1 n2 n3 n4 n5 n7 kc6 n61 n72 n73 n74 n75 n79 kz80 n82 n88 n89 n90 n91 n92 n94 n99 n100 n101 n102 n103 p112 n114 n115 n116 n117 n121 kc120 n122 n124 kc123 n134 n135 n136 n137; omega), (by clear hx2 hx4 h620 hp1 hN3 hN n1 n2 n3 n4 n5 n7 kc6 n61 n72 n73 n74 n75 n79 kz80 n82 n88 n89 n90 n91 n92 n94 n99 n100 n101 n102 n103 p112 n114 n115 n116 n117 n121 kc120 n122 n124 kc123 n134 n135 n136 n137; omega)⟩) (fun r139 eq141 hq140 => ?_)
          have n142 := i_rng r139
          refine D_ck (okI_of (by clear hx1 hx2 h620 hN3 hN n1 n2 n3 n4 n73 n74 n75 n79 kz80 n82 n89 n90 n91 n92 n99 n100 n101 n103 p112 n115 n116 n117 n119 n121 kc120 n122 n124 kc123 n135 n136 n137 n142; omega) (by clear hx1 hx2 h620 hN3 hN n1 n2 n3 n4 n73 n74 n75 n79 kz80 n82 n89 n90 n91 n92 n99 n100 n101 n103 p112 n115 n116 n117 n119 n121 kc120 n122 n124 kc123 n135 n136 n137 n142; omega)) ?_
          refine D_lt (fun S_143 eS_143 => ?_)
          have hS_143 : iR BM S_143 := by rw [eS_143]; exact iR_setU p129 rfl
          have kaG_t144 : aG 1 zaG S_143 := (by rw [eS_143]; exact aG_set k133 (Wb_t rfl))
          have kpI_t145 : pI S_143 := by rw [eS_143]; exact p131
          have kg0_t146 : gI 0 S_143 := by rw [eS_143]; exact kg0_t138
          have kgI_t147 : gI 1 S_143 := by rw [eS_143]; exact p132
          have n148 : (S_143 62 0).toInt = (S_125 62 0).toInt := by rw [eS_143]; rfl
          have n149 : (S_143 0 13).toInt = (S_125 0 13).toInt := by rw [eS_143]; rfl
          have n150 : (S_143 0 12).toInt = (S_125 0 12).toInt := by rw [eS_143]; rfl
          have n151 : (S_143 0 14).toInt = (S_125 0 14).toInt := by rw [eS_143]; rfl
          refine D_bd (t_X8_costOf S_143 x2 (1 : Int32) hS_143 ⟨(by clear hx1 hx4 h620 hp1 hN3 hN n1 n2 n3 n4 n5 n7 kc6 n61 n72 n73 n74 n75 n79 kz80 n82 n88 n89 n90 n91 n92 n94 n99 n100 n101 n102 n103 p112 n114 n115 n116 n117 n119 n121 kc120 n124 kc123 n134 n135 n136 n137 n142 n148 n149 n150 n151; omega), (by clear hx1 hx4 h620 hp1 hN3 hN n1 n2 n3 n4 n5 n7 kc6 n61 n72 n73 n74 n75 n79 kz80 n82 n88 n89 n90 n91 n92 n94 n99 n100 n101 n102 n103 p112 n114 n115 n116 n117 n119 n121 kc120 n124 kc123 n134 n135 n136 n137 n142 n148 n149 n150 n151; omega)⟩) (fun r152 eq154 hq153 => ?_)
          have n155 := i_rng r152
          refine D_lt (fun S_156 eS_156 => ?_)
          have hS_156 : iR BM S_156 := by rw [eS_156]; exact iR_setU hS_143 rfl
          have kaG_t157 : aG 1 zaG S_156 := (by rw [eS_156]; exact aG_set kaG_t144 (Wb_t rfl))
          have kpI_t158 : pI S_156 := by rw [eS_156]; exact kpI_t145
          have kg0_t159 : gI 0 S_156 := by rw [eS_156]; exact kg0_t146
          have kgI_t160 : gI 1 S_156 := by rw [eS_156]; exact kgI_t147
          have n161 : (S_156 0 12).toInt = (S_143 0 12).toInt := by rw [eS_156]; rfl
          have n162 : (S_156 62 0).toInt = (S_143 62 0).toInt := by rw [eS_156]; rfl
          have n163 : (S_156 0 13).toInt = (S_143 0 13).toInt := by rw [eS_156]; rfl
          have n164 : (S_156 0 14).toInt = (S_143 0 14).toInt := by rw [eS_156]; rfl
          have n166 : (x4 + 1).toInt = x4.toInt + 1 := i_addK rfl (by decide) (by clear hx1 hx2 h620 hN3 hN n1 n2 n3 n4 n73 n74 n75 n79 kz80 n82 n89 n90 n91 n92 n99 n100 n101 n103 p112 n115 n116 n117 n119 n121 kc120 n122 n124 kc123 n135 n136 n137 n142 n148 n149 n151 n155 n162 n163 n164; omega) (by clear hx1 hx2 h620 hN3 hN n1 n2 n3 n4 n73 n74 n75 n79 kz80 n82 n89 n90 n91 n92 n99 n100 n101 n103 p112 n115 n116 n117 n119 n121 kc120 n122 n124 kc123 n135 n136 n137 n142 n148 n149 n151 n155 n162 n163 n164; omega)
          refine D_lt (fun y165 ey165 => ?_)
          have hy165 : y165.toInt = (x4 + 1 : Int32).toInt := by rw [ey165]
          exact hk3 y165 S_156 L_126 kaG_t157 kpI_t158 kg0_t159 hS_156 ⟨(by clear hx1 hx2 h620 hN3 hN n1 n2 n3 n4 n73 n74 n75 n79 kz80 n82 n89 n90 n91 n92 n99 n100 n101 n103 p112 n115 n116 n117 n119 n121 kc120 n122 n124 kc123 n135 n136 n137 n142 n148 n149 n151 n155 n162 n163 n164; omega), (by clear hx1 hx2 h620 hN3 hN n1 n2 n3 n4 n73 n74 n75 n79 kz80 n82 n89 n90 n91 n92 n99 n100 n101 n103 p112 n115 n116 n117 n119 n121 kc120 n122 n124 kc123 n135 n136 n137 n142 n148 n149 n151 n155 n162 n163 n164; omega)⟩ (by clear hx1 hx2 hx4 hp1 hN3 hN n2 n3 n4 n5 n7 kc6 n61 n72 n73 n74 n82 n88 n89 n90 n94 n99 n100 n102 n114 n115 n116 n119 n121 kc120 n122 n124 kc123 n134 n135 n136 n142 n149 n150 n151 n155 n161 n163 n164 n166 hy165; omega) (by clear hx1 hx2 h620 hN3 hN n1 n2 n3 n4 n73 n74 n75 n79 kz80 n82 n89 n90 n91 n92 n99 n100 n101 n103 p112 n115 n116 n117 n119 n121 kc120 n122 n124 kc123 n135 n136 n137 n142 n148 n149 n151 n155 n162 n163 n164; omega) (by clear hx1 hx2 h620 n1 n2 n3 n4 n73 n74 n75 n79 kz80 n82 n89 n90 n91 n92 n99 n100 n101 n103 p112 n115 n116 n117 n119 n121 kc120 n122 n124 kc123 n135 n136 n137 n142 n148 n149 n151 n155 n162 n163 n164; omega)
        · have kc1230 := tq_eqn (x := (S_104 53 ((10 : Int32) + x2).toNatClampNeg)) (y := (5 : Int32)) rfl (b := 5) (by decide) c123
          have kc123 : (S_104 53 ((10 : Int32) + x2).toNatClampNeg).toInt ≤ 4 := (by clear hx1 hx2 hx4 h620 hp1 hN3 hN n1 n2 n3 n4 n5 n7 kc6 n61 n72 n73 n74 n75 n79 kz80 n82 n88 n89 n90 n91 n92 n94 n99 n100 n101 n102 n103 p112 n114 n115 n116 n117 n119 n121 kc120 n122; omega)
          clear kc1230
          unfold fJ_X8_restAt_J90
          refine D_bd2 (t_X8_toEnd S_104 L_105 p108 p110 p111) (fun S_167 L_168 eq170 hq169 => ?_)
          refine D_lte (y := S_167) rfl ?_
          refine D_lte (y := L_168) rfl ?_
          obtain ⟨p171, p172, p173, p174⟩ : (iR BM S_167) ∧ (aG 1 S_104 S_167) ∧ (pI S_167) ∧ (gI 1 S_167) := hq169
          have k175 : aG 1 zaG S_167 := aG_tr k113 p172
          have n176 : (S_167 0 12).toInt = (S_104 0 12).toInt := congrArg Int32.toInt (p172 0 _ rfl)
          have n177 : (S_167 0 13).toInt = (S_104 0 13).toInt := congrArg Int32.toInt (p172 0 _ rfl)
          have n178 : (S_167 0 14).toInt = (S_104 0 14).toInt := congrArg Int32.toInt (p172 0 _ rfl)
          have n179 : (S_167 62 0).toInt = (S_104 62 0).toInt := congrArg Int32.toInt (p172 62 _ rfl)
          have kg0_t180 : gI 0 S_167 := (gI0_G1 p108 kg0_t118 p172)
          refine D_bd (t_X8_costOf S_167 x1 (1 : Int32) p171 ⟨(by clear hx2 hx4 h620 hp1 hN3 hN n1 n2 n3 n4 n5 n7 kc6 n61 n72 n73 n74 n75 n79 kz80 n82 n88 n89 n90 n91 n92 n94 n99 n100 n101 n102 n103 p112 n114 n115 n116 n117 n121 kc120 n122 n124 kc123 n176 n177 n178 n179; omega), (by clear hx2 hx4 h620 hp1 hN3 hN n1 n2 n3 n4 n5 n7 kc6 n61 n72 n73 n74 n75 n79 kz80 n82 n88 n89 n90 n91 n92 n94 n99 n100 n101 n102 n103 p112 n114 n115 n116 n117 n121 kc120 n122 n124 kc123 n176 n177 n178 n179; omega)⟩) (fun r181 eq183 hq182 => ?_)
          have n184 := i_rng r181
          refine D_ck (okI_of (by clear hx1 hx2 h620 hN3 hN n1 n2 n3 n4 n73 n74 n75 n79 kz80 n82 n89 n90 n91 n92 n99 n100 n101 n103 p112 n115 n116 n117 n119 n121 kc120 n122 n124 kc123 n177 n178 n179 n184; omega) (by clear hx1 hx2 h620 hN3 hN n1 n2 n3 n4 n73 n74 n75 n79 kz80 n82 n89 n90 n91 n92 n99 n100 n101 n103 p112 n115 n116 n117 n119 n121 kc120 n122 n124 kc123 n177 n178 n179 n184; omega)) ?_
          refine D_lt (fun S_185 eS_185 => ?_)
          have hS_185 : iR BM S_185 := by rw [eS_185]; exact iR_setU p171 rfl
          have kaG_t186 : aG 1 zaG S_185 := (by rw [eS_185]; exact aG_set k175 (Wb_t rfl))
          have kpI_t187 : pI S_185 := by rw [eS_185]; exact p173
          have kg0_t188 : gI 0 S_185 := by rw [eS_185]; exact kg0_t180
          have kgI_t189 : gI 1 S_185 := by rw [eS_185]; exact p174
          have n190 : (S_185 0 12).toInt = (S_167 0 12).toInt := by rw [eS_185]; rfl
          have n191 : (S_185 0 13).toInt = (S_167 0 13).toInt := by rw [eS_185]; rfl
          have n192 : (S_185 62 0).toInt = (S_167 62 0).toInt := by rw [eS_185]; rfl
          have n193 : (S_185 0 14).toInt = (S_167 0 14).toInt := by rw [eS_185]; rfl
          refine D_bd (t_X8_costOf S_185 x2 (0 : Int32) hS_185 ⟨(by clear hx1 hx4 h620 hp1 hN3 hN n1 n2 n3 n4 n5 n7 kc6 n61 n72 n73 n74 n75 n79 kz80 n82 n88 n89 n90 n91 n92 n94 n99 n100 n101 n102 n103 p112 n114 n115 n116 n117 n119 n121 kc120 n124 kc123 n176 n177 n178 n179 n184 n190 n191 n192 n193; omega), (by clear hx1 hx4 h620 hp1 hN3 hN n1 n2 n3 n4 n5 n7 kc6 n61 n72 n73 n74 n75 n79 kz80 n82 n88 n89 n90 n91 n92 n94 n99 n100 n101 n102 n103 p112 n114 n115 n116 n117 n119 n121 kc120 n124 kc123 n176 n177 n178 n179 n184 n190 n191 n192 n193; omega)⟩) (fun r194 eq196 hq195 => ?_)
          have n197 := i_rng r194
          refine D_lt (fun S_198 eS_198 => ?_)
          have hS_198 : iR BM S_198 := by rw [eS_198]; exact iR_setU hS_185 rfl
          have kaG_t199 : aG 1 zaG S_198 := (by rw [eS_198]; exact aG_set kaG_t186 (Wb_t rfl))
          have kpI_t200 : pI S_198 := by rw [eS_198]; exact kpI_t187
          have kg0_t201 : gI 0 S_198 := by rw [eS_198]; exact kg0_t188
          have kgI_t202 : gI 1 S_198 := by rw [eS_198]; exact kgI_t189
          have n203 : (S_198 62 0).toInt = (S_185 62 0).toInt := by rw [eS_198]; rfl
          have n204 : (S_198 0 12).toInt = (S_185 0 12).toInt := by rw [eS_198]; rfl
          have n205 : (S_198 0 13).toInt = (S_185 0 13).toInt := by rw [eS_198]; rfl
          have n206 : (S_198 0 14).toInt = (S_185 0 14).toInt := by rw [eS_198]; rfl
          have n208 : (x4 + 1).toInt = x4.toInt + 1 := i_addK rfl (by decide) (by clear hx1 hx2 h620 hN3 hN n1 n2 n3 n4 n73 n74 n75 n79 kz80 n82 n89 n90 n91 n92 n99 n100 n101 n103 p112 n115 n116 n117 n119 n121 kc120 n122 n124 kc123 n177 n178 n179 n184 n191 n192 n193 n197 n203 n205 n206; omega) (by clear hx1 hx2 h620 hN3 hN n1 n2 n3 n4 n73 n74 n75 n79 kz80 n82 n89 n90 n91 n92 n99 n100 n101 n103 p112 n115 n116 n117 n119 n121 kc120 n122 n124 kc123 n177 n178 n179 n184 n191 n192 n193 n197 n203 n205 n206; omega)
          refine D_lt (fun y207 ey207 => ?_)
          have hy207 : y207.toInt = (x4 + 1 : Int32).toInt := by rw [ey207]
          exact hk3 y207 S_198 L_168 kaG_t199 kpI_t200 kg0_t201 hS_198 ⟨(by clear hx1 hx2 h620 hN3 hN n1 n2 n3 n4 n73 n74 n75 n79 kz80 n82 n89 n90 n91 n92 n99 n100 n101 n103 p112 n115 n116 n117 n119 n121 kc120 n122 n124 kc123 n177 n178 n179 n184 n191 n192 n193 n197 n203 n205 n206; omega), (by clear hx1 hx2 h620 hN3 hN n1 n2 n3 n4 n73 n74 n75 n79 kz80 n82 n89 n90 n91 n92 n99 n100 n101 n103 p112 n115 n116 n117 n119 n121 kc120 n122 n124 kc123 n177 n178 n179 n184 n191 n192 n193 n197 n203 n205 n206; omega)⟩ (by clear hx1 hx2 hx4 hp1 hN3 hN n2 n3 n4 n5 n7 kc6 n61 n72 n73 n74 n82 n88 n89 n90 n94 n99 n100 n102 n114 n115 n116 n119 n121 kc120 n122 n124 kc123 n176 n177 n178 n184 n190 n191 n193 n197 n204 n205 n206 n208 hy207; omega) (by clear hx1 hx2 h620 hN3 hN n1 n2 n3 n4 n73 n74 n75 n79 kz80 n82 n89 n90 n91 n92 n99 n100 n101 n103 p112 n115 n116 n117 n119 n121 kc120 n122 n124 kc123 n177 n178 n179 n184 n191 n192 n193 n197 n203 n205 n206; omega) (by clear hx1 hx2 h620 n1 n2 n3 n4 n73 n74 n75 n79 kz80 n82 n89 n90 n91 n92 n99 n100 n101 n103 p112 n115 n116 n117 n119 n121 kc120 n122 n124 kc123 n177 n178 n179 n184 n191 n192 n193 n197 n203 n205 n206; omega)
      · have kc1200 := tq_eqn (x := (S_104 53 ((10 : Int32) + x1).toNatClampNeg)) (y := (5 : Int32)) rfl (b := 5) (by decide) c120
        have kc120 : (S_104 53 ((10 : Int32) + x1).toNatClampNeg).toInt ≤ 4 := (by clear hx1 hx2 hx4 h620 hp1 hN3 hN n1 n2 n3 n4 n5 n7 kc6 n61 n72 n73 n74 n75 n79 kz80 n82 n88 n89 n90 n91 n92 n94 n99 n100 n101 n102 n103 p112 n114 n115 n116 n117 n119; omega)
        clear kc1200
        unfold fJ_X8_restAt_J70
        have n209 : ((10 : Int32) + x2).toInt = 10 + x2.toInt := i_addK (by decide) rfl (by clear hx1 hx4 h620 hp1 hN3 hN n1 n2 n3 n4 n5 n7 kc6 n61 n72 n73 n74 n75 n79 kz80 n82 n88 n89 n90 n91 n92 n94 n99 n100 n101 n102 n103 p112 n114 n115 n116 n117 n119 n121 kc120; omega) (by clear hx1 hx4 h620 hp1 hN3 hN n1 n2 n3 n4 n5 n7 kc6 n61 n72 n73 n74 n75 n79 kz80 n82 n88 n89 n90 n91 n92 n94 n99 n100 n101 n102 n103 p112 n114 n115 n116 n117 n119 n121 kc120; omega)
        refine D_ck (okI_of (by clear hx1 hx4 h620 hp1 hN3 hN n1 n2 n3 n4 n5 n7 kc6 n61 n72 n73 n74 n75 n79 kz80 n82 n88 n89 n90 n91 n92 n94 n99 n100 n101 n102 n103 p112 n114 n115 n116 n117 n119 n121 kc120; omega) (by clear hx1 hx4 h620 hp1 hN3 hN n1 n2 n3 n4 n5 n7 kc6 n61 n72 n73 n74 n75 n79 kz80 n82 n88 n89 n90 n91 n92 n94 n99 n100 n101 n102 n103 p112 n114 n115 n116 n117 n119 n121 kc120; omega)) ?_
        have n211 : 0 ≤ (S_104 53 ((10 : Int32) + x2).toNatClampNeg).toInt ∧ (S_104 53 ((10 : Int32) + x2).toNatClampNeg).toInt ≤ 5 := p108 53 (((10 : Int32) + x2).toNatClampNeg)
        refine D_ite (fun c210 => ?_) (fun c210 => ?_)
        · have kc210 := tq_eq (x := (S_104 53 ((10 : Int32) + x2).toNatClampNeg)) (y := (5 : Int32)) rfl (b := 5) (by decide) c210
          unfold fJ_X8_restAt_J90
          refine D_bd2 (t_X8_toEnd S_104 L_105 p108 p110 p111) (fun S_212 L_213 eq215 hq214 => ?_)
          refine D_lte (y := S_212) rfl ?_
          refine D_lte (y := L_213) rfl ?_
          obtain ⟨p216, p217, p218, p219⟩ : (iR BM S_212) ∧ (aG 1 S_104 S_212) ∧ (pI S_212) ∧ (gI 1 S_212) := hq214
          have k220 : aG 1 zaG S_212 := aG_tr k113 p217
          have n221 : (S_212 0 12).toInt = (S_104 0 12).toInt := congrArg Int32.toInt (p217 0 _ rfl)
          have n222 : (S_212 0 13).toInt = (S_104 0 13).toInt := congrArg Int32.toInt (p217 0 _ rfl)
          have n223 : (S_212 0 14).toInt = (S_104 0 14).toInt := congrArg Int32.toInt (p217 0 _ rfl)
          have n224 : (S_212 62 0).toInt = (S_104 62 0).toInt := congrArg Int32.toInt (p217 62 _ rfl)
          have kg0_t225 : gI 0 S_212 := (gI0_G1 p108 kg0_t118 p217)
          refine D_bd (t_X8_costOf S_212 x1 (0 : Int32) p216 ⟨(by clear hx2 hx4 h620 hp1 hN3 hN n1 n2 n3 n4 n5 n7 kc6 n61 n72 n73 n74 n75 n79 kz80 n82 n88 n89 n90 n91 n92 n94 n99 n100 n101 n102 n103 p112 n114 n115 n116 n117 n121 kc120 n209 n211 kc210 n221 n222 n223 n224; omega), (by clear hx2 hx4 h620 hp1 hN3 hN n1 n2 n3 n4 n5 n7 kc6 n61 n72 n73 n74 n75 n79 kz80 n82 n88 n89 n90 n91 n92 n94 n99 n100 n101 n102 n103 p112 n114 n115 n116 n117 n121 kc120 n209 n211 kc210 n221 n222 n223 n224; omega)⟩) (fun r226 eq228 hq227 => ?_)
          have n229 := i_rng r226
          refine D_ck (okI_of (by clear hx1 hx2 h620 hN3 hN n1 n2 n3 n4 n73 n74 n75 n79 kz80 n82 n89 n90 n91 n92 n99 n100 n101 n103 p112 n115 n116 n117 n119 n121 kc120 n209 n211 kc210 n222 n223 n224 n229; omega) (by clear hx1 hx2 h620 hN3 hN n1 n2 n3 n4 n73 n74 n75 n79 kz80 n82 n89 n90 n91 n92 n99 n100 n101 n103 p112 n115 n116 n117 n119 n121 kc120 n209 n211 kc210 n222 n223 n224 n229; omega)) ?_
          refine D_lt (fun S_230 eS_230 => ?_)
          have hS_230 : iR BM S_230 := by rw [eS_230]; exact iR_setU p216 rfl
          have kaG_t231 : aG 1 zaG S_230 := (by rw [eS_230]; exact aG_set k220 (Wb_t rfl))
          have kpI_t232 : pI S_230 := by rw [eS_230]; exact p218
          have kg0_t233 : gI 0 S_230 := by rw [eS_230]; exact kg0_t225
          have kgI_t234 : gI 1 S_230 := by rw [eS_230]; exact p219
          have n235 : (S_230 62 0).toInt = (S_212 62 0).toInt := by rw [eS_230]; rfl
          have n236 : (S_230 0 13).toInt = (S_212 0 13).toInt := by rw [eS_230]; rfl
          have n237 : (S_230 0 14).toInt = (S_212 0 14).toInt := by rw [eS_230]; rfl
          have n238 : (S_230 0 12).toInt = (S_212 0 12).toInt := by rw [eS_230]; rfl
          refine D_bd (t_X8_costOf S_230 x2 (1 : Int32) hS_230 ⟨(by clear hx1 hx4 h620 hp1 hN3 hN n1 n2 n3 n4 n5 n7 kc6 n61 n72 n73 n74 n75 n79 kz80 n82 n88 n89 n90 n91 n92 n94 n99 n100 n101 n102 n103 p112 n114 n115 n116 n117 n119 n121 kc120 n211 kc210 n221 n222 n223 n224 n229 n235 n236 n237 n238; omega), (by clear hx1 hx4 h620 hp1 hN3 hN n1 n2 n3 n4 n5 n7 kc6 n61 n72 n73 n74 n75 n79 kz80 n82 n88 n89 n90 n91 n92 n94 n99 n100 n101 n102 n103 p112 n114 n115 n116 n117 n119 n121 kc120 n211 kc210 n221 n222 n223 n224 n229 n235 n236 n237 n238; omega)⟩) (fun r239 eq241 hq240 => ?_)
          have n242 := i_rng r239
          refine D_lt (fun S_243 eS_243 => ?_)
          have hS_243 : iR BM S_243 := by rw [eS_243]; exact iR_setU hS_230 rfl
          have kaG_t244 : aG 1 zaG S_243 := (by rw [eS_243]; exact aG_set kaG_t231 (Wb_t rfl))
          have kpI_t245 : pI S_243 := by rw [eS_243]; exact kpI_t232
          have kg0_t246 : gI 0 S_243 := by rw [eS_243]; exact kg0_t233
          have kgI_t247 : gI 1 S_243 := by rw [eS_243]; exact kgI_t234
          have n248 : (S_243 0 13).toInt = (S_230 0 13).toInt := by rw [eS_243]; rfl
          have n249 : (S_243 0 14).toInt = (S_230 0 14).toInt := by rw [eS_243]; rfl
          have n250 : (S_243 62 0).toInt = (S_230 62 0).toInt := by rw [eS_243]; rfl
          have n251 : (S_243 0 12).toInt = (S_230 0 12).toInt := by rw [eS_243]; rfl
          have n253 : (x4 + 1).toInt = x4.toInt + 1 := i_addK rfl (by decide) (by clear hx1 hx2 h620 hN3 hN n1 n2 n3 n4 n73 n74 n75 n79 kz80 n82 n89 n90 n91 n92 n99 n100 n101 n103 p112 n115 n116 n117 n119 n121 kc120 n209 n211 kc210 n222 n223 n224 n229 n235 n236 n237 n242 n248 n249 n250; omega) (by clear hx1 hx2 h620 hN3 hN n1 n2 n3 n4 n73 n74 n75 n79 kz80 n82 n89 n90 n91 n92 n99 n100 n101 n103 p112 n115 n116 n117 n119 n121 kc120 n209 n211 kc210 n222 n223 n224 n229 n235 n236 n237 n242 n248 n249 n250; omega)
          refine D_lt (fun y252 ey252 => ?_)
          have hy252 : y252.toInt = (x4 + 1 : Int32).toInt := by rw [ey252]
          exact hk3 y252 S_243 L_213 kaG_t244 kpI_t245 kg0_t246 hS_243 ⟨(by clear hx1 hx2 h620 hN3 hN n1 n2 n3 n4 n73 n74 n75 n79 kz80 n82 n89 n90 n91 n92 n99 n100 n101 n103 p112 n115 n116 n117 n119 n121 kc120 n209 n211 kc210 n222 n223 n224 n229 n235 n236 n237 n242 n248 n249 n250; omega), (by clear hx1 hx2 h620 hN3 hN n1 n2 n3 n4 n73 n74 n75 n79 kz80 n82 n89 n90 n91 n92 n99 n100 n101 n103 p112 n115 n116 n117 n119 n121 kc120 n209 n211 kc210 n222 n223 n224 n229 n235 n236 n237 n242 n248 n249 n250; omega)⟩ (by clear hx1 hx2 hx4 hp1 hN3 hN n2 n3 n4 n5 n7 kc6 n61 n72 n73 n74 n82 n88 n89 n90 n94 n99 n100 n102 n114 n115 n116 n119 n121 kc120 n209 n211 kc210 n221 n222 n223 n229 n236 n237 n238 n242 n248 n249 n251 n253 hy252; omega) (by clear hx1 hx2 h620 hN3 hN n1 n2 n3 n4 n73 n74 n75 n79 kz80 n82 n89 n90 n91 n92 n99 n100 n101 n103 p112 n115 n116 n117 n119 n121 kc120 n209 n211 kc210 n222 n223 n224 n229 n235 n236 n237 n242 n248 n249 n250; omega) (by clear hx1 hx2 h620 n1 n2 n3 n4 n73 n74 n75 n79 kz80 n82 n89 n90 n91 n92 n99 n100 n101 n103 p112 n115 n116 n117 n119 n121 kc120 n209 n211 kc210 n222 n223 n224 n229 n235 n236 n237 n242 n248 n249 n250; omega)
        · have kc2100 := tq_eqn (x := (S_104 53 ((10 : Int32) + x2).toNatClampNeg)) (y := (5 : Int32)) rfl (b := 5) (by decide) c210
          have kc210 : (S_104 53 ((10 : Int32) + x2).toNatClampNeg).toInt ≤ 4 := (by clear hx1 hx2 hx4 h620 hp1 hN3 hN n1 n2 n3 n4 n5 n7 kc6 n61 n72 n73 n74 n75 n79 kz80 n82 n88 n89 n90 n91 n92 n94 n99 n100 n101 n102 n103 p112 n114 n115 n116 n117 n119 n121 kc120 n209; omega)
          clear kc2100
          unfold fJ_X8_restAt_J90
          refine D_bd2 (t_X8_toEnd S_104 L_105 p108 p110 p111) (fun S_254 L_255 eq257 hq256 => ?_)
          refine D_lte (y := S_254) rfl ?_
          refine D_lte (y := L_255) rfl ?_
          obtain ⟨p258, p259, p260, p261⟩ : (iR BM S_254) ∧ (aG 1 S_104 S_254) ∧ (pI S_254) ∧ (gI 1 S_254) := hq256
          have k262 : aG 1 zaG S_254 := aG_tr k113 p259
          have n263 : (S_254 0 12).toInt = (S_104 0 12).toInt := congrArg Int32.toInt (p259 0 _ rfl)
          have n264 : (S_254 0 13).toInt = (S_104 0 13).toInt := congrArg Int32.toInt (p259 0 _ rfl)
          have n265 : (S_254 0 14).toInt = (S_104 0 14).toInt := congrArg Int32.toInt (p259 0 _ rfl)
          have n266 : (S_254 62 0).toInt = (S_104 62 0).toInt := congrArg Int32.toInt (p259 62 _ rfl)
          have kg0_t267 : gI 0 S_254 := (gI0_G1 p108 kg0_t118 p259)
          refine D_bd (t_X8_costOf S_254 x1 (0 : Int32) p258 ⟨(by clear hx2 hx4 h620 hp1 hN3 hN n1 n2 n3 n4 n5 n7 kc6 n61 n72 n73 n74 n75 n79 kz80 n82 n88 n89 n90 n91 n92 n94 n99 n100 n101 n102 n103 p112 n114 n115 n116 n117 n121 kc120 n209 n211 kc210 n263 n264 n265 n266; omega), (by clear hx2 hx4 h620 hp1 hN3 hN n1 n2 n3 n4 n5 n7 kc6 n61 n72 n73 n74 n75 n79 kz80 n82 n88 n89 n90 n91 n92 n94 n99 n100 n101 n102 n103 p112 n114 n115 n116 n117 n121 kc120 n209 n211 kc210 n263 n264 n265 n266; omega)⟩) (fun r268 eq270 hq269 => ?_)
          have n271 := i_rng r268
          refine D_ck (okI_of (by clear hx1 hx2 h620 hN3 hN n1 n2 n3 n4 n73 n74 n75 n79 kz80 n82 n89 n90 n91 n92 n99 n100 n101 n103 p112 n115 n116 n117 n119 n121 kc120 n209 n211 kc210 n264 n265 n266 n271; omega) (by clear hx1 hx2 h620 hN3 hN n1 n2 n3 n4 n73 n74 n75 n79 kz80 n82 n89 n90 n91 n92 n99 n100 n101 n103 p112 n115 n116 n117 n119 n121 kc120 n209 n211 kc210 n264 n265 n266 n271; omega)) ?_
          refine D_lt (fun S_272 eS_272 => ?_)
          have hS_272 : iR BM S_272 := by rw [eS_272]; exact iR_setU p258 rfl
          have kaG_t273 : aG 1 zaG S_272 := (by rw [eS_272]; exact aG_set k262 (Wb_t rfl))
          have kpI_t274 : pI S_272 := by rw [eS_272]; exact p260
          have kg0_t275 : gI 0 S_272 := by rw [eS_272]; exact kg0_t267
          have kgI_t276 : gI 1 S_272 := by rw [eS_272]; exact p261
          have n277 : (S_272 62 0).toInt = (S_254 62 0).toInt := by rw [eS_272]; rfl
          have n278 : (S_272 0 13).toInt = (S_254 0 13).toInt := by rw [eS_272]; rfl
          have n279 : (S_272 0 14).toInt = (S_254 0 14).toInt := by rw [eS_272]; rfl
          have n280 : (S_272 0 12).toInt = (S_254 0 12).toInt := by rw [eS_272]; rfl
          refine D_bd (t_X8_costOf S_272 x2 (0 : Int32) hS_272 ⟨(by clear hx1 hx4 h620 hp1 hN3 hN n1 n2 n3 n4 n5 n7 kc6 n61 n72 n73 n74 n75 n79 kz80 n82 n88 n89 n90 n91 n92 n94 n99 n100 n101 n102 n103 p112 n114 n115 n116 n117 n119 n121 kc120 n211 kc210 n263 n264 n265 n266 n271 n277 n278 n279 n280; omega), (by clear hx1 hx4 h620 hp1 hN3 hN n1 n2 n3 n4 n5 n7 kc6 n61 n72 n73 n74 n75 n79 kz80 n82 n88 n89 n90 n91 n92 n94 n99 n100 n101 n102 n103 p112 n114 n115 n116 n117 n119 n121 kc120 n211 kc210 n263 n264 n265 n266 n271 n277 n278 n279 n280; omega)⟩) (fun r281 eq283 hq282 => ?_)
          have n284 := i_rng r281
          refine D_lt (fun S_285 eS_285 => ?_)
          have hS_285 : iR BM S_285 := by rw [eS_285]; exact iR_setU hS_272 rfl
          have kaG_t286 : aG 1 zaG S_285 := (by rw [eS_285]; exact aG_set kaG_t273 (Wb_t rfl))
          have kpI_t287 : pI S_285 := by rw [eS_285]; exact kpI_t274
          have kg0_t288 : gI 0 S_285 := by rw [eS_285]; exact kg0_t275
          have kgI_t289 : gI 1 S_285 := by rw [eS_285]; exact kgI_t276
          have n290 : (S_285 0 12).toInt = (S_272 0 12).toInt := by rw [eS_285]; rfl
          have n291 : (S_285 0 14).toInt = (S_272 0 14).toInt := by rw [eS_285]; rfl
          have n292 : (S_285 62 0).toInt = (S_272 62 0).toInt := by rw [eS_285]; rfl
          have n293 : (S_285 0 13).toInt = (S_272 0 13).toInt := by rw [eS_285]; rfl
          have n295 : (x4 + 1).toInt = x4.toInt + 1 := i_addK rfl (by decide) (by clear hx1 hx2 h620 hN3 hN n1 n2 n3 n4 n73 n74 n75 n79 kz80 n82 n89 n90 n91 n92 n99 n100 n101 n103 p112 n115 n116 n117 n119 n121 kc120 n209 n211 kc210 n264 n265 n266 n271 n277 n278 n279 n284 n291 n292 n293; omega) (by clear hx1 hx2 h620 hN3 hN n1 n2 n3 n4 n73 n74 n75 n79 kz80 n82 n89 n90 n91 n92 n99 n100 n101 n103 p112 n115 n116 n117 n119 n121 kc120 n209 n211 kc210 n264 n265 n266 n271 n277 n278 n279 n284 n291 n292 n293; omega)
          refine D_lt (fun y294 ey294 => ?_)
          have hy294 : y294.toInt = (x4 + 1 : Int32).toInt := by rw [ey294]
          exact hk3 y294 S_285 L_255 kaG_t286 kpI_t287 kg0_t288 hS_285 ⟨(by clear hx1 hx2 h620 hN3 hN n1 n2 n3 n4 n73 n74 n75 n79 kz80 n82 n89 n90 n91 n92 n99 n100 n101 n103 p112 n115 n116 n117 n119 n121 kc120 n209 n211 kc210 n264 n265 n266 n271 n277 n278 n279 n284 n291 n292 n293; omega), (by clear hx1 hx2 h620 hN3 hN n1 n2 n3 n4 n73 n74 n75 n79 kz80 n82 n89 n90 n91 n92 n99 n100 n101 n103 p112 n115 n116 n117 n119 n121 kc120 n209 n211 kc210 n264 n265 n266 n271 n277 n278 n279 n284 n291 n292 n293; omega)⟩ (by clear hx1 hx2 hx4 hp1 hN3 hN n2 n3 n4 n5 n7 kc6 n61 n72 n73 n74 n82 n88 n89 n90 n94 n99 n100 n102 n114 n115 n116 n119 n121 kc120 n209 n211 kc210 n263 n264 n265 n271 n278 n279 n280 n284 n290 n291 n293 n295 hy294; omega) (by clear hx1 hx2 h620 hN3 hN n1 n2 n3 n4 n73 n74 n75 n79 kz80 n82 n89 n90 n91 n92 n99 n100 n101 n103 p112 n115 n116 n117 n119 n121 kc120 n209 n211 kc210 n264 n265 n266 n271 n277 n278 n279 n284 n291 n292 n293; omega) (by clear hx1 hx2 h620 n1 n2 n3 n4 n73 n74 n75 n79 kz80 n82 n89 n90 n91 n92 n99 n100 n101 n103 p112 n115 n116 n117 n119 n121 kc120 n209 n211 kc210 n264 n265 n266 n271 n277 n278 n279 n284 n291 n292 n293; omega)
set_option maxHeartbeats 1000000 in
set_option maxRecDepth 100000 in
theorem t_X8_restAt (S : Tr) (L : Lo) (x1 : Int32) (x2 : Int32) (x3 : Int32) (hS : iR BM S) (dpI : pI S) (dg0 : gI 0 S) (hx1 : 0 ≤ x1.toInt ∧ x1.toInt ≤ 9) (hx2 : 0 ≤ x2.toInt ∧ x2.toInt ≤ 9) (h620 : (S 62 0).toInt ≤ 20) (hp1 : 1 ≤ (S 0 12).toInt) : D (f_X8_restAt S L x1 x2 x3) (fun (q : Int32 × Tr × Lo) => (iR BM (q.2.1)) ∧ (aG 1 S (q.2.1)) ∧ (pI (q.2.1)) ∧ (gI 0 (q.2.1))) := by
  unfold f_X8_restAt
  have l0 : (0 : Int32).toInt = 0 := by decide
  have n296 := i_rng x3
  have n297 : 0 ≤ (S 62 0).toInt ∧ (S 62 0).toInt ≤ 21 := hS 62 0
  have n298 : 0 ≤ (S 0 12).toInt ∧ (S 0 12).toInt ≤ 5 := hS 0 12
  exact tl_X8_restAt_L3 S x1 x2 x3 ⟨(by clear hx2 h620 hp1 n296; omega), (by clear hx2 h620 hp1 n296; omega)⟩ ⟨(by clear hx1 h620 hp1 n296; omega), (by clear hx1 h620 hp1 n296; omega)⟩   2000 (0 : Int32) S L aG_rfl dpI dg0 hS ⟨(by clear hx1 hx2 h620 hp1 n296; omega), (by clear hx1 hx2 h620 hp1 n296; omega)⟩ (by clear hx1 hx2 hp1 n296; omega) (by clear hx1 hx2 h620 n296 n297; omega) (by clear hx1 hx2 h620 hp1 n296 n297 n298; omega)
set_option maxHeartbeats 1000000 in
set_option maxRecDepth 100000 in
theorem t_X8_rest (S : Tr) (L : Lo) (x1 : Int32) (x2 : Int32) (x3 : Int32) (hS : iR BM S) (dpI : pI S) (dg0 : gI 0 S) : D (f_X8_rest S L x1 x2 x3) (fun (q : Int32 × Tr × Lo) => (iR BM (q.2.1)) ∧ (aG 1 S (q.2.1)) ∧ (pI (q.2.1)) ∧ (gI 0 (q.2.1))) := by
  unfold f_X8_rest
  refine D_lt (fun S_1 eS_1 => ?_)
  have hS_1 : iR BM S_1 := by rw [eS_1]; exact iR_setU hS rfl
  have kaG_t2 : aG 1 S S_1 := (by rw [eS_1]; exact aG_set aG_rfl (Wb_t rfl))
  have kpI_t3 : pI S_1 := by rw [eS_1]; exact dpI
  have kg0_t4 : gI 0 S_1 := by rw [eS_1]; exact dg0
  have l0 : (0 : Int32).toInt = 0 := by decide
  have n6 : (S_1 0 2).toInt = (0 : Int32).toInt := by rw [eS_1]; rfl
  have n7 := i_rng x1
  have n8 := i_rng x2
  refine D_bd (t_X8_areTwo S_1 x1 x2 hS_1) (fun r9 eq11 hq10 => ?_)
  obtain ⟨p12, p13⟩ : (0 ≤ r9.toInt ∧ r9.toInt ≤ 1) ∧ (r9.toInt = 1 → 0 ≤ x1.toInt ∧ x1.toInt < (S_1 0 14).toInt ∧ 0 ≤ x2.toInt ∧ x2.toInt < (S_1 0 14).toInt ∧ (S_1 62 0).toInt ≤ 20 ∧ 1 ≤ (S_1 0 12).toInt) := hq10
  have n14 : 0 ≤ (S_1 0 14).toInt ∧ (S_1 0 14).toInt ≤ 10 := hS_1 0 14
  have n15 : 0 ≤ (S_1 0 13).toInt ∧ (S_1 0 13).toInt ≤ 6 := hS_1 0 13
  have n16 : 0 ≤ (S_1 0 12).toInt ∧ (S_1 0 12).toInt ≤ 5 := hS_1 0 12
  refine D_ite (fun c17 => ?_) (fun c17 => ?_)
  · have kc17 := tq_eq (x := r9) (y := (0 : Int32)) rfl (b := 0) (by decide) c17
    have lm1 : ((-1) : Int32).toInt = (-1) := by decide
    exact D_some (show (iR BM S_1) ∧ (aG 1 S S_1) ∧ (pI S_1) ∧ (gI 0 S_1) from ⟨hS_1, kaG_t2, kpI_t3, kg0_t4⟩)
  · have kc170 := tq_eqn (x := r9) (y := (0 : Int32)) rfl (b := 0) (by decide) c17
    have kc17 : 1 ≤ r9.toInt := (by omega)
    clear kc170
    have n19 := i_rng x3
    refine D_ite (fun c18 => ?_) (fun c18 => ?_)
    · have kc18 := tq_lt (x := x3) (y := (0 : Int32)) rfl (b := 0) (by decide) c18
      have lm1 : ((-1) : Int32).toInt = (-1) := by decide
      exact D_some (show (iR BM S_1) ∧ (aG 1 S S_1) ∧ (pI S_1) ∧ (gI 0 S_1) from ⟨hS_1, kaG_t2, kpI_t3, kg0_t4⟩)
    · have kc18 := tq_ltn (x := x3) (y := (0 : Int32)) rfl (b := 0) (by decide) c18
      refine D_bd3 (t_X8_restAt S_1 L x1 x2 x3 hS_1 kpI_t3 kg0_t4 ⟨(by clear n6 n15 n19 kc18; omega), (by clear n6 n15 n19 kc18; omega)⟩ ⟨(by clear n6 n15 n19 kc18; omega), (by clear n6 n15 n19 kc18; omega)⟩ (by first | assumption | exact (by clear n6 n15 n19 kc18; omega)) (by first | assumption | exact (by clear n6 n15 n19 kc18; omega))) (fun r20 S_21 L_22 eq24 hq23 => ?_)
      refine D_lte (y := r20) rfl ?_
      refine D_lte (y := S_21) rfl ?_
      refine D_lte (y := L_22) rfl ?_
      obtain ⟨p25, p26, p27, p28⟩ : (iR BM S_21) ∧ (aG 1 S_1 S_21) ∧ (pI S_21) ∧ (gI 0 S_21) := hq23
      have n29 := i_rng r20
      have k30 : aG 1 S S_21 := aG_tr kaG_t2 p26
      have n31 : (S_21 0 12).toInt = (S_1 0 12).toInt := congrArg Int32.toInt (p26 0 _ rfl)
      have n32 : (S_21 0 13).toInt = (S_1 0 13).toInt := congrArg Int32.toInt (p26 0 _ rfl)
      have n33 : (S_21 0 14).toInt = (S_1 0 14).toInt := congrArg Int32.toInt (p26 0 _ rfl)
      exact D_some (show (iR BM S_21) ∧ (aG 1 S S_21) ∧ (pI S_21) ∧ (gI 0 S_21) from ⟨p25, k30, p27, p28⟩)
set_option maxHeartbeats 1000000 in
set_option maxRecDepth 100000 in
theorem t_X8_rests (S : Tr) (L : Lo) (x1 : Int32) (x2 : Int32) (hS : iR BM S) (dpI : pI S) (dg0 : gI 0 S) : D (f_X8_rests S L x1 x2) (fun (q : Int32 × Tr × Lo) => (iR BM (q.2.1)) ∧ (aG 1 S (q.2.1)) ∧ (pI (q.2.1)) ∧ (gI 0 (q.2.1))) := by
  unfold f_X8_rests
  refine D_lt (fun S_1 eS_1 => ?_)
  have hS_1 : iR BM S_1 := by rw [eS_1]; exact iR_setU hS rfl
  have kaG_t2 : aG 1 S S_1 := (by rw [eS_1]; exact aG_set aG_rfl (Wb_t rfl))
  have kpI_t3 : pI S_1 := by rw [eS_1]; exact dpI
  have kg0_t4 : gI 0 S_1 := by rw [eS_1]; exact dg0
  have l0 : (0 : Int32).toInt = 0 := by decide
  have n6 : (S_1 0 2).toInt = (0 : Int32).toInt := by rw [eS_1]; rfl
  have n7 := i_rng x1
  have n8 := i_rng x2
  refine D_bd (t_X8_areTwo S_1 x1 x2 hS_1) (fun r9 eq11 hq10 => ?_)
  obtain ⟨p12, p13⟩ : (0 ≤ r9.toInt ∧ r9.toInt ≤ 1) ∧ (r9.toInt = 1 → 0 ≤ x1.toInt ∧ x1.toInt < (S_1 0 14).toInt ∧ 0 ≤ x2.toInt ∧ x2.toInt < (S_1 0 14).toInt ∧ (S_1 62 0).toInt ≤ 20 ∧ 1 ≤ (S_1 0 12).toInt) := hq10
  have n14 : 0 ≤ (S_1 0 14).toInt ∧ (S_1 0 14).toInt ≤ 10 := hS_1 0 14
  have n15 : 0 ≤ (S_1 0 13).toInt ∧ (S_1 0 13).toInt ≤ 6 := hS_1 0 13
  have n16 : 0 ≤ (S_1 0 12).toInt ∧ (S_1 0 12).toInt ≤ 5 := hS_1 0 12
  refine D_ite (fun c17 => ?_) (fun c17 => ?_)
  · have kc17 := tq_eq (x := r9) (y := (0 : Int32)) rfl (b := 0) (by decide) c17
    have lm1 : ((-1) : Int32).toInt = (-1) := by decide
    exact D_some (show (iR BM S_1) ∧ (aG 1 S S_1) ∧ (pI S_1) ∧ (gI 0 S_1) from ⟨hS_1, kaG_t2, kpI_t3, kg0_t4⟩)
  · have kc170 := tq_eqn (x := r9) (y := (0 : Int32)) rfl (b := 0) (by decide) c17
    have kc17 : 1 ≤ r9.toInt := (by omega)
    clear kc170
    have lm1 : ((-1) : Int32).toInt = (-1) := by decide
    refine D_bd3 (t_X8_restAt S_1 L x1 x2 ((-1) : Int32) hS_1 kpI_t3 kg0_t4 ⟨(by omega), (by omega)⟩ ⟨(by omega), (by omega)⟩ (by first | assumption | exact (by omega)) (by first | assumption | exact (by omega))) (fun r18 S_19 L_20 eq22 hq21 => ?_)
    refine D_lte (y := r18) rfl ?_
    refine D_lte (y := S_19) rfl ?_
    refine D_lte (y := L_20) rfl ?_
    obtain ⟨p23, p24, p25, p26⟩ : (iR BM S_19) ∧ (aG 1 S_1 S_19) ∧ (pI S_19) ∧ (gI 0 S_19) := hq21
    have n27 := i_rng r18
    have k28 : aG 1 S S_19 := aG_tr kaG_t2 p24
    have n29 : (S_19 0 12).toInt = (S_1 0 12).toInt := congrArg Int32.toInt (p24 0 _ rfl)
    have n30 : (S_19 0 13).toInt = (S_1 0 13).toInt := congrArg Int32.toInt (p24 0 _ rfl)
    have n31 : (S_19 0 14).toInt = (S_1 0 14).toInt := congrArg Int32.toInt (p24 0 _ rfl)
    exact D_some (show (iR BM S_19) ∧ (aG 1 S S_19) ∧ (pI S_19) ∧ (gI 0 S_19) from ⟨p23, k28, p25, p26⟩)
set_option maxHeartbeats 1000000 in
set_option maxRecDepth 100000 in
theorem tl_X8_tried_L102 (zaG : Tr) (L : Lo) (x2 : Int32) (hx2 : 0 ≤ x2.toInt ∧ x2.toInt ≤ 5)   (N : Nat) : ∀ (x3 : Int32) (S : Tr), aG 1 zaG S → pI S → gI 0 S → gI 1 S → iR BM S → 0 ≤ x3.toInt ∧ x3.toInt ≤ 1000 → 1000 - x3.toInt < (N : Int) → D (lpF (fun _ _ => none) (fB_X8_tried_L102 L x2) N x3 S) (fun (q : Int32 × Tr × Lo) => (iR BM (q.2.1)) ∧ (aG 1 zaG (q.2.1)) ∧ (pI (q.2.1)) ∧ (gI 0 (q.2.1))) := by
  induction N with
  | zero =>
    intro x3 S daG dpI dg0 dgI hS hx3 hN
    exfalso
    omega
  | succ N102 ih =>
    intro x3 S daG dpI dg0 dgI hS hx3 hN
    have hk102 : ∀ (x3 : Int32) (S : Tr), aG 1 zaG S → pI S → gI 0 S → gI 1 S → iR BM S → 0 ≤ x3.toInt ∧ x3.toInt ≤ 1000 → 1000 - x3.toInt < (N102 : Int) → D (lpF (fun _ _ => none) (fB_X8_tried_L102 L x2) N102 x3 S) (fun (q : Int32 × Tr × Lo) => (iR BM (q.2.1)) ∧ (aG 1 zaG (q.2.1)) ∧ (pI (q.2.1)) ∧ (gI 0 (q.2.1))) := ih
    show D (fB_X8_tried_L102 L x2 (lpF (fun _ _ => none) (fB_X8_tried_L102 L x2) N102) x3 S) _
    generalize lpF (fun _ _ => none) (fB_X8_tried_L102 L x2) N102 = k102 at hk102 ⊢
    have hN102 : 1000 - x3.toInt < (N102 : Int) + 1 := by omega
    clear ih
    unfold fB_X8_tried_L102
    have n95 : 0 ≤ (S 0 14).toInt ∧ (S 0 14).toInt ≤ 10 := hS 0 14
    have n96 : 0 ≤ (S 0 13).toInt ∧ (S 0 13).toInt ≤ 6 := hS 0 13
    have n97 : 0 ≤ (S 0 12).toInt ∧ (S 0 12).toInt ≤ 5 := hS 0 12
    refine D_ite (fun c98 => ?_) (fun c98 => ?_)
    · have kc98 := tq_le (x := (S 0 14)) (y := x3) rfl rfl c98
      unfold fJ_X8_tried_J146
      have n99 : ((6 : Int32) + x2).toInt = 6 + x2.toInt := i_addK (by decide) rfl (by clear hx3 hN102 hN n95 n96 n97 kc98; omega) (by clear hx3 hN102 hN n95 n96 n97 kc98; omega)
      refine D_ck (okI_of (by clear hx3 hN102 hN n95 n96 n97 kc98; omega) (by clear hx3 hN102 hN n95 n96 n97 kc98; omega)) ?_
      refine D_lt (fun S_100 eS_100 => ?_)
      have hS_100 : iR BM S_100 := by rw [eS_100]; exact iR_setU hS rfl
      have kaG_t101 : aG 1 zaG S_100 := (by rw [eS_100]; exact aG_set daG (Wb_59 (inB_of (by clear hx3 hN102 hN n95 n96 n97 kc98; simp only [i_cl]; omega) (by clear hx3 hN102 hN n95 n96 n97 kc98; simp only [i_cl]; omega))))
      have kpI_t102 : pI S_100 := by rw [eS_100]; exact dpI
      have kg0_t103 : gI 0 S_100 := by rw [eS_100]; exact dg0
      have kgI_t104 : gI 1 S_100 := by rw [eS_100]; exact dgI
      have n105 : (S_100 0 12).toInt = (S 0 12).toInt := by rw [eS_100]; rfl
      have n106 : (S_100 0 14).toInt = (S 0 14).toInt := by rw [eS_100]; rfl
      have n107 : (S_100 0 13).toInt = (S 0 13).toInt := by rw [eS_100]; rfl
      unfold fJ_X8_tried_J156
      refine D_bd2 (t_X8_toEnd S_100 L hS_100 kpI_t102 kgI_t104) (fun S_108 L_109 eq111 hq110 => ?_)
      refine D_lte (y := S_108) rfl ?_
      refine D_lte (y := L_109) rfl ?_
      obtain ⟨p112, p113, p114, p115⟩ : (iR BM S_108) ∧ (aG 1 S_100 S_108) ∧ (pI S_108) ∧ (gI 1 S_108) := hq110
      have k116 : aG 1 zaG S_108 := aG_tr kaG_t101 p113
      have n117 : (S_108 0 12).toInt = (S_100 0 12).toInt := congrArg Int32.toInt (p113 0 _ rfl)
      have n118 : (S_108 0 13).toInt = (S_100 0 13).toInt := congrArg Int32.toInt (p113 0 _ rfl)
      have n119 : (S_108 0 14).toInt = (S_100 0 14).toInt := congrArg Int32.toInt (p113 0 _ rfl)
      have kg0_t120 : gI 0 S_108 := (gI0_G1 hS_100 kg0_t103 p113)
      refine D_bd (t_X8_plainTried S_108 p112) (fun S_121 eq123 hq122 => ?_)
      obtain ⟨p124, p125⟩ : (iR BM S_121) ∧ (aT S_108 S_121) := hq122
      have k126 : aG 1 zaG S_121 := aG_tr k116 (aT_G p125)
      have n127 : (S_121 0 12).toInt = (S_108 0 12).toInt := congrArg Int32.toInt (p125 0 _ rfl)
      have n128 : (S_121 0 13).toInt = (S_108 0 13).toInt := congrArg Int32.toInt (p125 0 _ rfl)
      have n129 : (S_121 0 14).toInt = (S_108 0 14).toInt := congrArg Int32.toInt (p125 0 _ rfl)
      have kpI_t130 : pI S_121 := (pI_aT p114 p125)
      have kg0_t131 : gI 0 S_121 := (gI_aT kg0_t120 p125)
      have kgI_t132 : gI 1 S_121 := (gI_aT p115 p125)
      refine D_bd (t_X8_more S_121 p124) (fun r133 eq135 hq134 => ?_)
      have n136 := i_rng r133
      exact D_some (show (iR BM S_121) ∧ (aG 1 zaG S_121) ∧ (pI S_121) ∧ (gI 0 S_121) from ⟨p124, k126, kpI_t130, kg0_t131⟩)
    · have kc98 := tq_len (x := (S 0 14)) (y := x3) rfl rfl c98
      refine D_ck (okI_of (by clear hx2 hN102 hN n96 n97; omega) (by clear hx2 hN102 hN n96 n97; omega)) ?_
      have n138 : 0 ≤ (S 30 x3.toNatClampNeg).toInt ∧ (S 30 x3.toNatClampNeg).toInt ≤ 5 := hS 30 x3.toNatClampNeg
      refine D_ite (fun c137 => ?_) (fun c137 => ?_)
      · have kc137 := tq_eq (x := (S 30 x3.toNatClampNeg)) (y := x2) rfl rfl c137
        have n139 : ((10 : Int32) + x3).toInt = 10 + x3.toInt := i_addK (by decide) rfl (by clear hx2 hN102 hN n96 n97 n138 kc137; omega) (by clear hx2 hN102 hN n96 n97 n138 kc137; omega)
        refine D_ck (okI_of (by clear hx2 hN102 hN n96 n97 n138 kc137; omega) (by clear hx2 hN102 hN n96 n97 n138 kc137; omega)) ?_
        have n141 : 0 ≤ (S 53 ((10 : Int32) + x3).toNatClampNeg).toInt ∧ (S 53 ((10 : Int32) + x3).toNatClampNeg).toInt ≤ 5 := hS 53 (((10 : Int32) + x3).toNatClampNeg)
        refine D_ite (fun c140 => ?_) (fun c140 => ?_)
        · have kc140 := tq_eq (x := (S 53 ((10 : Int32) + x3).toNatClampNeg)) (y := (1 : Int32)) rfl (b := 1) (by decide) c140
          have l1 : (1 : Int32).toInt = 1 := by decide
          have l2 : (2 : Int32).toInt = 2 := by decide
          refine D_bd (t_X8_takes2 S (1 : Int32) x3 (2 : Int32) hS dgI ⟨(by clear hx2 hx3 hN102 hN n95 n96 n97 kc98 n138 kc137 n139 n141 kc140; omega), (by clear hx2 hx3 hN102 hN n95 n96 n97 kc98 n138 kc137 n139 n141 kc140; omega)⟩ ⟨(by clear hx2 hN102 hN n96 n97 n138 kc137 n141 kc140; omega), (by clear hx2 hN102 hN n96 n97 n138 kc137 n141 kc140; omega)⟩ ⟨(by clear hx2 hx3 hN102 hN n95 n96 n97 kc98 n138 kc137 n139 n141 kc140; omega), (by clear hx2 hx3 hN102 hN n95 n96 n97 kc98 n138 kc137 n139 n141 kc140; omega)⟩ (ly_of (x1 := 1) dgI (by decide) ⟨(by clear hx2 hN102 hN n96 n97 n138 kc137 n141 kc140; omega), (by clear hx2 hN102 hN n96 n97 n138 kc137 n141 kc140; omega)⟩ (by rw [show ((10 : Int32) * 1) = 10 from by decide]; assumption)) (by first | assumption | exact (by clear hx2 hx3 hN102 hN n95 n96 n97 kc98 n138 kc137 n139 n141 kc140; omega))) (fun S_142 eq144 hq143 => ?_)
          obtain ⟨p145, p146, p147, p148⟩ : (iR BM S_142) ∧ (gI 1 S_142) ∧ (aG 1 S S_142) ∧ (S_142 62 1 = (S 62 1)) := hq143
          have k149 : aG 1 zaG S_142 := aG_tr daG p147
          have n150 : (S_142 0 12).toInt = (S 0 12).toInt := congrArg Int32.toInt (p147 0 _ rfl)
          have n151 : (S_142 0 13).toInt = (S 0 13).toInt := congrArg Int32.toInt (p147 0 _ rfl)
          have n152 : (S_142 0 14).toInt = (S 0 14).toInt := congrArg Int32.toInt (p147 0 _ rfl)
          have kpI_t153 : pI S_142 := (pI_aG dpI p147)
          have kg0_t154 : gI 0 S_142 := (gI0_G1 hS dg0 p147)
          have n156 : (x3 + 1).toInt = x3.toInt + 1 := i_addK rfl (by decide) (by clear hx2 hN102 hN n96 n97 n138 kc137 n141 kc140 n150 n151; omega) (by clear hx2 hN102 hN n96 n97 n138 kc137 n141 kc140 n150 n151; omega)
          refine D_lt (fun y155 ey155 => ?_)
          have hy155 : y155.toInt = (x3 + 1 : Int32).toInt := by rw [ey155]
          exact hk102 y155 S_142 k149 kpI_t153 kg0_t154 p146 p145 ⟨(by clear hx2 hN102 hN n96 n97 n138 kc137 n141 kc140 n150 n151; omega), (by clear hx2 hN102 hN n96 n97 n138 kc137 n141 kc140 n150 n151; omega)⟩ (by clear hx2 n96 n97 n138 kc137 n141 kc140 n150 n151; omega)
        · skip
          have n158 : (x3 + 1).toInt = x3.toInt + 1 := i_addK rfl (by decide) (by clear hx2 hN102 hN n96 n97 n138 kc137 n141; omega) (by clear hx2 hN102 hN n96 n97 n138 kc137 n141; omega)
          refine D_lt (fun y157 ey157 => ?_)
          have hy157 : y157.toInt = (x3 + 1 : Int32).toInt := by rw [ey157]
          exact hk102 y157 S daG dpI dg0 dgI hS ⟨(by clear hx2 hN102 hN n96 n97 n138 kc137 n141; omega), (by clear hx2 hN102 hN n96 n97 n138 kc137 n141; omega)⟩ (by clear hx2 n96 n97 n138 kc137 n141; omega)
      · skip
        have n160 : (x3 + 1).toInt = x3.toInt + 1 := i_addK rfl (by decide) (by clear hx2 hN102 hN n96 n97 n138; omega) (by clear hx2 hN102 hN n96 n97 n138; omega)
        refine D_lt (fun y159 ey159 => ?_)
        have hy159 : y159.toInt = (x3 + 1 : Int32).toInt := by rw [ey159]
        exact hk102 y159 S daG dpI dg0 dgI hS ⟨(by clear hx2 hN102 hN n96 n97 n138; omega), (by clear hx2 hN102 hN n96 n97 n138; omega)⟩ (by clear hx2 n96 n97 n138; omega)
set_option maxHeartbeats 1000000 in
set_option maxRecDepth 100000 in
theorem t_X8_tried (S : Tr) (L : Lo) (x1 : Int32) (x2 : Int32) (hS : iR BM S) (dpI : pI S) (dg0 : gI 0 S) : D (f_X8_tried S L x1 x2) (fun (q : Int32 × Tr × Lo) => (iR BM (q.2.1)) ∧ (aG 1 S (q.2.1)) ∧ (pI (q.2.1)) ∧ (gI 0 (q.2.1))) := by
  unfold f_X8_tried
  refine D_lt (fun S_1 eS_1 => ?_)
  have hS_1 : iR BM S_1 := by rw [eS_1]; exact iR_setU hS rfl
  have kaG_t2 : aG 1 S S_1 := (by rw [eS_1]; exact aG_set aG_rfl (Wb_t rfl))
  have kpI_t3 : pI S_1 := by rw [eS_1]; exact dpI
  have kg0_t4 : gI 0 S_1 := by rw [eS_1]; exact dg0
  have l0 : (0 : Int32).toInt = 0 := by decide
  have n6 : (S_1 0 2).toInt = (0 : Int32).toInt := by rw [eS_1]; rfl
  have n7 := i_rng x1
  have l4 : (4 : Int32).toInt = 4 := by decide
  refine D_bd (t_X8_isIn x1 (0 : Int32) (4 : Int32) ) (fun r8 eq10 hq9 => ?_)
  obtain ⟨p11, p12⟩ : (0 ≤ r8.toInt ∧ r8.toInt ≤ 1) ∧ (r8.toInt = 1 → (0 : Int32).toInt ≤ x1.toInt ∧ x1.toInt ≤ (4 : Int32).toInt) := hq9
  refine D_ite (fun c13 => ?_) (fun c13 => ?_)
  · have kc13 := tq_eq (x := r8) (y := (0 : Int32)) rfl (b := 0) (by decide) c13
    have lm1 : ((-1) : Int32).toInt = (-1) := by decide
    exact D_some (show (iR BM S_1) ∧ (aG 1 S S_1) ∧ (pI S_1) ∧ (gI 0 S_1) from ⟨hS_1, kaG_t2, kpI_t3, kg0_t4⟩)
  · have kc130 := tq_eqn (x := r8) (y := (0 : Int32)) rfl (b := 0) (by decide) c13
    have kc13 : 1 ≤ r8.toInt := (by omega)
    clear kc130
    refine D_ite (fun c14 => ?_) (fun c14 => ?_)
    · have kc14 := tq_eq (x := x1) (y := (2 : Int32)) rfl (b := 2) (by decide) c14
      have n15 := i_rng x2
      refine D_bd (t_X8_isPerson S_1 x2 hS_1) (fun r16 eq18 hq17 => ?_)
      obtain ⟨p19, p20⟩ : (0 ≤ r16.toInt ∧ r16.toInt ≤ 1) ∧ (r16.toInt = 1 → 0 ≤ x2.toInt ∧ x2.toInt < (S_1 0 13).toInt) := hq17
      have n21 : 0 ≤ (S_1 0 14).toInt ∧ (S_1 0 14).toInt ≤ 10 := hS_1 0 14
      have n22 : 0 ≤ (S_1 0 13).toInt ∧ (S_1 0 13).toInt ≤ 6 := hS_1 0 13
      have n23 : 0 ≤ (S_1 0 12).toInt ∧ (S_1 0 12).toInt ≤ 5 := hS_1 0 12
      refine D_ite (fun c24 => ?_) (fun c24 => ?_)
      · have kc24 := tq_eq (x := r16) (y := (0 : Int32)) rfl (b := 0) (by decide) c24
        have lm1 : ((-1) : Int32).toInt = (-1) := by decide
        exact D_some (show (iR BM S_1) ∧ (aG 1 S S_1) ∧ (pI S_1) ∧ (gI 0 S_1) from ⟨hS_1, kaG_t2, kpI_t3, kg0_t4⟩)
      · have kc240 := tq_eqn (x := r16) (y := (0 : Int32)) rfl (b := 0) (by decide) c24
        have kc24 : 1 ≤ r16.toInt := (by clear n6 n7 p11 p12 kc13 kc14 n21 n23; omega)
        clear kc240
        unfold fJ_X8_tried_J36
        refine D_bd (t_X8_layTried S_1 hS_1 kg0_t4 kpI_t3) (fun S_25 eq27 hq26 => ?_)
        obtain ⟨p28, p29, p30, p31, p32, p33⟩ : (iR BM S_25) ∧ (aG 1 S_1 S_25) ∧ (gI 1 S_25) ∧ (pI S_25) ∧ (S_25 62 1 = S_1 62 0) ∧ (S_25 61 1 = S_1 61 0) := hq26
        have k34 : aG 1 S S_25 := aG_tr kaG_t2 p29
        have n35 : (S_25 0 12).toInt = (S_1 0 12).toInt := congrArg Int32.toInt (p29 0 _ rfl)
        have n36 : (S_25 0 13).toInt = (S_1 0 13).toInt := congrArg Int32.toInt (p29 0 _ rfl)
        have n37 : (S_25 0 14).toInt = (S_1 0 14).toInt := congrArg Int32.toInt (p29 0 _ rfl)
        have kpI_t38 : pI S_25 := (pI_aG kpI_t3 p29)
        have kg0_t39 : gI 0 S_25 := (gI0_G1 hS_1 kg0_t4 p29)
        have kgI_t40 : gI 1 S_25 := p30
        have n41 : 0 ≤ (S_25 62 1).toInt ∧ (S_25 62 1).toInt ≤ 21 := p28 62 1
        have n42 : 0 ≤ (S_1 62 0).toInt ∧ (S_1 62 0).toInt ≤ 21 := hS_1 62 0
        have kz43 : (S_25 62 1).toInt = (S_1 62 0).toInt := congrArg Int32.toInt p32
        refine D_ite (fun c44 => ?_) (fun c44 => ?_)
        · have kc44 := tq_eq (x := x1) (y := (0 : Int32)) rfl (b := 0) (by decide) c44
          exfalso
          exact (by clear n6 n15 p19 p20 n21 n22 n23 kc24 n35 n36 n37 n41 n42 kz43; omega)
        · skip
          unfold fJ_X8_tried_J50
          refine D_ck (okB_01 (by clear n6 n7 p11 p12 kc13 kc14 n15 p19 p20 n21 n22 n23 kc24 n35 n36 n37 n41 n42 kz43; omega)) ?_
          refine D_lt (fun S_45 eS_45 => ?_)
          have hS_45 : iR BM S_45 := by rw [eS_45]; exact iR_set p28 (show (0 : Int) ≤ _ from (by clear n6 n7 p11 p12 kc13 kc14 n15 p19 p20 n21 n22 n23 kc24 n35 n36 n37 n41 n42 kz43; omega)) (show _ ≤ (1 : Int) from (by clear n6 n7 p11 p12 kc13 kc14 n15 p19 p20 n21 n22 n23 kc24 n35 n36 n37 n41 n42 kz43; omega))
          have kaG_t46 : aG 1 S S_45 := (by rw [eS_45]; exact aG_set k34 (Wb_t rfl))
          have kpI_t47 : pI S_45 := by rw [eS_45]; exact kpI_t38
          have kg0_t48 : gI 0 S_45 := by rw [eS_45]; exact kg0_t39
          have kgI_t49 : gI 1 S_45 := by rw [eS_45]; exact kgI_t40
          have n50 : (S_45 0 12).toInt = (S_25 0 12).toInt := by rw [eS_45]; rfl
          have n51 : (S_45 62 1).toInt = (S_25 62 1).toInt := by rw [eS_45]; rfl
          have n52 : (S_45 0 13).toInt = (S_25 0 13).toInt := by rw [eS_45]; rfl
          have n53 : (S_45 0 14).toInt = (S_25 0 14).toInt := by rw [eS_45]; rfl
          have n54 : (S_45 0 66).toInt = (0 : Int32).toInt := by rw [eS_45]; rfl
          refine D_ite (fun c55 => ?_) (fun c55 => ?_)
          · have kc55 := tq_eq (x := x1) (y := (1 : Int32)) rfl (b := 1) (by decide) c55
            exfalso
            exact (by clear n6 n15 p19 p20 n21 n22 n23 kc24 n35 n36 n37 n41 n42 kz43 n50 n51 n52 n53 n54; omega)
          · skip
            unfold fJ_X8_tried_J64
            refine D_ck (okB_01 (by clear n6 n7 p11 p12 kc13 kc14 n15 p19 p20 n21 n22 n23 kc24 n35 n36 n37 n41 n42 kz43 n50 n51 n52 n53 n54; omega)) ?_
            refine D_lt (fun S_56 eS_56 => ?_)
            have hS_56 : iR BM S_56 := by rw [eS_56]; exact iR_set hS_45 (show (0 : Int) ≤ _ from (by clear n6 n7 p11 p12 kc13 kc14 n15 p19 p20 n21 n22 n23 kc24 n35 n36 n37 n41 n42 kz43 n50 n51 n52 n53 n54; omega)) (show _ ≤ (1 : Int) from (by clear n6 n7 p11 p12 kc13 kc14 n15 p19 p20 n21 n22 n23 kc24 n35 n36 n37 n41 n42 kz43 n50 n51 n52 n53 n54; omega))
            have kaG_t57 : aG 1 S S_56 := (by rw [eS_56]; exact aG_set kaG_t46 (Wb_t rfl))
            have kpI_t58 : pI S_56 := by rw [eS_56]; exact kpI_t47
            have kg0_t59 : gI 0 S_56 := by rw [eS_56]; exact kg0_t48
            have kgI_t60 : gI 1 S_56 := by rw [eS_56]; exact kgI_t49
            have n61 : (S_56 62 1).toInt = (S_45 62 1).toInt := by rw [eS_56]; rfl
            have n62 : (S_56 0 12).toInt = (S_45 0 12).toInt := by rw [eS_56]; rfl
            have n63 : (S_56 0 14).toInt = (S_45 0 14).toInt := by rw [eS_56]; rfl
            have n64 : (S_56 0 66).toInt = (S_45 0 66).toInt := by rw [eS_56]; rfl
            have n65 : (S_56 0 13).toInt = (S_45 0 13).toInt := by rw [eS_56]; rfl
            have n66 : (S_56 0 67).toInt = (0 : Int32).toInt := by rw [eS_56]; rfl
            refine D_ite (fun c67 => ?_) (fun c67 => ?_)
            · have kc67 := tq_eq (x := x1) (y := (3 : Int32)) rfl (b := 3) (by decide) c67
              exfalso
              exact (by clear n6 n15 p19 p20 n21 n22 n23 kc24 n35 n36 n37 n41 n42 kz43 n50 n51 n52 n53 n54 n61 n62 n63 n64 n65 n66; omega)
            · skip
              unfold fJ_X8_tried_J78
              refine D_ck (okB_01 (by clear n6 n7 p11 p12 kc13 kc14 n15 p19 p20 n21 n22 n23 kc24 n35 n36 n37 n41 n42 kz43 n50 n51 n52 n53 n54 n61 n62 n63 n64 n65 n66; omega)) ?_
              refine D_lt (fun S_68 eS_68 => ?_)
              have hS_68 : iR BM S_68 := by rw [eS_68]; exact iR_set hS_56 (show (0 : Int) ≤ _ from (by clear n6 n7 p11 p12 kc13 kc14 n15 p19 p20 n21 n22 n23 kc24 n35 n36 n37 n41 n42 kz43 n50 n51 n52 n53 n54 n61 n62 n63 n64 n65 n66; omega)) (show _ ≤ (1 : Int) from (by clear n6 n7 p11 p12 kc13 kc14 n15 p19 p20 n21 n22 n23 kc24 n35 n36 n37 n41 n42 kz43 n50 n51 n52 n53 n54 n61 n62 n63 n64 n65 n66; omega))
              have kaG_t69 : aG 1 S S_68 := (by rw [eS_68]; exact aG_set kaG_t57 (Wb_t rfl))
              have kpI_t70 : pI S_68 := by rw [eS_68]; exact kpI_t58
              have kg0_t71 : gI 0 S_68 := by rw [eS_68]; exact kg0_t59
              have kgI_t72 : gI 1 S_68 := by rw [eS_68]; exact kgI_t60
              have n73 : (S_68 62 1).toInt = (S_56 62 1).toInt := by rw [eS_68]; rfl
              have n74 : (S_68 0 67).toInt = (S_56 0 67).toInt := by rw [eS_68]; rfl
              have n75 : (S_68 0 13).toInt = (S_56 0 13).toInt := by rw [eS_68]; rfl
              have n76 : (S_68 0 66).toInt = (S_56 0 66).toInt := by rw [eS_68]; rfl
              have n77 : (S_68 0 14).toInt = (S_56 0 14).toInt := by rw [eS_68]; rfl
              have n78 : (S_68 0 12).toInt = (S_56 0 12).toInt := by rw [eS_68]; rfl
              have n79 : (S_68 0 69).toInt = (0 : Int32).toInt := by rw [eS_68]; rfl
              refine D_ite (fun c80 => ?_) (fun c80 => ?_)
              · have kc80 := tq_eq (x := x1) (y := (4 : Int32)) rfl (b := 4) (by decide) c80
                exfalso
                exact (by clear n6 n15 p19 p20 n21 n22 n23 kc24 n35 n36 n37 n41 n42 kz43 n50 n51 n52 n53 n54 n61 n62 n63 n64 n65 n66 n73 n74 n75 n76 n77 n78 n79; omega)
              · skip
                unfold fJ_X8_tried_J92
                refine D_ck (okB_01 (by clear n6 n7 p11 p12 kc13 kc14 n15 p19 p20 n21 n22 n23 kc24 n35 n36 n37 n41 n42 kz43 n50 n51 n52 n53 n54 n61 n62 n63 n64 n65 n66 n73 n74 n75 n76 n77 n78 n79; omega)) ?_
                refine D_lt (fun S_81 eS_81 => ?_)
                have hS_81 : iR BM S_81 := by rw [eS_81]; exact iR_set hS_68 (show (0 : Int) ≤ _ from (by clear n6 n7 p11 p12 kc13 kc14 n15 p19 p20 n21 n22 n23 kc24 n35 n36 n37 n41 n42 kz43 n50 n51 n52 n53 n54 n61 n62 n63 n64 n65 n66 n73 n74 n75 n76 n77 n78 n79; omega)) (show _ ≤ (1 : Int) from (by clear n6 n7 p11 p12 kc13 kc14 n15 p19 p20 n21 n22 n23 kc24 n35 n36 n37 n41 n42 kz43 n50 n51 n52 n53 n54 n61 n62 n63 n64 n65 n66 n73 n74 n75 n76 n77 n78 n79; omega))
                have kaG_t82 : aG 1 S S_81 := (by rw [eS_81]; exact aG_set kaG_t69 (Wb_t rfl))
                have kpI_t83 : pI S_81 := by rw [eS_81]; exact kpI_t70
                have kg0_t84 : gI 0 S_81 := by rw [eS_81]; exact kg0_t71
                have kgI_t85 : gI 1 S_81 := by rw [eS_81]; exact kgI_t72
                have n86 : (S_81 0 69).toInt = (S_68 0 69).toInt := by rw [eS_81]; rfl
                have n87 : (S_81 0 12).toInt = (S_68 0 12).toInt := by rw [eS_81]; rfl
                have n88 : (S_81 0 14).toInt = (S_68 0 14).toInt := by rw [eS_81]; rfl
                have n89 : (S_81 0 66).toInt = (S_68 0 66).toInt := by rw [eS_81]; rfl
                have n90 : (S_81 0 13).toInt = (S_68 0 13).toInt := by rw [eS_81]; rfl
                have n91 : (S_81 62 1).toInt = (S_68 62 1).toInt := by rw [eS_81]; rfl
                have n92 : (S_81 0 67).toInt = (S_68 0 67).toInt := by rw [eS_81]; rfl
                have n93 : (S_81 0 68).toInt = (0 : Int32).toInt := by rw [eS_81]; rfl
                refine D_ite (fun c94 => ?_) (fun c94 => ?_)
                · have kc94 := tq_eq (x := x1) (y := (2 : Int32)) rfl (b := 2) (by decide) c94
                  exact tl_X8_tried_L102 S L x2 ⟨(by clear n6 n7 p11 p12 kc13 kc14 n21 n23 n35 n37 n41 n42 kz43 n50 n51 n53 n54 n61 n62 n63 n64 n66 n73 n74 n76 n77 n78 n79 n86 n87 n88 n89 n91 n92 n93 kc94; omega), (by clear n6 n7 p11 p12 kc13 kc14 n21 n23 n35 n37 n41 n42 kz43 n50 n51 n53 n54 n61 n62 n63 n64 n66 n73 n74 n76 n77 n78 n79 n86 n87 n88 n89 n91 n92 n93 kc94; omega)⟩   2000 (0 : Int32) S_81 kaG_t82 kpI_t83 kg0_t84 kgI_t85 hS_81 ⟨(by clear n6 n7 p11 p12 kc13 kc14 n15 p19 p20 n21 n22 n23 kc24 n35 n36 n37 n41 n42 kz43 n50 n51 n52 n53 n54 n61 n62 n63 n64 n65 n66 n73 n74 n75 n76 n77 n78 n79 n86 n87 n88 n89 n90 n91 n92 n93 kc94; omega), (by clear n6 n7 p11 p12 kc13 kc14 n15 p19 p20 n21 n22 n23 kc24 n35 n36 n37 n41 n42 kz43 n50 n51 n52 n53 n54 n61 n62 n63 n64 n65 n66 n73 n74 n75 n76 n77 n78 n79 n86 n87 n88 n89 n90 n91 n92 n93 kc94; omega)⟩ (by clear n6 n7 p11 p12 kc13 kc14 n15 p19 p20 n21 n22 n23 kc24 n35 n36 n37 n41 n42 kz43 n50 n51 n52 n53 n54 n61 n62 n63 n64 n65 n66 n73 n74 n75 n76 n77 n78 n79 n86 n87 n88 n89 n90 n91 n92 n93 kc94; omega)
                · have kc940 := tq_eqn (x := x1) (y := (2 : Int32)) rfl (b := 2) (by decide) c94
                  have kc94 : 3 ≤ x1.toInt := (by clear n6 n15 p19 p20 n21 n22 n23 kc24 n35 n36 n37 n41 n42 kz43 n50 n51 n52 n53 n54 n61 n62 n63 n64 n65 n66 n73 n74 n75 n76 n77 n78 n79 n86 n87 n88 n89 n90 n91 n92 n93; omega)
                  clear kc940
                  exfalso
                  exact (by clear n6 n15 p19 p20 n21 n22 n23 kc24 n35 n36 n37 n41 n42 kz43 n50 n51 n52 n53 n54 n61 n62 n63 n64 n65 n66 n73 n74 n75 n76 n77 n78 n79 n86 n87 n88 n89 n90 n91 n92 n93; omega)
    · skip
      have n162 := i_rng x2
      refine D_ite (fun c161 => ?_) (fun c161 => ?_)
      · have kc161 := tq_eq (x := x2) (y := (0 : Int32)) rfl (b := 0) (by decide) c161
        unfold fJ_X8_tried_J36
        refine D_bd (t_X8_layTried S_1 hS_1 kg0_t4 kpI_t3) (fun S_163 eq165 hq164 => ?_)
        obtain ⟨p166, p167, p168, p169, p170, p171⟩ : (iR BM S_163) ∧ (aG 1 S_1 S_163) ∧ (gI 1 S_163) ∧ (pI S_163) ∧ (S_163 62 1 = S_1 62 0) ∧ (S_163 61 1 = S_1 61 0) := hq164
        have k172 : aG 1 S S_163 := aG_tr kaG_t2 p167
        have kpI_t173 : pI S_163 := (pI_aG kpI_t3 p167)
        have kg0_t174 : gI 0 S_163 := (gI0_G1 hS_1 kg0_t4 p167)
        have kgI_t175 : gI 1 S_163 := p168
        have n176 : 0 ≤ (S_163 62 1).toInt ∧ (S_163 62 1).toInt ≤ 21 := p166 62 1
        have n177 : 0 ≤ (S_1 62 0).toInt ∧ (S_1 62 0).toInt ≤ 21 := hS_1 62 0
        have kz178 : (S_163 62 1).toInt = (S_1 62 0).toInt := congrArg Int32.toInt p170
        refine D_ite (fun c179 => ?_) (fun c179 => ?_)
        · have kc179 := tq_eq (x := x1) (y := (0 : Int32)) rfl (b := 0) (by decide) c179
          unfold fJ_X8_tried_J50
          have l1 : (1 : Int32).toInt = 1 := by decide
          refine D_ck (okB_01 (by clear n6 n7 p11 p12 kc13 n162 kc161 n176 n177 kz178 kc179; omega)) ?_
          refine D_lt (fun S_180 eS_180 => ?_)
          have hS_180 : iR BM S_180 := by rw [eS_180]; exact iR_set p166 (show (0 : Int) ≤ _ from (by clear n6 n7 p11 p12 kc13 n162 kc161 n176 n177 kz178 kc179; omega)) (show _ ≤ (1 : Int) from (by clear n6 n7 p11 p12 kc13 n162 kc161 n176 n177 kz178 kc179; omega))
          have kaG_t181 : aG 1 S S_180 := (by rw [eS_180]; exact aG_set k172 (Wb_t rfl))
          have kpI_t182 : pI S_180 := by rw [eS_180]; exact kpI_t173
          have kg0_t183 : gI 0 S_180 := by rw [eS_180]; exact kg0_t174
          have kgI_t184 : gI 1 S_180 := by rw [eS_180]; exact kgI_t175
          have n185 : (S_180 62 1).toInt = (S_163 62 1).toInt := by rw [eS_180]; rfl
          have n186 : (S_180 0 66).toInt = (1 : Int32).toInt := by rw [eS_180]; rfl
          refine D_ite (fun c187 => ?_) (fun c187 => ?_)
          · have kc187 := tq_eq (x := x1) (y := (1 : Int32)) rfl (b := 1) (by decide) c187
            exfalso
            exact (by clear n6 n162 kc161 n176 n177 kz178 n185 n186; omega)
          · skip
            unfold fJ_X8_tried_J64
            refine D_ck (okB_01 (by clear n6 n7 p11 p12 kc13 n162 kc161 n176 n177 kz178 kc179 n185 n186; omega)) ?_
            refine D_lt (fun S_188 eS_188 => ?_)
            have hS_188 : iR BM S_188 := by rw [eS_188]; exact iR_set hS_180 (show (0 : Int) ≤ _ from (by clear n6 n7 p11 p12 kc13 n162 kc161 n176 n177 kz178 kc179 n185 n186; omega)) (show _ ≤ (1 : Int) from (by clear n6 n7 p11 p12 kc13 n162 kc161 n176 n177 kz178 kc179 n185 n186; omega))
            have kaG_t189 : aG 1 S S_188 := (by rw [eS_188]; exact aG_set kaG_t181 (Wb_t rfl))
            have kpI_t190 : pI S_188 := by rw [eS_188]; exact kpI_t182
            have kg0_t191 : gI 0 S_188 := by rw [eS_188]; exact kg0_t183
            have kgI_t192 : gI 1 S_188 := by rw [eS_188]; exact kgI_t184
            have n193 : (S_188 0 66).toInt = (S_180 0 66).toInt := by rw [eS_188]; rfl
            have n194 : (S_188 62 1).toInt = (S_180 62 1).toInt := by rw [eS_188]; rfl
            have n195 : (S_188 0 67).toInt = (0 : Int32).toInt := by rw [eS_188]; rfl
            refine D_ite (fun c196 => ?_) (fun c196 => ?_)
            · have kc196 := tq_eq (x := x1) (y := (3 : Int32)) rfl (b := 3) (by decide) c196
              exfalso
              exact (by clear n6 n162 kc161 n176 n177 kz178 n185 n186 n193 n194 n195; omega)
            · skip
              unfold fJ_X8_tried_J78
              refine D_ck (okB_01 (by clear n6 n7 p11 p12 kc13 n162 kc161 n176 n177 kz178 kc179 n185 n186 n193 n194 n195; omega)) ?_
              refine D_lt (fun S_197 eS_197 => ?_)
              have hS_197 : iR BM S_197 := by rw [eS_197]; exact iR_set hS_188 (show (0 : Int) ≤ _ from (by clear n6 n7 p11 p12 kc13 n162 kc161 n176 n177 kz178 kc179 n185 n186 n193 n194 n195; omega)) (show _ ≤ (1 : Int) from (by clear n6 n7 p11 p12 kc13 n162 kc161 n176 n177 kz178 kc179 n185 n186 n193 n194 n195; omega))
              have kaG_t198 : aG 1 S S_197 := (by rw [eS_197]; exact aG_set kaG_t189 (Wb_t rfl))
              have kpI_t199 : pI S_197 := by rw [eS_197]; exact kpI_t190
              have kg0_t200 : gI 0 S_197 := by rw [eS_197]; exact kg0_t191
              have kgI_t201 : gI 1 S_197 := by rw [eS_197]; exact kgI_t192
              have n202 : (S_197 0 66).toInt = (S_188 0 66).toInt := by rw [eS_197]; rfl
              have n203 : (S_197 62 1).toInt = (S_188 62 1).toInt := by rw [eS_197]; rfl
              have n204 : (S_197 0 67).toInt = (S_188 0 67).toInt := by rw [eS_197]; rfl
              have n205 : (S_197 0 69).toInt = (0 : Int32).toInt := by rw [eS_197]; rfl
              refine D_ite (fun c206 => ?_) (fun c206 => ?_)
              · have kc206 := tq_eq (x := x1) (y := (4 : Int32)) rfl (b := 4) (by decide) c206
                exfalso
                exact (by clear n6 n162 kc161 n176 n177 kz178 n185 n186 n193 n194 n195 n202 n203 n204 n205; omega)
              · skip
                unfold fJ_X8_tried_J92
                refine D_ck (okB_01 (by clear n6 n7 p11 p12 kc13 n162 kc161 n176 n177 kz178 kc179 n185 n186 n193 n194 n195 n202 n203 n204 n205; omega)) ?_
                refine D_lt (fun S_207 eS_207 => ?_)
                have hS_207 : iR BM S_207 := by rw [eS_207]; exact iR_set hS_197 (show (0 : Int) ≤ _ from (by clear n6 n7 p11 p12 kc13 n162 kc161 n176 n177 kz178 kc179 n185 n186 n193 n194 n195 n202 n203 n204 n205; omega)) (show _ ≤ (1 : Int) from (by clear n6 n7 p11 p12 kc13 n162 kc161 n176 n177 kz178 kc179 n185 n186 n193 n194 n195 n202 n203 n204 n205; omega))
                have kaG_t208 : aG 1 S S_207 := (by rw [eS_207]; exact aG_set kaG_t198 (Wb_t rfl))
                have kpI_t209 : pI S_207 := by rw [eS_207]; exact kpI_t199
                have kg0_t210 : gI 0 S_207 := by rw [eS_207]; exact kg0_t200
                have kgI_t211 : gI 1 S_207 := by rw [eS_207]; exact kgI_t201
                have n212 : (S_207 62 1).toInt = (S_197 62 1).toInt := by rw [eS_207]; rfl
                have n213 : (S_207 0 66).toInt = (S_197 0 66).toInt := by rw [eS_207]; rfl
                have n214 : (S_207 0 69).toInt = (S_197 0 69).toInt := by rw [eS_207]; rfl
                have n215 : (S_207 0 67).toInt = (S_197 0 67).toInt := by rw [eS_207]; rfl
                have n216 : (S_207 0 68).toInt = (0 : Int32).toInt := by rw [eS_207]; rfl
                refine D_ite (fun c217 => ?_) (fun c217 => ?_)
                · have kc217 := tq_eq (x := x1) (y := (2 : Int32)) rfl (b := 2) (by decide) c217
                  exfalso
                  exact (by clear n6 n162 kc161 n176 n177 kz178 n185 n186 n193 n194 n195 n202 n203 n204 n205 n212 n213 n214 n215 n216; omega)
                · skip
                  unfold fJ_X8_tried_J156
                  refine D_bd2 (t_X8_toEnd S_207 L hS_207 kpI_t209 kgI_t211) (fun S_218 L_219 eq221 hq220 => ?_)
                  refine D_lte (y := S_218) rfl ?_
                  refine D_lte (y := L_219) rfl ?_
                  obtain ⟨p222, p223, p224, p225⟩ : (iR BM S_218) ∧ (aG 1 S_207 S_218) ∧ (pI S_218) ∧ (gI 1 S_218) := hq220
                  have k226 : aG 1 S S_218 := aG_tr kaG_t208 p223
                  have kg0_t227 : gI 0 S_218 := (gI0_G1 hS_207 kg0_t210 p223)
                  refine D_bd (t_X8_plainTried S_218 p222) (fun S_228 eq230 hq229 => ?_)
                  obtain ⟨p231, p232⟩ : (iR BM S_228) ∧ (aT S_218 S_228) := hq229
                  have k233 : aG 1 S S_228 := aG_tr k226 (aT_G p232)
                  have kpI_t234 : pI S_228 := (pI_aT p224 p232)
                  have kg0_t235 : gI 0 S_228 := (gI_aT kg0_t227 p232)
                  have kgI_t236 : gI 1 S_228 := (gI_aT p225 p232)
                  refine D_bd (t_X8_more S_228 p231) (fun r237 eq239 hq238 => ?_)
                  have n240 := i_rng r237
                  exact D_some (show (iR BM S_228) ∧ (aG 1 S S_228) ∧ (pI S_228) ∧ (gI 0 S_228) from ⟨p231, k233, kpI_t234, kg0_t235⟩)
        · skip
          unfold fJ_X8_tried_J50
          refine D_ck (okB_01 (by clear n6 n7 p11 p12 kc13 n162 kc161 n176 n177 kz178; omega)) ?_
          refine D_lt (fun S_241 eS_241 => ?_)
          have hS_241 : iR BM S_241 := by rw [eS_241]; exact iR_set p166 (show (0 : Int) ≤ _ from (by clear n6 n7 p11 p12 kc13 n162 kc161 n176 n177 kz178; omega)) (show _ ≤ (1 : Int) from (by clear n6 n7 p11 p12 kc13 n162 kc161 n176 n177 kz178; omega))
          have kaG_t242 : aG 1 S S_241 := (by rw [eS_241]; exact aG_set k172 (Wb_t rfl))
          have kpI_t243 : pI S_241 := by rw [eS_241]; exact kpI_t173
          have kg0_t244 : gI 0 S_241 := by rw [eS_241]; exact kg0_t174
          have kgI_t245 : gI 1 S_241 := by rw [eS_241]; exact kgI_t175
          have n246 : (S_241 62 1).toInt = (S_163 62 1).toInt := by rw [eS_241]; rfl
          have n247 : (S_241 0 66).toInt = (0 : Int32).toInt := by rw [eS_241]; rfl
          refine D_ite (fun c248 => ?_) (fun c248 => ?_)
          · have kc248 := tq_eq (x := x1) (y := (1 : Int32)) rfl (b := 1) (by decide) c248
            unfold fJ_X8_tried_J64
            have l1 : (1 : Int32).toInt = 1 := by decide
            refine D_ck (okB_01 (by clear n6 n7 p11 p12 kc13 n162 kc161 n176 n177 kz178 n246 n247 kc248; omega)) ?_
            refine D_lt (fun S_249 eS_249 => ?_)
            have hS_249 : iR BM S_249 := by rw [eS_249]; exact iR_set hS_241 (show (0 : Int) ≤ _ from (by clear n6 n7 p11 p12 kc13 n162 kc161 n176 n177 kz178 n246 n247 kc248; omega)) (show _ ≤ (1 : Int) from (by clear n6 n7 p11 p12 kc13 n162 kc161 n176 n177 kz178 n246 n247 kc248; omega))
            have kaG_t250 : aG 1 S S_249 := (by rw [eS_249]; exact aG_set kaG_t242 (Wb_t rfl))
            have kpI_t251 : pI S_249 := by rw [eS_249]; exact kpI_t243
            have kg0_t252 : gI 0 S_249 := by rw [eS_249]; exact kg0_t244
            have kgI_t253 : gI 1 S_249 := by rw [eS_249]; exact kgI_t245
            have n254 : (S_249 0 66).toInt = (S_241 0 66).toInt := by rw [eS_249]; rfl
            have n255 : (S_249 62 1).toInt = (S_241 62 1).toInt := by rw [eS_249]; rfl
            have n256 : (S_249 0 67).toInt = (1 : Int32).toInt := by rw [eS_249]; rfl
            refine D_ite (fun c257 => ?_) (fun c257 => ?_)
            · have kc257 := tq_eq (x := x1) (y := (3 : Int32)) rfl (b := 3) (by decide) c257
              exfalso
              exact (by clear n6 n162 kc161 n176 n177 kz178 n246 n247 n254 n255 n256; omega)
            · skip
              unfold fJ_X8_tried_J78
              refine D_ck (okB_01 (by clear n6 n7 p11 p12 kc13 n162 kc161 n176 n177 kz178 n246 n247 kc248 n254 n255 n256; omega)) ?_
              refine D_lt (fun S_258 eS_258 => ?_)
              have hS_258 : iR BM S_258 := by rw [eS_258]; exact iR_set hS_249 (show (0 : Int) ≤ _ from (by clear n6 n7 p11 p12 kc13 n162 kc161 n176 n177 kz178 n246 n247 kc248 n254 n255 n256; omega)) (show _ ≤ (1 : Int) from (by clear n6 n7 p11 p12 kc13 n162 kc161 n176 n177 kz178 n246 n247 kc248 n254 n255 n256; omega))
              have kaG_t259 : aG 1 S S_258 := (by rw [eS_258]; exact aG_set kaG_t250 (Wb_t rfl))
              have kpI_t260 : pI S_258 := by rw [eS_258]; exact kpI_t251
              have kg0_t261 : gI 0 S_258 := by rw [eS_258]; exact kg0_t252
              have kgI_t262 : gI 1 S_258 := by rw [eS_258]; exact kgI_t253
              have n263 : (S_258 0 66).toInt = (S_249 0 66).toInt := by rw [eS_258]; rfl
              have n264 : (S_258 62 1).toInt = (S_249 62 1).toInt := by rw [eS_258]; rfl
              have n265 : (S_258 0 67).toInt = (S_249 0 67).toInt := by rw [eS_258]; rfl
              have n266 : (S_258 0 69).toInt = (0 : Int32).toInt := by rw [eS_258]; rfl
              refine D_ite (fun c267 => ?_) (fun c267 => ?_)
              · have kc267 := tq_eq (x := x1) (y := (4 : Int32)) rfl (b := 4) (by decide) c267
                exfalso
                exact (by clear n6 n162 kc161 n176 n177 kz178 n246 n247 n254 n255 n256 n263 n264 n265 n266; omega)
              · skip
                unfold fJ_X8_tried_J92
                refine D_ck (okB_01 (by clear n6 n7 p11 p12 kc13 n162 kc161 n176 n177 kz178 n246 n247 kc248 n254 n255 n256 n263 n264 n265 n266; omega)) ?_
                refine D_lt (fun S_268 eS_268 => ?_)
                have hS_268 : iR BM S_268 := by rw [eS_268]; exact iR_set hS_258 (show (0 : Int) ≤ _ from (by clear n6 n7 p11 p12 kc13 n162 kc161 n176 n177 kz178 n246 n247 kc248 n254 n255 n256 n263 n264 n265 n266; omega)) (show _ ≤ (1 : Int) from (by clear n6 n7 p11 p12 kc13 n162 kc161 n176 n177 kz178 n246 n247 kc248 n254 n255 n256 n263 n264 n265 n266; omega))
                have kaG_t269 : aG 1 S S_268 := (by rw [eS_268]; exact aG_set kaG_t259 (Wb_t rfl))
                have kpI_t270 : pI S_268 := by rw [eS_268]; exact kpI_t260
                have kg0_t271 : gI 0 S_268 := by rw [eS_268]; exact kg0_t261
                have kgI_t272 : gI 1 S_268 := by rw [eS_268]; exact kgI_t262
                have n273 : (S_268 0 69).toInt = (S_258 0 69).toInt := by rw [eS_268]; rfl
                have n274 : (S_268 0 66).toInt = (S_258 0 66).toInt := by rw [eS_268]; rfl
                have n275 : (S_268 0 67).toInt = (S_258 0 67).toInt := by rw [eS_268]; rfl
                have n276 : (S_268 62 1).toInt = (S_258 62 1).toInt := by rw [eS_268]; rfl
                have n277 : (S_268 0 68).toInt = (0 : Int32).toInt := by rw [eS_268]; rfl
                refine D_ite (fun c278 => ?_) (fun c278 => ?_)
                · have kc278 := tq_eq (x := x1) (y := (2 : Int32)) rfl (b := 2) (by decide) c278
                  exfalso
                  exact (by clear n6 n162 kc161 n176 n177 kz178 n246 n247 n254 n255 n256 n263 n264 n265 n266 n273 n274 n275 n276 n277; omega)
                · skip
                  unfold fJ_X8_tried_J156
                  refine D_bd2 (t_X8_toEnd S_268 L hS_268 kpI_t270 kgI_t272) (fun S_279 L_280 eq282 hq281 => ?_)
                  refine D_lte (y := S_279) rfl ?_
                  refine D_lte (y := L_280) rfl ?_
                  obtain ⟨p283, p284, p285, p286⟩ : (iR BM S_279) ∧ (aG 1 S_268 S_279) ∧ (pI S_279) ∧ (gI 1 S_279) := hq281
                  have k287 : aG 1 S S_279 := aG_tr kaG_t269 p284
                  have kg0_t288 : gI 0 S_279 := (gI0_G1 hS_268 kg0_t271 p284)
                  refine D_bd (t_X8_plainTried S_279 p283) (fun S_289 eq291 hq290 => ?_)
                  obtain ⟨p292, p293⟩ : (iR BM S_289) ∧ (aT S_279 S_289) := hq290
                  have k294 : aG 1 S S_289 := aG_tr k287 (aT_G p293)
                  have kpI_t295 : pI S_289 := (pI_aT p285 p293)
                  have kg0_t296 : gI 0 S_289 := (gI_aT kg0_t288 p293)
                  have kgI_t297 : gI 1 S_289 := (gI_aT p286 p293)
                  refine D_bd (t_X8_more S_289 p292) (fun r298 eq300 hq299 => ?_)
                  have n301 := i_rng r298
                  exact D_some (show (iR BM S_289) ∧ (aG 1 S S_289) ∧ (pI S_289) ∧ (gI 0 S_289) from ⟨p292, k294, kpI_t295, kg0_t296⟩)
          · skip
            unfold fJ_X8_tried_J64
            refine D_ck (okB_01 (by clear n6 n7 p11 p12 kc13 n162 kc161 n176 n177 kz178 n246 n247; omega)) ?_
            refine D_lt (fun S_302 eS_302 => ?_)
            have hS_302 : iR BM S_302 := by rw [eS_302]; exact iR_set hS_241 (show (0 : Int) ≤ _ from (by clear n6 n7 p11 p12 kc13 n162 kc161 n176 n177 kz178 n246 n247; omega)) (show _ ≤ (1 : Int) from (by clear n6 n7 p11 p12 kc13 n162 kc161 n176 n177 kz178 n246 n247; omega))
            have kaG_t303 : aG 1 S S_302 := (by rw [eS_302]; exact aG_set kaG_t242 (Wb_t rfl))
            have kpI_t304 : pI S_302 := by rw [eS_302]; exact kpI_t243
            have kg0_t305 : gI 0 S_302 := by rw [eS_302]; exact kg0_t244
            have kgI_t306 : gI 1 S_302 := by rw [eS_302]; exact kgI_t245
            have n307 : (S_302 0 66).toInt = (S_241 0 66).toInt := by rw [eS_302]; rfl
            have n308 : (S_302 62 1).toInt = (S_241 62 1).toInt := by rw [eS_302]; rfl
            have n309 : (S_302 0 67).toInt = (0 : Int32).toInt := by rw [eS_302]; rfl
            refine D_ite (fun c310 => ?_) (fun c310 => ?_)
            · have kc310 := tq_eq (x := x1) (y := (3 : Int32)) rfl (b := 3) (by decide) c310
              unfold fJ_X8_tried_J78
              have l1 : (1 : Int32).toInt = 1 := by decide
              refine D_ck (okB_01 (by clear n6 n7 p11 p12 kc13 n162 kc161 n176 n177 kz178 n246 n247 n307 n308 n309 kc310; omega)) ?_
              refine D_lt (fun S_311 eS_311 => ?_)
              have hS_311 : iR BM S_311 := by rw [eS_311]; exact iR_set hS_302 (show (0 : Int) ≤ _ from (by clear n6 n7 p11 p12 kc13 n162 kc161 n176 n177 kz178 n246 n247 n307 n308 n309 kc310; omega)) (show _ ≤ (1 : Int) from (by clear n6 n7 p11 p12 kc13 n162 kc161 n176 n177 kz178 n246 n247 n307 n308 n309 kc310; omega))
              have kaG_t312 : aG 1 S S_311 := (by rw [eS_311]; exact aG_set kaG_t303 (Wb_t rfl))
              have kpI_t313 : pI S_311 := by rw [eS_311]; exact kpI_t304
              have kg0_t314 : gI 0 S_311 := by rw [eS_311]; exact kg0_t305
              have kgI_t315 : gI 1 S_311 := by rw [eS_311]; exact kgI_t306
              have n316 : (S_311 62 1).toInt = (S_302 62 1).toInt := by rw [eS_311]; rfl
              have n317 : (S_311 0 67).toInt = (S_302 0 67).toInt := by rw [eS_311]; rfl
              have n318 : (S_311 0 66).toInt = (S_302 0 66).toInt := by rw [eS_311]; rfl
              have n319 : (S_311 0 69).toInt = (1 : Int32).toInt := by rw [eS_311]; rfl
              refine D_ite (fun c320 => ?_) (fun c320 => ?_)
              · have kc320 := tq_eq (x := x1) (y := (4 : Int32)) rfl (b := 4) (by decide) c320
                exfalso
                exact (by clear n6 n162 kc161 n176 n177 kz178 n246 n247 n307 n308 n309 n316 n317 n318 n319; omega)
              · skip
                unfold fJ_X8_tried_J92
                refine D_ck (okB_01 (by clear n6 n7 p11 p12 kc13 n162 kc161 n176 n177 kz178 n246 n247 n307 n308 n309 kc310 n316 n317 n318 n319; omega)) ?_
                refine D_lt (fun S_321 eS_321 => ?_)
                have hS_321 : iR BM S_321 := by rw [eS_321]; exact iR_set hS_311 (show (0 : Int) ≤ _ from (by clear n6 n7 p11 p12 kc13 n162 kc161 n176 n177 kz178 n246 n247 n307 n308 n309 kc310 n316 n317 n318 n319; omega)) (show _ ≤ (1 : Int) from (by clear n6 n7 p11 p12 kc13 n162 kc161 n176 n177 kz178 n246 n247 n307 n308 n309 kc310 n316 n317 n318 n319; omega))
                have kaG_t322 : aG 1 S S_321 := (by rw [eS_321]; exact aG_set kaG_t312 (Wb_t rfl))
                have kpI_t323 : pI S_321 := by rw [eS_321]; exact kpI_t313
                have kg0_t324 : gI 0 S_321 := by rw [eS_321]; exact kg0_t314
                have kgI_t325 : gI 1 S_321 := by rw [eS_321]; exact kgI_t315
                have n326 : (S_321 0 66).toInt = (S_311 0 66).toInt := by rw [eS_321]; rfl
                have n327 : (S_321 0 67).toInt = (S_311 0 67).toInt := by rw [eS_321]; rfl
                have n328 : (S_321 0 69).toInt = (S_311 0 69).toInt := by rw [eS_321]; rfl
                have n329 : (S_321 62 1).toInt = (S_311 62 1).toInt := by rw [eS_321]; rfl
                have n330 : (S_321 0 68).toInt = (0 : Int32).toInt := by rw [eS_321]; rfl
                refine D_ite (fun c331 => ?_) (fun c331 => ?_)
                · have kc331 := tq_eq (x := x1) (y := (2 : Int32)) rfl (b := 2) (by decide) c331
                  exfalso
                  exact (by clear n6 n162 kc161 n176 n177 kz178 n246 n247 n307 n308 n309 n316 n317 n318 n319 n326 n327 n328 n329 n330; omega)
                · skip
                  unfold fJ_X8_tried_J156
                  refine D_bd2 (t_X8_toEnd S_321 L hS_321 kpI_t323 kgI_t325) (fun S_332 L_333 eq335 hq334 => ?_)
                  refine D_lte (y := S_332) rfl ?_
                  refine D_lte (y := L_333) rfl ?_
                  obtain ⟨p336, p337, p338, p339⟩ : (iR BM S_332) ∧ (aG 1 S_321 S_332) ∧ (pI S_332) ∧ (gI 1 S_332) := hq334
                  have k340 : aG 1 S S_332 := aG_tr kaG_t322 p337
                  have kg0_t341 : gI 0 S_332 := (gI0_G1 hS_321 kg0_t324 p337)
                  refine D_bd (t_X8_plainTried S_332 p336) (fun S_342 eq344 hq343 => ?_)
                  obtain ⟨p345, p346⟩ : (iR BM S_342) ∧ (aT S_332 S_342) := hq343
                  have k347 : aG 1 S S_342 := aG_tr k340 (aT_G p346)
                  have kpI_t348 : pI S_342 := (pI_aT p338 p346)
                  have kg0_t349 : gI 0 S_342 := (gI_aT kg0_t341 p346)
                  have kgI_t350 : gI 1 S_342 := (gI_aT p339 p346)
                  refine D_bd (t_X8_more S_342 p345) (fun r351 eq353 hq352 => ?_)
                  have n354 := i_rng r351
                  exact D_some (show (iR BM S_342) ∧ (aG 1 S S_342) ∧ (pI S_342) ∧ (gI 0 S_342) from ⟨p345, k347, kpI_t348, kg0_t349⟩)
            · skip
              unfold fJ_X8_tried_J78
              refine D_ck (okB_01 (by clear n6 n7 p11 p12 kc13 n162 kc161 n176 n177 kz178 n246 n247 n307 n308 n309; omega)) ?_
              refine D_lt (fun S_355 eS_355 => ?_)
              have hS_355 : iR BM S_355 := by rw [eS_355]; exact iR_set hS_302 (show (0 : Int) ≤ _ from (by clear n6 n7 p11 p12 kc13 n162 kc161 n176 n177 kz178 n246 n247 n307 n308 n309; omega)) (show _ ≤ (1 : Int) from (by clear n6 n7 p11 p12 kc13 n162 kc161 n176 n177 kz178 n246 n247 n307 n308 n309; omega))
              have kaG_t356 : aG 1 S S_355 := (by rw [eS_355]; exact aG_set kaG_t303 (Wb_t rfl))
              have kpI_t357 : pI S_355 := by rw [eS_355]; exact kpI_t304
              have kg0_t358 : gI 0 S_355 := by rw [eS_355]; exact kg0_t305
              have kgI_t359 : gI 1 S_355 := by rw [eS_355]; exact kgI_t306
              have n360 : (S_355 62 1).toInt = (S_302 62 1).toInt := by rw [eS_355]; rfl
              have n361 : (S_355 0 67).toInt = (S_302 0 67).toInt := by rw [eS_355]; rfl
              have n362 : (S_355 0 66).toInt = (S_302 0 66).toInt := by rw [eS_355]; rfl
              have n363 : (S_355 0 69).toInt = (0 : Int32).toInt := by rw [eS_355]; rfl
              refine D_ite (fun c364 => ?_) (fun c364 => ?_)
              · have kc364 := tq_eq (x := x1) (y := (4 : Int32)) rfl (b := 4) (by decide) c364
                unfold fJ_X8_tried_J92
                have l1 : (1 : Int32).toInt = 1 := by decide
                refine D_ck (okB_01 (by clear n6 n7 p11 p12 kc13 n162 kc161 n176 n177 kz178 n246 n247 n307 n308 n309 n360 n361 n362 n363 kc364; omega)) ?_
                refine D_lt (fun S_365 eS_365 => ?_)
                have hS_365 : iR BM S_365 := by rw [eS_365]; exact iR_set hS_355 (show (0 : Int) ≤ _ from (by clear n6 n7 p11 p12 kc13 n162 kc161 n176 n177 kz178 n246 n247 n307 n308 n309 n360 n361 n362 n363 kc364; omega)) (show _ ≤ (1 : Int) from (by clear n6 n7 p11 p12 kc13 n162 kc161 n176 n177 kz178 n246 n247 n307 n308 n309 n360 n361 n362 n363 kc364; omega))
                have kaG_t366 : aG 1 S S_365 := (by rw [eS_365]; exact aG_set kaG_t356 (Wb_t rfl))
                have kpI_t367 : pI S_365 := by rw [eS_365]; exact kpI_t357
                have kg0_t368 : gI 0 S_365 := by rw [eS_365]; exact kg0_t358
                have kgI_t369 : gI 1 S_365 := by rw [eS_365]; exact kgI_t359
                have n370 : (S_365 0 66).toInt = (S_355 0 66).toInt := by rw [eS_365]; rfl
                have n371 : (S_365 62 1).toInt = (S_355 62 1).toInt := by rw [eS_365]; rfl
                have n372 : (S_365 0 69).toInt = (S_355 0 69).toInt := by rw [eS_365]; rfl
                have n373 : (S_365 0 67).toInt = (S_355 0 67).toInt := by rw [eS_365]; rfl
                have n374 : (S_365 0 68).toInt = (1 : Int32).toInt := by rw [eS_365]; rfl
                refine D_ite (fun c375 => ?_) (fun c375 => ?_)
                · have kc375 := tq_eq (x := x1) (y := (2 : Int32)) rfl (b := 2) (by decide) c375
                  exfalso
                  exact (by clear n6 n162 kc161 n176 n177 kz178 n246 n247 n307 n308 n309 n360 n361 n362 n363 n370 n371 n372 n373 n374; omega)
                · skip
                  unfold fJ_X8_tried_J156
                  refine D_bd2 (t_X8_toEnd S_365 L hS_365 kpI_t367 kgI_t369) (fun S_376 L_377 eq379 hq378 => ?_)
                  refine D_lte (y := S_376) rfl ?_
                  refine D_lte (y := L_377) rfl ?_
                  obtain ⟨p380, p381, p382, p383⟩ : (iR BM S_376) ∧ (aG 1 S_365 S_376) ∧ (pI S_376) ∧ (gI 1 S_376) := hq378
                  have k384 : aG 1 S S_376 := aG_tr kaG_t366 p381
                  have kg0_t385 : gI 0 S_376 := (gI0_G1 hS_365 kg0_t368 p381)
                  refine D_bd (t_X8_plainTried S_376 p380) (fun S_386 eq388 hq387 => ?_)
                  obtain ⟨p389, p390⟩ : (iR BM S_386) ∧ (aT S_376 S_386) := hq387
                  have k391 : aG 1 S S_386 := aG_tr k384 (aT_G p390)
                  have kpI_t392 : pI S_386 := (pI_aT p382 p390)
                  have kg0_t393 : gI 0 S_386 := (gI_aT kg0_t385 p390)
                  have kgI_t394 : gI 1 S_386 := (gI_aT p383 p390)
                  refine D_bd (t_X8_more S_386 p389) (fun r395 eq397 hq396 => ?_)
                  have n398 := i_rng r395
                  exact D_some (show (iR BM S_386) ∧ (aG 1 S S_386) ∧ (pI S_386) ∧ (gI 0 S_386) from ⟨p389, k391, kpI_t392, kg0_t393⟩)
              · skip
                unfold fJ_X8_tried_J92
                refine D_ck (okB_01 (by clear n6 n7 p11 p12 kc13 n162 kc161 n176 n177 kz178 n246 n247 n307 n308 n309 n360 n361 n362 n363; omega)) ?_
                refine D_lt (fun S_399 eS_399 => ?_)
                have hS_399 : iR BM S_399 := by rw [eS_399]; exact iR_set hS_355 (show (0 : Int) ≤ _ from (by clear n6 n7 p11 p12 kc13 n162 kc161 n176 n177 kz178 n246 n247 n307 n308 n309 n360 n361 n362 n363; omega)) (show _ ≤ (1 : Int) from (by clear n6 n7 p11 p12 kc13 n162 kc161 n176 n177 kz178 n246 n247 n307 n308 n309 n360 n361 n362 n363; omega))
                have kaG_t400 : aG 1 S S_399 := (by rw [eS_399]; exact aG_set kaG_t356 (Wb_t rfl))
                have kpI_t401 : pI S_399 := by rw [eS_399]; exact kpI_t357
                have kg0_t402 : gI 0 S_399 := by rw [eS_399]; exact kg0_t358
                have kgI_t403 : gI 1 S_399 := by rw [eS_399]; exact kgI_t359
                have n404 : (S_399 0 66).toInt = (S_355 0 66).toInt := by rw [eS_399]; rfl
                have n405 : (S_399 62 1).toInt = (S_355 62 1).toInt := by rw [eS_399]; rfl
                have n406 : (S_399 0 69).toInt = (S_355 0 69).toInt := by rw [eS_399]; rfl
                have n407 : (S_399 0 67).toInt = (S_355 0 67).toInt := by rw [eS_399]; rfl
                have n408 : (S_399 0 68).toInt = (0 : Int32).toInt := by rw [eS_399]; rfl
                refine D_ite (fun c409 => ?_) (fun c409 => ?_)
                · have kc409 := tq_eq (x := x1) (y := (2 : Int32)) rfl (b := 2) (by decide) c409
                  exact tl_X8_tried_L102 S L x2 ⟨(by clear n6 n7 p11 p12 kc13 n176 n177 kz178 n246 n247 n307 n308 n309 n360 n361 n362 n363 n404 n405 n406 n407 n408 kc409; omega), (by clear n6 n7 p11 p12 kc13 n176 n177 kz178 n246 n247 n307 n308 n309 n360 n361 n362 n363 n404 n405 n406 n407 n408 kc409; omega)⟩   2000 (0 : Int32) S_399 kaG_t400 kpI_t401 kg0_t402 kgI_t403 hS_399 ⟨(by clear n6 n7 p11 p12 kc13 n162 kc161 n176 n177 kz178 n246 n247 n307 n308 n309 n360 n361 n362 n363 n404 n405 n406 n407 n408 kc409; omega), (by clear n6 n7 p11 p12 kc13 n162 kc161 n176 n177 kz178 n246 n247 n307 n308 n309 n360 n361 n362 n363 n404 n405 n406 n407 n408 kc409; omega)⟩ (by clear n6 n7 p11 p12 kc13 n162 kc161 n176 n177 kz178 n246 n247 n307 n308 n309 n360 n361 n362 n363 n404 n405 n406 n407 n408 kc409; omega)
                · skip
                  unfold fJ_X8_tried_J156
                  refine D_bd2 (t_X8_toEnd S_399 L hS_399 kpI_t401 kgI_t403) (fun S_410 L_411 eq413 hq412 => ?_)
                  refine D_lte (y := S_410) rfl ?_
                  refine D_lte (y := L_411) rfl ?_
                  obtain ⟨p414, p415, p416, p417⟩ : (iR BM S_410) ∧ (aG 1 S_399 S_410) ∧ (pI S_410) ∧ (gI 1 S_410) := hq412
                  have k418 : aG 1 S S_410 := aG_tr kaG_t400 p415
                  have kg0_t419 : gI 0 S_410 := (gI0_G1 hS_399 kg0_t402 p415)
                  refine D_bd (t_X8_plainTried S_410 p414) (fun S_420 eq422 hq421 => ?_)
                  obtain ⟨p423, p424⟩ : (iR BM S_420) ∧ (aT S_410 S_420) := hq421
                  have k425 : aG 1 S S_420 := aG_tr k418 (aT_G p424)
                  have kpI_t426 : pI S_420 := (pI_aT p416 p424)
                  have kg0_t427 : gI 0 S_420 := (gI_aT kg0_t419 p424)
                  have kgI_t428 : gI 1 S_420 := (gI_aT p417 p424)
                  refine D_bd (t_X8_more S_420 p423) (fun r429 eq431 hq430 => ?_)
                  have n432 := i_rng r429
                  exact D_some (show (iR BM S_420) ∧ (aG 1 S S_420) ∧ (pI S_420) ∧ (gI 0 S_420) from ⟨p423, k425, kpI_t426, kg0_t427⟩)
      · skip
        have lm1 : ((-1) : Int32).toInt = (-1) := by decide
        exact D_some (show (iR BM S_1) ∧ (aG 1 S S_1) ∧ (pI S_1) ∧ (gI 0 S_1) from ⟨hS_1, kaG_t2, kpI_t3, kg0_t4⟩)
set_option maxHeartbeats 1000000 in
set_option maxRecDepth 100000 in
theorem t_X8_waits (S : Tr) (x1 : Int32) (hS : iR BM S) (dpI : pI S) (dg0 : gI 0 S) : D (f_X8_waits S x1) (fun (q : Int32 × Tr) => (iR BM (q.2)) ∧ (aT S (q.2)) ∧ (pI (q.2)) ∧ (gI 0 (q.2))) := by
  unfold f_X8_waits
  refine D_lt (fun S_1 eS_1 => ?_)
  have hS_1 : iR BM S_1 := by rw [eS_1]; exact iR_setU hS rfl
  have kaT_t2 : aT S S_1 := (by rw [eS_1]; exact aT_set aT_rfl rfl)
  have kpI_t3 : pI S_1 := by rw [eS_1]; exact dpI
  have kg0_t4 : gI 0 S_1 := by rw [eS_1]; exact dg0
  have l0 : (0 : Int32).toInt = 0 := by decide
  have n5 : (S_1 0 2).toInt = (0 : Int32).toInt := by rw [eS_1]; rfl
  have n6 := i_rng x1
  have l20 : (20 : Int32).toInt = 20 := by decide
  refine D_bd (t_X8_isIn x1 (0 : Int32) (20 : Int32) ) (fun r7 eq9 hq8 => ?_)
  obtain ⟨p10, p11⟩ : (0 ≤ r7.toInt ∧ r7.toInt ≤ 1) ∧ (r7.toInt = 1 → (0 : Int32).toInt ≤ x1.toInt ∧ x1.toInt ≤ (20 : Int32).toInt) := hq8
  refine D_ite (fun c12 => ?_) (fun c12 => ?_)
  · have kc12 := tq_eq (x := r7) (y := (0 : Int32)) rfl (b := 0) (by decide) c12
    have lm1 : ((-1) : Int32).toInt = (-1) := by decide
    exact D_some (show (iR BM S_1) ∧ (aT S S_1) ∧ (pI S_1) ∧ (gI 0 S_1) from ⟨hS_1, kaT_t2, kpI_t3, kg0_t4⟩)
  · have kc120 := tq_eqn (x := r7) (y := (0 : Int32)) rfl (b := 0) (by decide) c12
    have kc12 : 1 ≤ r7.toInt := (by omega)
    clear kc120
    refine D_ck (okI_of (by omega) (by omega)) ?_
    have n13 := i_rng (S_1 34 x1.toNatClampNeg)
    exact D_some (show (iR BM S_1) ∧ (aT S S_1) ∧ (pI S_1) ∧ (gI 0 S_1) from ⟨hS_1, kaT_t2, kpI_t3, kg0_t4⟩)
set_option maxHeartbeats 1000000 in
set_option maxRecDepth 100000 in
theorem tl_X8_when_L64 (zaG : Tr) (x1 : Int32) (x2 : Int32) (x3 : Int32) (x4 : Int32) (x5 : Int32) (x6 : Int32) (N53 : Nat) (hx1 : 0 ≤ x1.toInt ∧ x1.toInt ≤ 4) (hx6 : 0 ≤ x6.toInt ∧ x6.toInt ≤ 19) (hN53 : 1000 - x6.toInt < (N53 : Int) + 1) (k53 : Int32 → Int32 → Int32 → Int32 → Tr → Lo → Option (Int32 × Tr × Lo)) (hk53 : ∀ (x3 : Int32) (x4 : Int32) (x5 : Int32) (x6 : Int32) (S : Tr) (L : Lo), aG 1 zaG S → pI S → gI 0 S → gI 1 S → iR BM S → 0 ≤ x6.toInt ∧ x6.toInt ≤ 1000 → 1000 - x6.toInt < (N53 : Int) → D (k53 x3 x4 x5 x6 S L) (fun (q : Int32 × Tr × Lo) => (iR BM (q.2.1)) ∧ (aG 1 zaG (q.2.1)) ∧ (pI (q.2.1)) ∧ (gI 0 (q.2.1)))) (N : Nat) : ∀ (S : Tr) (L : Lo), aG 1 zaG S → pI S → gI 0 S → gI 1 S → iR BM S → 22 - (S 62 1).toInt < (N : Int) → D (lpF (fun _ _ => none) (fB_X8_when_L64 k53 x1 x2 x3 x4 x5 x6) N S L) (fun (q : Int32 × Tr × Lo) => (iR BM (q.2.1)) ∧ (aG 1 zaG (q.2.1)) ∧ (pI (q.2.1)) ∧ (gI 0 (q.2.1))) := by
  induction N with
  | zero =>
    intro S L daG dpI dg0 dgI hS hN
    exfalso
    have n163 : 0 ≤ (S 62 1).toInt ∧ (S 62 1).toInt ≤ 21 := hS 62 1
    omega
  | succ N64 ih =>
    intro S L daG dpI dg0 dgI hS hN
    have hk64 : ∀ (S : Tr) (L : Lo), aG 1 zaG S → pI S → gI 0 S → gI 1 S → iR BM S → 22 - (S 62 1).toInt < (N64 : Int) → D (lpF (fun _ _ => none) (fB_X8_when_L64 k53 x1 x2 x3 x4 x5 x6) N64 S L) (fun (q : Int32 × Tr × Lo) => (iR BM (q.2.1)) ∧ (aG 1 zaG (q.2.1)) ∧ (pI (q.2.1)) ∧ (gI 0 (q.2.1))) := ih
    show D (fB_X8_when_L64 k53 x1 x2 x3 x4 x5 x6 (lpF (fun _ _ => none) (fB_X8_when_L64 k53 x1 x2 x3 x4 x5 x6) N64) S L) _
    generalize lpF (fun _ _ => none) (fB_X8_when_L64 k53 x1 x2 x3 x4 x5 x6) N64 = k64 at hk64 ⊢
    have hN64 : 22 - (S 62 1).toInt < (N64 : Int) + 1 := by omega
    clear ih
    unfold fB_X8_when_L64
    have n89 : 0 ≤ (S 62 1).toInt ∧ (S 62 1).toInt ≤ 21 := hS 62 1
    have n90 : 0 ≤ (S 0 14).toInt ∧ (S 0 14).toInt ≤ 10 := hS 0 14
    have n91 : 0 ≤ (S 0 13).toInt ∧ (S 0 13).toInt ≤ 6 := hS 0 13
    have n92 : 0 ≤ (S 0 12).toInt ∧ (S 0 12).toInt ≤ 5 := hS 0 12
    refine D_ite (fun c93 => ?_) (fun c93 => ?_)
    · have kc93 := tq_le (x := x6) (y := (S 62 1)) rfl rfl c93
      unfold fJ_X8_when_J83
      have n94 : ((5 : Int32) + x1).toInt = 5 + x1.toInt := i_addK (by decide) rfl (by clear hx6 hN53 hN64 hN n89 n90 n91 n92 kc93; omega) (by clear hx6 hN53 hN64 hN n89 n90 n91 n92 kc93; omega)
      refine D_ck (okI_of (by clear hx6 hN53 hN64 hN n89 n90 n91 n92 kc93; omega) (by clear hx6 hN53 hN64 hN n89 n90 n91 n92 kc93; omega)) ?_
      refine D_lt (fun y95 ey95 => ?_)
      have n96 : 0 ≤ (S 56 ((5 : Int32) + x1).toNatClampNeg).toInt ∧ (S 56 ((5 : Int32) + x1).toNatClampNeg).toInt ≤ 10 := hS 56 (((5 : Int32) + x1).toNatClampNeg)
      have hy95 : y95.toInt = (S 56 ((5 : Int32) + x1).toNatClampNeg).toInt := by rw [ey95]
      have l1 : (1 : Int32).toInt = 1 := by decide
      refine D_bd2 (t_X8_turns S (1 : Int32) x1 hS dgI ⟨(by clear hx1 hx6 hN53 hN64 hN n89 n90 n91 n92 kc93 n94 n96 hy95; omega), (by clear hx1 hx6 hN53 hN64 hN n89 n90 n91 n92 kc93 n94 n96 hy95; omega)⟩ ⟨(by clear hx6 hN53 hN64 hN n89 n90 n91 n92 kc93 n96 hy95; omega), (by clear hx6 hN53 hN64 hN n89 n90 n91 n92 kc93 n96 hy95; omega)⟩) (fun r97 S_98 eq100 hq99 => ?_)
      refine D_lte (y := r97) rfl ?_
      refine D_lte (y := S_98) rfl ?_
      obtain ⟨p101, p102, p103, p104, p105⟩ : (iR BM S_98) ∧ (gI 1 S_98) ∧ (aG 1 S S_98) ∧ (S_98 62 1 = (S 62 1)) ∧ (∀ a j, a ≠ 55 → a ≠ 74 → S_98 a j = S a j) := hq99
      have n106 := i_rng r97
      have k107 : aG 1 zaG S_98 := aG_tr daG p103
      have n108 : (S_98 0 12).toInt = (S 0 12).toInt := congrArg Int32.toInt (p103 0 _ rfl)
      have n109 : (S_98 0 13).toInt = (S 0 13).toInt := congrArg Int32.toInt (p103 0 _ rfl)
      have n110 : (S_98 0 14).toInt = (S 0 14).toInt := congrArg Int32.toInt (p103 0 _ rfl)
      have kpI_t111 : pI S_98 := (pI_aG dpI p103)
      have kg0_t112 : gI 0 S_98 := (gI0_G1 hS dg0 p103)
      refine D_bd2 (t_X8_toEnd S_98 L p101 kpI_t111 p102) (fun S_113 L_114 eq116 hq115 => ?_)
      refine D_lte (y := S_113) rfl ?_
      refine D_lte (y := L_114) rfl ?_
      obtain ⟨p117, p118, p119, p120⟩ : (iR BM S_113) ∧ (aG 1 S_98 S_113) ∧ (pI S_113) ∧ (gI 1 S_113) := hq115
      have k121 : aG 1 zaG S_113 := aG_tr k107 p118
      have n122 : (S_113 0 12).toInt = (S_98 0 12).toInt := congrArg Int32.toInt (p118 0 _ rfl)
      have n123 : (S_113 0 13).toInt = (S_98 0 13).toInt := congrArg Int32.toInt (p118 0 _ rfl)
      have n124 : (S_113 0 14).toInt = (S_98 0 14).toInt := congrArg Int32.toInt (p118 0 _ rfl)
      have kg0_t125 : gI 0 S_113 := (gI0_G1 p101 kg0_t112 p118)
      refine D_bd (t_X8_more S_113 p117) (fun r126 eq128 hq127 => ?_)
      have n129 := i_rng r126
      have n131 := i_rng (r126 + y95)
      have n132 := i_rng x3
      refine D_ite (fun c130 => ?_) (fun c130 => ?_)
      · have kc130 := tq_lt (x := (r126 + y95)) (y := x3) rfl rfl c130
        refine D_bd (t_X8_more S_113 p117) (fun r133 eq135 hq134 => ?_)
        have n136 := i_rng r133
        refine D_lt (fun y137 ey137 => ?_)
        have n138 := i_rng (r133 + y95)
        have hy137 : y137.toInt = (r133 + y95).toInt := by rw [ey137]
        refine D_bd (t_X8_more S_113 p117) (fun r139 eq141 hq140 => ?_)
        have n142 := i_rng r139
        have n144 : (x6 + 1).toInt = x6.toInt + 1 := i_addK rfl (by decide) (by clear hx1 hN53 hN64 hN n90 n91 n92 n94 n96 hy95 n106 n108 n109 n110 n122 n123 n124 n129 n131 n132 kc130 n136 n138 hy137 n142; omega) (by clear hx1 hN53 hN64 hN n90 n91 n92 n94 n96 hy95 n106 n108 n109 n110 n122 n123 n124 n129 n131 n132 kc130 n136 n138 hy137 n142; omega)
        refine D_lt (fun y143 ey143 => ?_)
        have hy143 : y143.toInt = (x6 + 1 : Int32).toInt := by rw [ey143]
        exact hk53 y137 x6 r139 y143 S_113 L_114 k121 p119 kg0_t125 p120 p117 ⟨(by clear hx1 hN53 hN64 hN n90 n91 n92 n94 n96 hy95 n106 n108 n109 n110 n122 n123 n124 n129 n131 n132 kc130 n136 n138 hy137 n142; omega), (by clear hx1 hN53 hN64 hN n90 n91 n92 n94 n96 hy95 n106 n108 n109 n110 n122 n123 n124 n129 n131 n132 kc130 n136 n138 hy137 n142; omega)⟩ (by clear hx1 hN64 hN n90 n91 n92 n94 n96 hy95 n106 n108 n109 n110 n122 n123 n124 n129 n131 n132 kc130 n136 n138 hy137 n142; omega)
      · have kc130 := tq_ltn (x := (r126 + y95)) (y := x3) rfl rfl c130
        have n146 : (x6 + 1).toInt = x6.toInt + 1 := i_addK rfl (by decide) (by clear hx1 hN53 hN64 hN n90 n91 n92 n94 n96 hy95 n106 n108 n109 n110 n122 n123 n124 n129 n131 n132 kc130; omega) (by clear hx1 hN53 hN64 hN n90 n91 n92 n94 n96 hy95 n106 n108 n109 n110 n122 n123 n124 n129 n131 n132 kc130; omega)
        refine D_lt (fun y145 ey145 => ?_)
        have hy145 : y145.toInt = (x6 + 1 : Int32).toInt := by rw [ey145]
        have n147 := i_rng x4
        have n148 := i_rng x5
        exact hk53 x3 x4 x5 y145 S_113 L_114 k121 p119 kg0_t125 p120 p117 ⟨(by clear hx1 hN53 hN64 hN n90 n91 n92 n94 n96 hy95 n106 n108 n109 n110 n122 n123 n124 n129 n131 n132 kc130 n147 n148; omega), (by clear hx1 hN53 hN64 hN n90 n91 n92 n94 n96 hy95 n106 n108 n109 n110 n122 n123 n124 n129 n131 n132 kc130 n147 n148; omega)⟩ (by clear hx1 hN64 hN n90 n91 n92 n94 n96 hy95 n106 n108 n109 n110 n122 n123 n124 n129 n131 n132 kc130 n147 n148; omega)
    · have kc93 := tq_len (x := x6) (y := (S 62 1)) rfl rfl c93
      have l1 : (1 : Int32).toInt = 1 := by decide
      refine D_bd2 (t_X8_goOn S L (1 : Int32) hS dpI dgI ⟨(by clear hx1 hx6 hN53 hN64 hN n89 n90 n91 n92 kc93; omega), (by clear hx1 hx6 hN53 hN64 hN n89 n90 n91 n92 kc93; omega)⟩ (show (S 62 1).toInt ≤ 20 from (by first | assumption | exact (by clear hx1 hN53 hN64 hN n90 n91 n92; omega)))) (fun S_149 L_150 eq152 hq151 => ?_)
      refine D_lte (y := S_149) rfl ?_
      refine D_lte (y := L_150) rfl ?_
      obtain ⟨p153, p154, p155, p156, p157⟩ : (iR BM S_149) ∧ (aG 1 S S_149) ∧ (pI S_149) ∧ (gI 1 S_149) ∧ ((S_149 62 1).toInt = (S 62 1).toInt + 1) := hq151
      have k158 : aG 1 zaG S_149 := aG_tr daG p154
      have n159 : (S_149 0 12).toInt = (S 0 12).toInt := congrArg Int32.toInt (p154 0 _ rfl)
      have n160 : (S_149 0 13).toInt = (S 0 13).toInt := congrArg Int32.toInt (p154 0 _ rfl)
      have n161 : (S_149 0 14).toInt = (S 0 14).toInt := congrArg Int32.toInt (p154 0 _ rfl)
      have kg0_t162 : gI 0 S_149 := (gI0_G1 hS dg0 p154)
      have hb62 : (S_149 62 1).toInt = (S 62 1).toInt + 1 := p157
      exact hk64 S_149 L_150 k158 p155 kg0_t162 p156 p153 (by omega)
set_option maxHeartbeats 1000000 in
set_option maxRecDepth 100000 in
theorem tl_X8_when_L53 (zaG : Tr) (x1 : Int32) (x2 : Int32) (hx1 : 0 ≤ x1.toInt ∧ x1.toInt ≤ 4)   (N : Nat) : ∀ (x3 : Int32) (x4 : Int32) (x5 : Int32) (x6 : Int32) (S : Tr) (L : Lo), aG 1 zaG S → pI S → gI 0 S → gI 1 S → iR BM S → 0 ≤ x6.toInt ∧ x6.toInt ≤ 1000 → 1000 - x6.toInt < (N : Int) → D (lpF (fun _ _ _ _ _ _ => none) (fB_X8_when_L53 x1 x2) N x3 x4 x5 x6 S L) (fun (q : Int32 × Tr × Lo) => (iR BM (q.2.1)) ∧ (aG 1 zaG (q.2.1)) ∧ (pI (q.2.1)) ∧ (gI 0 (q.2.1))) := by
  induction N with
  | zero =>
    intro x3 x4 x5 x6 S L daG dpI dg0 dgI hS hx6 hN
    exfalso
    omega
  | succ N53 ih =>
    intro x3 x4 x5 x6 S L daG dpI dg0 dgI hS hx6 hN
    have hk53 : ∀ (x3 : Int32) (x4 : Int32) (x5 : Int32) (x6 : Int32) (S : Tr) (L : Lo), aG 1 zaG S → pI S → gI 0 S → gI 1 S → iR BM S → 0 ≤ x6.toInt ∧ x6.toInt ≤ 1000 → 1000 - x6.toInt < (N53 : Int) → D (lpF (fun _ _ _ _ _ _ => none) (fB_X8_when_L53 x1 x2) N53 x3 x4 x5 x6 S L) (fun (q : Int32 × Tr × Lo) => (iR BM (q.2.1)) ∧ (aG 1 zaG (q.2.1)) ∧ (pI (q.2.1)) ∧ (gI 0 (q.2.1))) := ih
    show D (fB_X8_when_L53 x1 x2 (lpF (fun _ _ _ _ _ _ => none) (fB_X8_when_L53 x1 x2) N53) x3 x4 x5 x6 S L) _
    generalize lpF (fun _ _ _ _ _ _ => none) (fB_X8_when_L53 x1 x2) N53 = k53 at hk53 ⊢
    have hN53 : 1000 - x6.toInt < (N53 : Int) + 1 := by omega
    clear ih
    unfold fB_X8_when_L53
    have n62 : 0 ≤ (S 0 14).toInt ∧ (S 0 14).toInt ≤ 10 := hS 0 14
    have n63 : 0 ≤ (S 0 13).toInt ∧ (S 0 13).toInt ≤ 6 := hS 0 13
    have n64 : 0 ≤ (S 0 12).toInt ∧ (S 0 12).toInt ≤ 5 := hS 0 12
    refine D_ite (fun c65 => ?_) (fun c65 => ?_)
    · have kc65 := tq_le (x := (20 : Int32)) (y := x6) (a := 20) (by decide) rfl c65
      unfold fJ_X8_when_J142
      have n67 := i_rng x2
      refine D_ite (fun c66 => ?_) (fun c66 => ?_)
      · have kc66 := tq_eq (x := x2) (y := (0 : Int32)) rfl (b := 0) (by decide) c66
        have n68 := i_rng x4
        exact D_some (show (iR BM S) ∧ (aG 1 zaG S) ∧ (pI S) ∧ (gI 0 S) from ⟨hS, daG, dpI, dg0⟩)
      · skip
        have n69 := i_rng x5
        exact D_some (show (iR BM S) ∧ (aG 1 zaG S) ∧ (pI S) ∧ (gI 0 S) from ⟨hS, daG, dpI, dg0⟩)
    · have kc65 := tq_len (x := (20 : Int32)) (y := x6) (a := 20) (by decide) rfl c65
      refine D_bd (t_X8_layTried S hS dg0 dpI) (fun S_70 eq72 hq71 => ?_)
      obtain ⟨p73, p74, p75, p76, p77, p78⟩ : (iR BM S_70) ∧ (aG 1 S S_70) ∧ (gI 1 S_70) ∧ (pI S_70) ∧ (S_70 62 1 = S 62 0) ∧ (S_70 61 1 = S 61 0) := hq71
      have k79 : aG 1 zaG S_70 := aG_tr daG p74
      have n80 : (S_70 0 12).toInt = (S 0 12).toInt := congrArg Int32.toInt (p74 0 _ rfl)
      have n81 : (S_70 0 13).toInt = (S 0 13).toInt := congrArg Int32.toInt (p74 0 _ rfl)
      have n82 : (S_70 0 14).toInt = (S 0 14).toInt := congrArg Int32.toInt (p74 0 _ rfl)
      have kpI_t83 : pI S_70 := (pI_aG dpI p74)
      have kg0_t84 : gI 0 S_70 := (gI0_G1 hS dg0 p74)
      have kgI_t85 : gI 1 S_70 := p75
      have n86 : 0 ≤ (S_70 62 1).toInt ∧ (S_70 62 1).toInt ≤ 21 := p73 62 1
      have n87 : 0 ≤ (S 62 0).toInt ∧ (S 62 0).toInt ≤ 21 := hS 62 0
      have kz88 : (S_70 62 1).toInt = (S 62 0).toInt := congrArg Int32.toInt p77
      have n164 := i_rng x2
      have n165 := i_rng x3
      have n166 := i_rng x4
      have n167 := i_rng x5
      exact tl_X8_when_L64 zaG x1 x2 x3 x4 x5 x6 N53 ⟨(by clear hx6 hN53 hN n62 n63 n64 kc65 n80 n81 n82 n86 n87 kz88 n164 n165 n166 n167; omega), (by clear hx6 hN53 hN n62 n63 n64 kc65 n80 n81 n82 n86 n87 kz88 n164 n165 n166 n167; omega)⟩ ⟨(by clear hx1 hN53 hN n62 n63 n64 n80 n81 n82 n86 n87 kz88 n164 n165 n166 n167; omega), (by clear hx1 hN53 hN n62 n63 n64 n80 n81 n82 n86 n87 kz88 n164 n165 n166 n167; omega)⟩ hN53 k53 hk53 2000 S_70 L k79 kpI_t83 kg0_t84 kgI_t85 p73 (by clear hx1 hx6 hN53 hN n62 n63 n64 kc65 n80 n81 n82 n164 n165 n166 n167; omega)
set_option maxHeartbeats 1000000 in
set_option maxRecDepth 100000 in
theorem t_X8_when (S : Tr) (L : Lo) (x1 : Int32) (x2 : Int32) (hS : iR BM S) (dpI : pI S) (dg0 : gI 0 S) : D (f_X8_when S L x1 x2) (fun (q : Int32 × Tr × Lo) => (iR BM (q.2.1)) ∧ (aG 1 S (q.2.1)) ∧ (pI (q.2.1)) ∧ (gI 0 (q.2.1))) := by
  unfold f_X8_when
  refine D_lt (fun S_1 eS_1 => ?_)
  have hS_1 : iR BM S_1 := by rw [eS_1]; exact iR_setU hS rfl
  have kaG_t2 : aG 1 S S_1 := (by rw [eS_1]; exact aG_set aG_rfl (Wb_t rfl))
  have kpI_t3 : pI S_1 := by rw [eS_1]; exact dpI
  have kg0_t4 : gI 0 S_1 := by rw [eS_1]; exact dg0
  have l0 : (0 : Int32).toInt = 0 := by decide
  have n6 : (S_1 0 2).toInt = (0 : Int32).toInt := by rw [eS_1]; rfl
  have n7 := i_rng x1
  refine D_bd (t_X8_isPlace S_1 x1 hS_1) (fun r8 eq10 hq9 => ?_)
  obtain ⟨p11, p12⟩ : (0 ≤ r8.toInt ∧ r8.toInt ≤ 1) ∧ (r8.toInt = 1 → 0 ≤ x1.toInt ∧ x1.toInt < (S_1 0 12).toInt) := hq9
  have n13 : 0 ≤ (S_1 0 14).toInt ∧ (S_1 0 14).toInt ≤ 10 := hS_1 0 14
  have n14 : 0 ≤ (S_1 0 13).toInt ∧ (S_1 0 13).toInt ≤ 6 := hS_1 0 13
  have n15 : 0 ≤ (S_1 0 12).toInt ∧ (S_1 0 12).toInt ≤ 5 := hS_1 0 12
  refine D_ite (fun c16 => ?_) (fun c16 => ?_)
  · have kc16 := tq_eq (x := r8) (y := (0 : Int32)) rfl (b := 0) (by decide) c16
    have lm1 : ((-1) : Int32).toInt = (-1) := by decide
    exact D_some (show (iR BM S_1) ∧ (aG 1 S S_1) ∧ (pI S_1) ∧ (gI 0 S_1) from ⟨hS_1, kaG_t2, kpI_t3, kg0_t4⟩)
  · have kc160 := tq_eqn (x := r8) (y := (0 : Int32)) rfl (b := 0) (by decide) c16
    have kc16 : 1 ≤ r8.toInt := (by clear n6 n13 n14; omega)
    clear kc160
    have n17 := i_rng x2
    have l1 : (1 : Int32).toInt = 1 := by decide
    refine D_bd (t_X8_isIn x2 (0 : Int32) (1 : Int32) ) (fun r18 eq20 hq19 => ?_)
    obtain ⟨p21, p22⟩ : (0 ≤ r18.toInt ∧ r18.toInt ≤ 1) ∧ (r18.toInt = 1 → (0 : Int32).toInt ≤ x2.toInt ∧ x2.toInt ≤ (1 : Int32).toInt) := hq19
    refine D_ite (fun c23 => ?_) (fun c23 => ?_)
    · have kc23 := tq_eq (x := r18) (y := (0 : Int32)) rfl (b := 0) (by decide) c23
      have lm1 : ((-1) : Int32).toInt = (-1) := by decide
      exact D_some (show (iR BM S_1) ∧ (aG 1 S S_1) ∧ (pI S_1) ∧ (gI 0 S_1) from ⟨hS_1, kaG_t2, kpI_t3, kg0_t4⟩)
    · have kc230 := tq_eqn (x := r18) (y := (0 : Int32)) rfl (b := 0) (by decide) c23
      have kc23 : 1 ≤ r18.toInt := (by clear n6 n7 p11 p12 n13 n14 n15 kc16; omega)
      clear kc230
      refine D_bd (t_X8_layTried S_1 hS_1 kg0_t4 kpI_t3) (fun S_24 eq26 hq25 => ?_)
      obtain ⟨p27, p28, p29, p30, p31, p32⟩ : (iR BM S_24) ∧ (aG 1 S_1 S_24) ∧ (gI 1 S_24) ∧ (pI S_24) ∧ (S_24 62 1 = S_1 62 0) ∧ (S_24 61 1 = S_1 61 0) := hq25
      have k33 : aG 1 S S_24 := aG_tr kaG_t2 p28
      have n34 : (S_24 0 12).toInt = (S_1 0 12).toInt := congrArg Int32.toInt (p28 0 _ rfl)
      have n35 : (S_24 0 13).toInt = (S_1 0 13).toInt := congrArg Int32.toInt (p28 0 _ rfl)
      have n36 : (S_24 0 14).toInt = (S_1 0 14).toInt := congrArg Int32.toInt (p28 0 _ rfl)
      have kpI_t37 : pI S_24 := (pI_aG kpI_t3 p28)
      have kg0_t38 : gI 0 S_24 := (gI0_G1 hS_1 kg0_t4 p28)
      have kgI_t39 : gI 1 S_24 := p29
      have n40 : 0 ≤ (S_24 62 1).toInt ∧ (S_24 62 1).toInt ≤ 21 := p27 62 1
      have n41 : 0 ≤ (S_1 62 0).toInt ∧ (S_1 62 0).toInt ≤ 21 := hS_1 62 0
      have kz42 : (S_24 62 1).toInt = (S_1 62 0).toInt := congrArg Int32.toInt p31
      refine D_bd2 (t_X8_toEnd S_24 L p27 kpI_t37 kgI_t39) (fun S_43 L_44 eq46 hq45 => ?_)
      refine D_lte (y := S_43) rfl ?_
      refine D_lte (y := L_44) rfl ?_
      obtain ⟨p47, p48, p49, p50⟩ : (iR BM S_43) ∧ (aG 1 S_24 S_43) ∧ (pI S_43) ∧ (gI 1 S_43) := hq45
      have k51 : aG 1 S S_43 := aG_tr k33 p48
      have n52 : (S_43 0 12).toInt = (S_24 0 12).toInt := congrArg Int32.toInt (p48 0 _ rfl)
      have n53 : (S_43 0 13).toInt = (S_24 0 13).toInt := congrArg Int32.toInt (p48 0 _ rfl)
      have n54 : (S_43 0 14).toInt = (S_24 0 14).toInt := congrArg Int32.toInt (p48 0 _ rfl)
      have kg0_t55 : gI 0 S_43 := (gI0_G1 p27 kg0_t38 p48)
      refine D_bd (t_X8_more S_43 p47) (fun r56 eq58 hq57 => ?_)
      have n59 := i_rng r56
      refine D_lt (fun y60 ey60 => ?_)
      have n61 : 0 ≤ (S_43 62 0).toInt ∧ (S_43 62 0).toInt ≤ 21 := p47 62 0
      have hy60 : y60.toInt = (S_43 62 0).toInt := by rw [ey60]
      have lm2 : ((-2) : Int32).toInt = (-2) := by decide
      exact tl_X8_when_L53 S x1 x2 ⟨(by clear n6 n13 n14 n17 p21 p22 kc23 n35 n36 n40 n41 kz42 n53 n54 n59 n61 hy60; omega), (by clear n6 n13 n14 n17 p21 p22 kc23 n35 n36 n40 n41 kz42 n53 n54 n59 n61 hy60; omega)⟩   2000 r56 ((-2) : Int32) ((-2) : Int32) y60 S_43 L_44 k51 p49 kg0_t55 p50 p47 ⟨(by clear n6 n7 p11 p12 n13 n14 n15 kc16 n17 p21 p22 kc23 n34 n35 n36 n40 n41 kz42 n52 n53 n54 n59; omega), (by clear n6 n7 p11 p12 n13 n14 n15 kc16 n17 p21 p22 kc23 n34 n35 n36 n40 n41 kz42 n52 n53 n54 n59; omega)⟩ (by clear n6 n7 p11 p12 n13 n14 n15 kc16 n17 p21 p22 kc23 n34 n35 n36 n40 n41 kz42 n52 n53 n54 n59; omega)
