/-! which cells reading may change: scalars, and of each array the half that is read into -/
def Wp0 (j : Nat) : Bool := ((Nat.ble 4 j && Nat.ble j 11) || (Nat.ble 16 j && Nat.ble j 20) || (Nat.ble 43 j && Nat.ble j 48))
def Wp (a j : Nat) : Bool :=
  bif Nat.beq a 0 then Wp0 j else
  (Nat.beq a 22 || Nat.beq a 35 || Nat.beq a 42 || Nat.beq a 43 ||
   ((Nat.beq a 23 || Nat.beq a 36 || Nat.beq a 37 || Nat.beq a 38) && Nat.ble 3 j) ||
   ((Nat.beq a 24 || Nat.beq a 25) && Nat.ble 5 j) ||
   ((Nat.beq a 26 || Nat.beq a 27 || Nat.beq a 28 || Nat.beq a 29) && Nat.ble 6 j) ||
   ((Nat.beq a 30 || Nat.beq a 31 || Nat.beq a 32 || Nat.beq a 33) && Nat.ble 10 j) ||
   (Nat.beq a 34 && Nat.ble 21 j) ||
   ((Nat.beq a 39 || Nat.beq a 40 || Nat.beq a 41) && Nat.ble 64 j))
def aP (S S1 : Tr) : Prop := ∀ a j, Wp a j = false → S1 a j = S a j
theorem aP_rfl {S : Tr} : aP S S := fun _ _ _ => rfl
theorem aP_tr {S S1 S2 : Tr} (h1 : aP S S1) (h2 : aP S1 S2) : aP S S2 := fun a j h => (h2 a j h).trans (h1 a j h)
theorem aP_set {z S : Tr} {a i : Nat} {v : Int32} (h : aP z S) (hw : Wp a i = true) : aP z (st S a i v) := fun c j hf => by
  rcases st_or (S := S) (a := a) (i := i) (b := c) (j := j) (v := v) with e | ⟨e1, e2⟩
  · rw [e]; exact h c j hf
  · subst e1; subst e2; rw [hw] at hf; cases hf
theorem Wp_23 {j : Nat} (h : 3 ≤ j) : Wp 23 j = true := by show (_ : Bool) = true; unfold Wp; rw [Nat.ble_eq_true_of_le h]; simp; exact Or.inl rfl
theorem Wp_36 {j : Nat} (h : 3 ≤ j) : Wp 36 j = true := by show (_ : Bool) = true; unfold Wp; rw [Nat.ble_eq_true_of_le h]; simp; exact Or.inl rfl
theorem Wp_37 {j : Nat} (h : 3 ≤ j) : Wp 37 j = true := by show (_ : Bool) = true; unfold Wp; rw [Nat.ble_eq_true_of_le h]; simp; exact Or.inl rfl
theorem Wp_38 {j : Nat} (h : 3 ≤ j) : Wp 38 j = true := by show (_ : Bool) = true; unfold Wp; rw [Nat.ble_eq_true_of_le h]; simp; exact Or.inl rfl
theorem Wp_24 {j : Nat} (h : 5 ≤ j) : Wp 24 j = true := by show (_ : Bool) = true; unfold Wp; rw [Nat.ble_eq_true_of_le h]; simp; exact Or.inl rfl
theorem Wp_25 {j : Nat} (h : 5 ≤ j) : Wp 25 j = true := by show (_ : Bool) = true; unfold Wp; rw [Nat.ble_eq_true_of_le h]; simp; exact Or.inl rfl
theorem Wp_26 {j : Nat} (h : 6 ≤ j) : Wp 26 j = true := by show (_ : Bool) = true; unfold Wp; rw [Nat.ble_eq_true_of_le h]; simp; exact Or.inl rfl
theorem Wp_27 {j : Nat} (h : 6 ≤ j) : Wp 27 j = true := by show (_ : Bool) = true; unfold Wp; rw [Nat.ble_eq_true_of_le h]; simp; exact Or.inl rfl
theorem Wp_28 {j : Nat} (h : 6 ≤ j) : Wp 28 j = true := by show (_ : Bool) = true; unfold Wp; rw [Nat.ble_eq_true_of_le h]; simp; exact Or.inl rfl
theorem Wp_29 {j : Nat} (h : 6 ≤ j) : Wp 29 j = true := by show (_ : Bool) = true; unfold Wp; rw [Nat.ble_eq_true_of_le h]; simp; exact Or.inl rfl
theorem Wp_30 {j : Nat} (h : 10 ≤ j) : Wp 30 j = true := by show (_ : Bool) = true; unfold Wp; rw [Nat.ble_eq_true_of_le h]; simp; exact Or.inl rfl
theorem Wp_31 {j : Nat} (h : 10 ≤ j) : Wp 31 j = true := by show (_ : Bool) = true; unfold Wp; rw [Nat.ble_eq_true_of_le h]; simp; exact Or.inl rfl
theorem Wp_32 {j : Nat} (h : 10 ≤ j) : Wp 32 j = true := by show (_ : Bool) = true; unfold Wp; rw [Nat.ble_eq_true_of_le h]; simp; exact Or.inl rfl
theorem Wp_33 {j : Nat} (h : 10 ≤ j) : Wp 33 j = true := by show (_ : Bool) = true; unfold Wp; rw [Nat.ble_eq_true_of_le h]; simp; exact Or.inl rfl
theorem Wp_34 {j : Nat} (h : 21 ≤ j) : Wp 34 j = true := by show (_ : Bool) = true; unfold Wp; rw [Nat.ble_eq_true_of_le h]; simp; exact Or.inl rfl
theorem Wp_39 {j : Nat} (h : 64 ≤ j) : Wp 39 j = true := by show (_ : Bool) = true; unfold Wp; rw [Nat.ble_eq_true_of_le h]; simp; exact Or.inl rfl
theorem Wp_40 {j : Nat} (h : 64 ≤ j) : Wp 40 j = true := by show (_ : Bool) = true; unfold Wp; rw [Nat.ble_eq_true_of_le h]; simp; exact Or.inl rfl
theorem Wp_41 {j : Nat} (h : 64 ≤ j) : Wp 41 j = true := by show (_ : Bool) = true; unfold Wp; rw [Nat.ble_eq_true_of_le h]; simp; exact Or.inl rfl
theorem t_X8_wrong (S : Tr) (x1 : Int32) (hS : iR BM S) : D (f_X8_wrong S x1) (fun (q : Int32 × Tr) => q.1 = 0 ∧ iR BM q.2 ∧ aP S q.2 ∧ (∀ a j, ¬ (a = 0 ∧ (j = 4 ∨ j = 5)) → q.2 a j = S a j)) := by
  unfold f_X8_wrong
  refine D_some ⟨rfl, ?_, ?_, ?_⟩
  · have h1 := i_rng x1
    have h2 := i_rng ((st S 0 4 x1) 0 10)
    refine iR_set (a := 0) (i := 5) (iR_set (a := 0) (i := 4) hS ?_ ?_) ?_ ?_
    · show (-2147483648 : Int) ≤ _; exact h1.1
    · show _ ≤ (2147483647 : Int); omega
    · show (-2147483648 : Int) ≤ _; exact h2.1
    · show _ ≤ (2147483647 : Int); omega
  · exact aP_set (aP_set aP_rfl rfl) rfl
  · intro a j hn
    rcases st_or (S := st S 0 4 x1) (a := 0) (i := 5) (b := a) (j := j) (v := (st S 0 4 x1) 0 10) with e | ⟨e1, e2⟩
    · refine Eq.trans e ?_
      rcases st_or (S := S) (a := 0) (i := 4) (b := a) (j := j) (v := x1) with e | ⟨e1, e2⟩
      · exact e
      · exact absurd ⟨e1, Or.inl e2⟩ hn
    · exact absurd ⟨e1, Or.inr e2⟩ hn
set_option maxHeartbeats 1000000 in
set_option maxRecDepth 100000 in
theorem t_X8_isDigit (S : Tr) (x1 : Int32) (hS : iR BM S) (hx1 : 0 ≤ x1.toInt ∧ x1.toInt ≤ 700) : D (f_X8_isDigit S x1) (fun (q : Int32) => (0 ≤ q.toInt ∧ q.toInt ≤ 1) ∧ (q.toInt = 1 → x1.toInt < (S 0 6).toInt)) := by
  unfold f_X8_isDigit
  have n1 : 0 ≤ (S 0 6).toInt ∧ (S 0 6).toInt ≤ 700 := hS 0 6
  refine D_ite (fun c2 => ?_) (fun c2 => ?_)
  · have kc2 := tq_le (x := (S 0 6)) (y := x1) rfl rfl c2
    have l0 : (0 : Int32).toInt = 0 := by decide
    exact D_some (show (0 ≤ (0 : Int32).toInt ∧ (0 : Int32).toInt ≤ 1) ∧ ((0 : Int32).toInt = 1 → x1.toInt < (S 0 6).toInt) from ⟨⟨(by clear hx1 n1 kc2; omega), (by clear hx1 n1 kc2; omega)⟩, (by omega)⟩)
  · have kc2 := tq_len (x := (S 0 6)) (y := x1) rfl rfl c2
    refine D_ck (okI_of (by omega) (by omega)) ?_
    have n4 := i_rng (S 1 x1.toNatClampNeg)
    refine D_ite (fun c3 => ?_) (fun c3 => ?_)
    · have kc3 := tq_lt (x := (S 1 x1.toNatClampNeg)) (y := (48 : Int32)) rfl (b := 48) (by decide) c3
      have l0 : (0 : Int32).toInt = 0 := by decide
      exact D_some (show (0 ≤ (0 : Int32).toInt ∧ (0 : Int32).toInt ≤ 1) ∧ ((0 : Int32).toInt = 1 → x1.toInt < (S 0 6).toInt) from ⟨⟨(by clear hx1 n1 kc2 n4 kc3; omega), (by clear hx1 n1 kc2 n4 kc3; omega)⟩, (by omega)⟩)
    · have kc3 := tq_ltn (x := (S 1 x1.toNatClampNeg)) (y := (48 : Int32)) rfl (b := 48) (by decide) c3
      refine D_ite (fun c5 => ?_) (fun c5 => ?_)
      · have kc5 := tq_lt (x := (57 : Int32)) (y := (S 1 x1.toNatClampNeg)) (a := 57) (by decide) rfl c5
        have l0 : (0 : Int32).toInt = 0 := by decide
        exact D_some (show (0 ≤ (0 : Int32).toInt ∧ (0 : Int32).toInt ≤ 1) ∧ ((0 : Int32).toInt = 1 → x1.toInt < (S 0 6).toInt) from ⟨⟨(by clear hx1 n1 kc2 n4 kc3 kc5; omega), (by clear hx1 n1 kc2 n4 kc3 kc5; omega)⟩, (by clear n4 kc3 kc5; omega)⟩)
      · have kc5 := tq_ltn (x := (57 : Int32)) (y := (S 1 x1.toNatClampNeg)) (a := 57) (by decide) rfl c5
        have l1 : (1 : Int32).toInt = 1 := by decide
        exact D_some (show (0 ≤ (1 : Int32).toInt ∧ (1 : Int32).toInt ≤ 1) ∧ ((1 : Int32).toInt = 1 → x1.toInt < (S 0 6).toInt) from ⟨⟨(by clear hx1 n1 kc2 n4 kc3 kc5; omega), (by clear hx1 n1 kc2 n4 kc3 kc5; omega)⟩, (by clear n4 kc3 kc5; omega)⟩)
set_option maxHeartbeats 1000000 in
set_option maxRecDepth 100000 in
theorem t_X8_isKey (S : Tr) (x1 : Int32) (hS : iR BM S) : D (f_X8_isKey S x1) (fun (q : Int32) => (0 ≤ q.toInt ∧ q.toInt ≤ 1)) := by
  unfold f_X8_isKey
  have n2 : 0 ≤ (S 0 8).toInt ∧ (S 0 8).toInt ≤ 6 := hS 0 8
  refine D_ite (fun c1 => ?_) (fun c1 => ?_)
  · have kc1 := tq_eq (x := (S 0 8)) (y := (1 : Int32)) rfl (b := 1) (by decide) c1
    have n4 := i_rng (S 0 9)
    have n5 := i_rng x1
    refine D_ite (fun c3 => ?_) (fun c3 => ?_)
    · have kc3 := tq_eq (x := (S 0 9)) (y := x1) rfl rfl c3
      have l1 : (1 : Int32).toInt = 1 := by decide
      exact D_some (show (0 ≤ (1 : Int32).toInt ∧ (1 : Int32).toInt ≤ 1) from ⟨(by clear n2 kc1 n4 n5 kc3; omega), (by clear n2 kc1 n4 n5 kc3; omega)⟩)
    · skip
      have l0 : (0 : Int32).toInt = 0 := by decide
      exact D_some (show (0 ≤ (0 : Int32).toInt ∧ (0 : Int32).toInt ≤ 1) from ⟨(by clear n2 kc1 n4 n5; omega), (by clear n2 kc1 n4 n5; omega)⟩)
  · skip
    have l0 : (0 : Int32).toInt = 0 := by decide
    exact D_some (show (0 ≤ (0 : Int32).toInt ∧ (0 : Int32).toInt ≤ 1) from ⟨(by omega), (by omega)⟩)
set_option maxHeartbeats 1000000 in
set_option maxRecDepth 100000 in
theorem t_X8_isSmall (S : Tr) (x1 : Int32) (hS : iR BM S) (hx1 : 0 ≤ x1.toInt ∧ x1.toInt ≤ 700) : D (f_X8_isSmall S x1) (fun (q : Int32) => (0 ≤ q.toInt ∧ q.toInt ≤ 1) ∧ (q.toInt = 1 → x1.toInt < (S 0 6).toInt)) := by
  unfold f_X8_isSmall
  have n1 : 0 ≤ (S 0 6).toInt ∧ (S 0 6).toInt ≤ 700 := hS 0 6
  refine D_ite (fun c2 => ?_) (fun c2 => ?_)
  · have kc2 := tq_le (x := (S 0 6)) (y := x1) rfl rfl c2
    have l0 : (0 : Int32).toInt = 0 := by decide
    exact D_some (show (0 ≤ (0 : Int32).toInt ∧ (0 : Int32).toInt ≤ 1) ∧ ((0 : Int32).toInt = 1 → x1.toInt < (S 0 6).toInt) from ⟨⟨(by clear hx1 n1 kc2; omega), (by clear hx1 n1 kc2; omega)⟩, (by omega)⟩)
  · have kc2 := tq_len (x := (S 0 6)) (y := x1) rfl rfl c2
    refine D_ck (okI_of (by omega) (by omega)) ?_
    have n4 := i_rng (S 1 x1.toNatClampNeg)
    refine D_ite (fun c3 => ?_) (fun c3 => ?_)
    · have kc3 := tq_lt (x := (S 1 x1.toNatClampNeg)) (y := (97 : Int32)) rfl (b := 97) (by decide) c3
      have l0 : (0 : Int32).toInt = 0 := by decide
      exact D_some (show (0 ≤ (0 : Int32).toInt ∧ (0 : Int32).toInt ≤ 1) ∧ ((0 : Int32).toInt = 1 → x1.toInt < (S 0 6).toInt) from ⟨⟨(by clear hx1 n1 kc2 n4 kc3; omega), (by clear hx1 n1 kc2 n4 kc3; omega)⟩, (by omega)⟩)
    · have kc3 := tq_ltn (x := (S 1 x1.toNatClampNeg)) (y := (97 : Int32)) rfl (b := 97) (by decide) c3
      refine D_ite (fun c5 => ?_) (fun c5 => ?_)
      · have kc5 := tq_lt (x := (122 : Int32)) (y := (S 1 x1.toNatClampNeg)) (a := 122) (by decide) rfl c5
        have l0 : (0 : Int32).toInt = 0 := by decide
        exact D_some (show (0 ≤ (0 : Int32).toInt ∧ (0 : Int32).toInt ≤ 1) ∧ ((0 : Int32).toInt = 1 → x1.toInt < (S 0 6).toInt) from ⟨⟨(by clear hx1 n1 kc2 n4 kc3 kc5; omega), (by clear hx1 n1 kc2 n4 kc3 kc5; omega)⟩, (by clear n4 kc3 kc5; omega)⟩)
      · have kc5 := tq_ltn (x := (122 : Int32)) (y := (S 1 x1.toNatClampNeg)) (a := 122) (by decide) rfl c5
        have l1 : (1 : Int32).toInt = 1 := by decide
        exact D_some (show (0 ≤ (1 : Int32).toInt ∧ (1 : Int32).toInt ≤ 1) ∧ ((1 : Int32).toInt = 1 → x1.toInt < (S 0 6).toInt) from ⟨⟨(by clear hx1 n1 kc2 n4 kc3 kc5; omega), (by clear hx1 n1 kc2 n4 kc3 kc5; omega)⟩, (by clear n4 kc3 kc5; omega)⟩)
set_option maxHeartbeats 1000000 in
set_option maxRecDepth 100000 in
theorem tl_X8_packed_L5 (S : Tr) (x1 : Int32) (x2 : Int32) (hS : iR BM S) (hx1 : 0 ≤ x1.toInt ∧ x1.toInt ≤ 700) (hx2 : 0 ≤ x2.toInt ∧ x2.toInt ≤ 700)   (N : Nat) : ∀ (x3 : Int32) (x4 : Int32), 0 ≤ x4.toInt ∧ x4.toInt ≤ 706 → 1000 - x4.toInt < (N : Int) → D (lpF (fun _ _ => none) (fB_X8_packed_L5 S x1 x2) N x3 x4) (fun (q : Int32) => True) := by
  induction N with
  | zero =>
    intro x3 x4 hx4 hN
    exfalso
    omega
  | succ N5 ih =>
    intro x3 x4 hx4 hN
    have hk5 : ∀ (x3 : Int32) (x4 : Int32), 0 ≤ x4.toInt ∧ x4.toInt ≤ 706 → 1000 - x4.toInt < (N5 : Int) → D (lpF (fun _ _ => none) (fB_X8_packed_L5 S x1 x2) N5 x3 x4) (fun (q : Int32) => True) := ih
    show D (fB_X8_packed_L5 S x1 x2 (lpF (fun _ _ => none) (fB_X8_packed_L5 S x1 x2) N5) x3 x4) _
    generalize lpF (fun _ _ => none) (fB_X8_packed_L5 S x1 x2) N5 = k5 at hk5 ⊢
    have hN5 : 1000 - x4.toInt < (N5 : Int) + 1 := by omega
    clear ih
    unfold fB_X8_packed_L5
    have n2 : (x1 + 6).toInt = x1.toInt + 6 := i_addK rfl (by decide) (by clear hx2 hx4 hN5 hN; omega) (by clear hx2 hx4 hN5 hN; omega)
    refine D_ite (fun c1 => ?_) (fun c1 => ?_)
    · have kc1 := tq_le (x := (x1 + 6)) (y := x4) rfl rfl c1
      have n3 := i_rng x3
      exact D_some trivial
    · have kc1 := tq_len (x := (x1 + 6)) (y := x4) rfl rfl c1
      refine D_ite (fun c4 => ?_) (fun c4 => ?_)
      · have kc4 := tq_le (x := x2) (y := x4) rfl rfl c4
        refine D_lt (fun y5 ey5 => ?_)
        have n6 := i_rng ((x3 <<< (5 &&& 31)) ||| 0)
        have hy5 : y5.toInt = ((x3 <<< (5 &&& 31)) ||| 0).toInt := by rw [ey5]
        have n8 : (x4 + 1).toInt = x4.toInt + 1 := i_addK rfl (by decide) (by clear hN5 hN n6 hy5; omega) (by clear hN5 hN n6 hy5; omega)
        refine D_lt (fun y7 ey7 => ?_)
        have hy7 : y7.toInt = (x4 + 1 : Int32).toInt := by rw [ey7]
        exact hk5 y5 y7 ⟨(by clear hN5 hN n6 hy5; omega), (by clear hN5 hN n6 hy5; omega)⟩ (by omega)
      · have kc4 := tq_len (x := x2) (y := x4) rfl rfl c4
        refine D_ck (okI_of (by omega) (by omega)) ?_
        refine D_lt (fun y9 ey9 => ?_)
        have n10 := i_rng ((x3 <<< (5 &&& 31)) ||| ((S 1 x4.toNatClampNeg) - 96))
        have hy9 : y9.toInt = ((x3 <<< (5 &&& 31)) ||| ((S 1 x4.toNatClampNeg) - 96)).toInt := by rw [ey9]
        have n12 : (x4 + 1).toInt = x4.toInt + 1 := i_addK rfl (by decide) (by clear hN5 hN n10 hy9; omega) (by clear hN5 hN n10 hy9; omega)
        refine D_lt (fun y11 ey11 => ?_)
        have hy11 : y11.toInt = (x4 + 1 : Int32).toInt := by rw [ey11]
        exact hk5 y9 y11 ⟨(by clear hN5 hN n10 hy9; omega), (by clear hN5 hN n10 hy9; omega)⟩ (by omega)
set_option maxHeartbeats 1000000 in
set_option maxRecDepth 100000 in
theorem t_X8_packed (S : Tr) (x1 : Int32) (x2 : Int32) (hS : iR BM S) (hx1 : 0 ≤ x1.toInt ∧ x1.toInt ≤ 700) (hx2 : 0 ≤ x2.toInt ∧ x2.toInt ≤ 700) : D (f_X8_packed S x1 x2) (fun (q : Int32) => True) := by
  unfold f_X8_packed
  have l0 : (0 : Int32).toInt = 0 := by decide
  exact tl_X8_packed_L5 S x1 x2 hS ⟨(by omega), (by omega)⟩ ⟨(by omega), (by omega)⟩   2000 (0 : Int32) x1 ⟨(by omega), (by omega)⟩ (by omega)
set_option maxHeartbeats 1000000 in
set_option maxRecDepth 100000 in
theorem t_X8_isSign (S : Tr) (x1 : Int32) (hS : iR BM S) : D (f_X8_isSign S x1) (fun (q : Int32) => (0 ≤ q.toInt ∧ q.toInt ≤ 1)) := by
  unfold f_X8_isSign
  have n2 : 0 ≤ (S 0 8).toInt ∧ (S 0 8).toInt ≤ 6 := hS 0 8
  refine D_ite (fun c1 => ?_) (fun c1 => ?_)
  · have kc1 := tq_eq (x := (S 0 8)) (y := (4 : Int32)) rfl (b := 4) (by decide) c1
    have n4 := i_rng (S 0 9)
    have n5 := i_rng x1
    refine D_ite (fun c3 => ?_) (fun c3 => ?_)
    · have kc3 := tq_eq (x := (S 0 9)) (y := x1) rfl rfl c3
      have l1 : (1 : Int32).toInt = 1 := by decide
      exact D_some (show (0 ≤ (1 : Int32).toInt ∧ (1 : Int32).toInt ≤ 1) from ⟨(by clear n2 kc1 n4 n5 kc3; omega), (by clear n2 kc1 n4 n5 kc3; omega)⟩)
    · skip
      have l0 : (0 : Int32).toInt = 0 := by decide
      exact D_some (show (0 ≤ (0 : Int32).toInt ∧ (0 : Int32).toInt ≤ 1) from ⟨(by clear n2 kc1 n4 n5; omega), (by clear n2 kc1 n4 n5; omega)⟩)
  · skip
    have l0 : (0 : Int32).toInt = 0 := by decide
    exact D_some (show (0 ≤ (0 : Int32).toInt ∧ (0 : Int32).toInt ≤ 1) from ⟨(by omega), (by omega)⟩)
set_option maxHeartbeats 1000000 in
set_option maxRecDepth 100000 in
theorem tl_X8_plain_L70 (zaP : Tr)    (N : Nat) : ∀ (x1 : Int32) (S : Tr), aP zaP S → iR BM S → 0 ≤ x1.toInt ∧ x1.toInt ≤ 1000 → 1000 - x1.toInt < (N : Int) → D (lpF (fun _ _ => none) (fB_X8_plain_L70 ) N x1 S) (fun (q : Tr) => (iR BM q) ∧ (aP zaP q)) := by
  induction N with
  | zero =>
    intro x1 S daP hS hx1 hN
    exfalso
    omega
  | succ N70 ih =>
    intro x1 S daP hS hx1 hN
    have hk70 : ∀ (x1 : Int32) (S : Tr), aP zaP S → iR BM S → 0 ≤ x1.toInt ∧ x1.toInt ≤ 1000 → 1000 - x1.toInt < (N70 : Int) → D (lpF (fun _ _ => none) (fB_X8_plain_L70 ) N70 x1 S) (fun (q : Tr) => (iR BM q) ∧ (aP zaP q)) := ih
    show D (fB_X8_plain_L70  (lpF (fun _ _ => none) (fB_X8_plain_L70 ) N70) x1 S) _
    generalize lpF (fun _ _ => none) (fB_X8_plain_L70 ) N70 = k70 at hk70 ⊢
    have hN70 : 1000 - x1.toInt < (N70 : Int) + 1 := by omega
    clear ih
    unfold fB_X8_plain_L70
    refine D_ite (fun c35 => ?_) (fun c35 => ?_)
    · have kc35 := tq_le (x := (21 : Int32)) (y := x1) (a := 21) (by decide) rfl c35
      exact D_some (show (iR BM S) ∧ (aP zaP S) from ⟨hS, daP⟩)
    · have kc35 := tq_len (x := (21 : Int32)) (y := x1) (a := 21) (by decide) rfl c35
      have n36 : ((21 : Int32) + x1).toInt = 21 + x1.toInt := i_addK (by decide) rfl (by omega) (by omega)
      refine D_ck (okI_of (by omega) (by omega)) ?_
      refine D_lt (fun S_37 eS_37 => ?_)
      have hS_37 : iR BM S_37 := by rw [eS_37]; exact iR_setU hS rfl
      have kaP_t38 : aP zaP S_37 := (by rw [eS_37]; exact aP_set daP (Wp_34 (by simp only [i_cl]; omega)))
      refine D_ck (okI_of (by omega) (by omega)) ?_
      refine D_lt (fun S_39 eS_39 => ?_)
      have hS_39 : iR BM S_39 := by rw [eS_39]; exact iR_setU hS_37 rfl
      have kaP_t40 : aP zaP S_39 := (by rw [eS_39]; exact aP_set kaP_t38 rfl)
      have n42 : (x1 + 1).toInt = x1.toInt + 1 := i_addK rfl (by decide) (by omega) (by omega)
      refine D_lt (fun y41 ey41 => ?_)
      have hy41 : y41.toInt = (x1 + 1 : Int32).toInt := by rw [ey41]
      exact hk70 y41 S_39 kaP_t40 hS_39 ⟨(by omega), (by omega)⟩ (by omega)
set_option maxHeartbeats 1000000 in
set_option maxRecDepth 100000 in
theorem tl_X8_plain_L32 (zaP : Tr)    (N : Nat) : ∀ (x1 : Int32) (S : Tr), aP zaP S → iR BM S → 0 ≤ x1.toInt ∧ x1.toInt ≤ 1000 → 1000 - x1.toInt < (N : Int) → D (lpF (fun _ _ => none) (fB_X8_plain_L32 ) N x1 S) (fun (q : Tr) => (iR BM q) ∧ (aP zaP q)) := by
  induction N with
  | zero =>
    intro x1 S daP hS hx1 hN
    exfalso
    omega
  | succ N32 ih =>
    intro x1 S daP hS hx1 hN
    have hk32 : ∀ (x1 : Int32) (S : Tr), aP zaP S → iR BM S → 0 ≤ x1.toInt ∧ x1.toInt ≤ 1000 → 1000 - x1.toInt < (N32 : Int) → D (lpF (fun _ _ => none) (fB_X8_plain_L32 ) N32 x1 S) (fun (q : Tr) => (iR BM q) ∧ (aP zaP q)) := ih
    show D (fB_X8_plain_L32  (lpF (fun _ _ => none) (fB_X8_plain_L32 ) N32) x1 S) _
    generalize lpF (fun _ _ => none) (fB_X8_plain_L32 ) N32 = k32 at hk32 ⊢
    have hN32 : 1000 - x1.toInt < (N32 : Int) + 1 := by omega
    clear ih
    unfold fB_X8_plain_L32
    refine D_ite (fun c34 => ?_) (fun c34 => ?_)
    · have kc34 := tq_le (x := (3 : Int32)) (y := x1) (a := 3) (by decide) rfl c34
      have l0 : (0 : Int32).toInt = 0 := by decide
      exact tl_X8_plain_L70 zaP    2000 (0 : Int32) S daP hS ⟨(by clear hx1 hN32 hN kc34; omega), (by clear hx1 hN32 hN kc34; omega)⟩ (by clear hx1 hN32 hN kc34; omega)
    · have kc34 := tq_len (x := (3 : Int32)) (y := x1) (a := 3) (by decide) rfl c34
      refine D_ck (okI_of (by omega) (by omega)) ?_
      refine D_lt (fun S_43 eS_43 => ?_)
      have hS_43 : iR BM S_43 := by rw [eS_43]; exact iR_setU hS rfl
      have kaP_t44 : aP zaP S_43 := (by rw [eS_43]; exact aP_set daP rfl)
      have n45 : ((3 : Int32) + x1).toInt = 3 + x1.toInt := i_addK (by decide) rfl (by omega) (by omega)
      refine D_ck (okI_of (by omega) (by omega)) ?_
      refine D_lt (fun S_46 eS_46 => ?_)
      have hS_46 : iR BM S_46 := by rw [eS_46]; exact iR_setU hS_43 rfl
      have kaP_t47 : aP zaP S_46 := (by rw [eS_46]; exact aP_set kaP_t44 (Wp_23 (by simp only [i_cl]; omega)))
      refine D_lt (fun S_48 eS_48 => ?_)
      have hS_48 : iR BM S_48 := by rw [eS_48]; exact iR_setU hS_46 rfl
      have kaP_t49 : aP zaP S_48 := (by rw [eS_48]; exact aP_set kaP_t47 (Wp_36 (by simp only [i_cl]; omega)))
      have n51 : (x1 + 1).toInt = x1.toInt + 1 := i_addK rfl (by decide) (by omega) (by omega)
      refine D_lt (fun y50 ey50 => ?_)
      have hy50 : y50.toInt = (x1 + 1 : Int32).toInt := by rw [ey50]
      exact hk32 y50 S_48 kaP_t49 hS_48 ⟨(by omega), (by omega)⟩ (by omega)
set_option maxHeartbeats 1000000 in
set_option maxRecDepth 100000 in
theorem t_X8_plain (S : Tr) (hS : iR BM S) : D (f_X8_plain S) (fun (q : Tr) => (iR BM q) ∧ (aP S q)) := by
  unfold f_X8_plain
  have l0 : (0 : Int32).toInt = 0 := by decide
  refine D_lt (fun S_1 eS_1 => ?_)
  have hS_1 : iR BM S_1 := by rw [eS_1]; exact iR_set hS (show (0 : Int) ≤ _ from (by omega)) (show _ ≤ (5 : Int) from (by omega))
  have kaP_t2 : aP S S_1 := (by rw [eS_1]; exact aP_set aP_rfl rfl)
  have n3 : (S_1 0 16).toInt = (0 : Int32).toInt := by rw [eS_1]; rfl
  refine D_lt (fun S_4 eS_4 => ?_)
  have hS_4 : iR BM S_4 := by rw [eS_4]; exact iR_set hS_1 (show (0 : Int) ≤ _ from (by omega)) (show _ ≤ (6 : Int) from (by omega))
  have kaP_t5 : aP S S_4 := (by rw [eS_4]; exact aP_set kaP_t2 rfl)
  have n6 : (S_4 0 16).toInt = (S_1 0 16).toInt := by rw [eS_4]; rfl
  have n7 : (S_4 0 17).toInt = (0 : Int32).toInt := by rw [eS_4]; rfl
  refine D_lt (fun S_8 eS_8 => ?_)
  have hS_8 : iR BM S_8 := by rw [eS_8]; exact iR_set hS_4 (show (0 : Int) ≤ _ from (by clear n3 n6 n7; omega)) (show _ ≤ (10 : Int) from (by clear n3 n6 n7; omega))
  have kaP_t9 : aP S S_8 := (by rw [eS_8]; exact aP_set kaP_t5 rfl)
  have n10 : (S_8 0 17).toInt = (S_4 0 17).toInt := by rw [eS_8]; rfl
  have n11 : (S_8 0 16).toInt = (S_4 0 16).toInt := by rw [eS_8]; rfl
  have n12 : (S_8 0 18).toInt = (0 : Int32).toInt := by rw [eS_8]; rfl
  refine D_lt (fun S_13 eS_13 => ?_)
  have hS_13 : iR BM S_13 := by rw [eS_13]; exact iR_set hS_8 (show (0 : Int) ≤ _ from (by clear n3 n6 n7 n10 n11 n12; omega)) (show _ ≤ (64 : Int) from (by clear n3 n6 n7 n10 n11 n12; omega))
  have kaP_t14 : aP S S_13 := (by rw [eS_13]; exact aP_set kaP_t9 rfl)
  have n15 : (S_13 0 17).toInt = (S_8 0 17).toInt := by rw [eS_13]; rfl
  have n16 : (S_13 0 18).toInt = (S_8 0 18).toInt := by rw [eS_13]; rfl
  have n17 : (S_13 0 16).toInt = (S_8 0 16).toInt := by rw [eS_13]; rfl
  have n18 : (S_13 0 19).toInt = (0 : Int32).toInt := by rw [eS_13]; rfl
  refine D_lt (fun S_19 eS_19 => ?_)
  have hS_19 : iR BM S_19 := by rw [eS_19]; exact iR_set hS_13 (show (0 : Int) ≤ _ from (by clear n3 n6 n7 n10 n11 n12 n15 n16 n17 n18; omega)) (show _ ≤ (10 : Int) from (by clear n3 n6 n7 n10 n11 n12 n15 n16 n17 n18; omega))
  have kaP_t20 : aP S S_19 := (by rw [eS_19]; exact aP_set kaP_t14 rfl)
  have n21 : (S_19 0 19).toInt = (S_13 0 19).toInt := by rw [eS_19]; rfl
  have n22 : (S_19 0 17).toInt = (S_13 0 17).toInt := by rw [eS_19]; rfl
  have n23 : (S_19 0 18).toInt = (S_13 0 18).toInt := by rw [eS_19]; rfl
  have n24 : (S_19 0 16).toInt = (S_13 0 16).toInt := by rw [eS_19]; rfl
  have n25 : (S_19 0 20).toInt = (0 : Int32).toInt := by rw [eS_19]; rfl
  refine D_lt (fun S_26 eS_26 => ?_)
  have hS_26 : iR BM S_26 := by rw [eS_26]; exact iR_set hS_19 (show (0 : Int) ≤ _ from (by clear n3 n6 n7 n10 n11 n12 n15 n16 n17 n18 n21 n22 n23 n24 n25; omega)) (show _ ≤ (64 : Int) from (by clear n3 n6 n7 n10 n11 n12 n15 n16 n17 n18 n21 n22 n23 n24 n25; omega))
  have kaP_t27 : aP S S_26 := (by rw [eS_26]; exact aP_set kaP_t20 rfl)
  have n28 : (S_26 0 19).toInt = (S_19 0 19).toInt := by rw [eS_26]; rfl
  have n29 : (S_26 0 20).toInt = (S_19 0 20).toInt := by rw [eS_26]; rfl
  have n30 : (S_26 0 18).toInt = (S_19 0 18).toInt := by rw [eS_26]; rfl
  have n31 : (S_26 0 17).toInt = (S_19 0 17).toInt := by rw [eS_26]; rfl
  have n32 : (S_26 0 16).toInt = (S_19 0 16).toInt := by rw [eS_26]; rfl
  have n33 : (S_26 0 46).toInt = (0 : Int32).toInt := by rw [eS_26]; rfl
  exact tl_X8_plain_L32 S    2000 (0 : Int32) S_26 kaP_t27 hS_26 ⟨(by clear n3 n6 n7 n10 n11 n12 n15 n16 n17 n18 n21 n22 n23 n24 n25 n28 n29 n30 n31 n32 n33; omega), (by clear n3 n6 n7 n10 n11 n12 n15 n16 n17 n18 n21 n22 n23 n24 n25 n28 n29 n30 n31 n32 n33; omega)⟩ (by clear n3 n6 n7 n10 n11 n12 n15 n16 n17 n18 n21 n22 n23 n24 n25 n28 n29 n30 n31 n32 n33; omega)
