/-! what reading leaves standing -/
theorem jR_P {z T : Tr} (h : jR z) (hi : iR BM T) (a : aP z T) (hk : ∀ k, nodeOK T k) : jR T := by
  obtain ⟨h1, h2, h3, h4, h5, h6⟩ := h
  have n36 : ∀ w, w < 3 → T 36 w = z 36 w := fun w hw => a 36 w ((by decide : ∀ i : Fin 3, Wp 36 i.val = false) ⟨w, hw⟩)
  have n38 : ∀ w, w < 3 → T 38 w = z 38 w := fun w hw => a 38 w ((by decide : ∀ i : Fin 3, Wp 38 i.val = false) ⟨w, hw⟩)
  have n30 : ∀ w, w < 10 → T 30 w = z 30 w := fun w hw => a 30 w ((by decide : ∀ i : Fin 10, Wp 30 i.val = false) ⟨w, hw⟩)
  have n29 : ∀ w, w < 6 → T 29 w = z 29 w := fun w hw => a 29 w ((by decide : ∀ i : Fin 6, Wp 29 i.val = false) ⟨w, hw⟩)
  have e13 := a 0 13 rfl
  have e14 := a 0 14 rfl
  refine ⟨hi, ⟨hk, fun w hw hl => ?_, fun i hi hl => ?_, fun p hp hl => ?_⟩, gI_fr h3 (fun j => a 53 j rfl) (fun j => a 54 j rfl) (fun j => a 55 j rfl) (fun j => a 56 j rfl) (fun j => a 58 j rfl) e13 e14, uI_fr h1 h4 (fun j => a 84 j rfl) (fun i _ => a 53 i rfl) (Int.le_of_eq (by rw [a 0 82 rfl])) e13 e14, vI_fr h1 h5 (fun j => a 86 j rfl) (fun j => a 87 j rfl) (a 0 84 rfl) e13 e14, zI_fr h6 (fun j => a 81 j rfl)⟩
  · rw [n38 w hw]; rw [n36 w hw] at hl; exact h2.2.1 w hw hl
  · rw [n30 i hi, e13]; rw [e14] at hl; exact h2.2.2.1 i hi hl
  · rw [n29 p hp]; rw [e13] at hl; exact h2.2.2.2 p hp hl
/-! plain: nothing is read yet -/
theorem p_70 (N : Nat) : ∀ (x1 : Int32) (T : Tr), 0 ≤ x1.toInt → x1.toInt ≤ 21 → 30 - x1.toInt < (N : Int) → D (lpF (fun _ _ => none) fB_X8_plain_L70 N x1 T) (fun q => ∀ a, ¬ a = 34 → ¬ a = 35 → q a = T a) := by
  induction N with
  | zero => intro x1 T h1 h2 h3; omega
  | succ N ih =>
    intro x1 T h1 h2 h3
    show D (fB_X8_plain_L70 (lpF (fun _ _ => none) fB_X8_plain_L70 N) x1 T) _
    generalize lpF (fun _ _ => none) fB_X8_plain_L70 N = k at ih ⊢
    unfold fB_X8_plain_L70
    refine D_ite (fun _ => D_some (fun _ _ _ => rfl)) (fun c => ?_)
    have k1 := tq_len (x := (21 : Int32)) (y := x1) (a := 21) (by decide) rfl c
    have e1 : ((21 : Int32) + x1).toInt = 21 + x1.toInt := i_addK (by decide) rfl (by omega) (by omega)
    refine D_ck (okI_of (by omega) (by omega)) (D_lt (fun S1 eS1 => D_ck (okI_of (by omega) (by omega)) (D_lt (fun S2 eS2 => D_lt (fun y ey => ?_)))))
    have e2 : y.toInt = x1.toInt + 1 := by rw [ey]; exact i_addK rfl (by decide) (by omega) (by omega)
    refine D_mono (ih y S2 (by omega) (by omega) (by omega)) (fun q hq a h4 h5 => ?_)
    rw [hq a h4 h5, eS2, st_oth h5, eS1, st_oth h4]
theorem p_32 (N : Nat) : ∀ (x1 : Int32) (T : Tr), 0 ≤ x1.toInt → x1.toInt ≤ 3 → 10 - x1.toInt < (N : Int) → (∀ w : Nat, (w : Int) < x1.toInt → T 36 (3 + w) = 0) → D (lpF (fun _ _ => none) fB_X8_plain_L32 N x1 T) (fun q => (∀ w : Nat, w < 3 → q 36 (3 + w) = 0) ∧ ∀ a, ¬ a = 34 → ¬ a = 35 → ¬ a = 22 → ¬ a = 23 → ¬ a = 36 → q a = T a) := by
  induction N with
  | zero => intro x1 T h1 h2 h3; omega
  | succ N ih =>
    intro x1 T h1 h2 h3 h4
    show D (fB_X8_plain_L32 (lpF (fun _ _ => none) fB_X8_plain_L32 N) x1 T) _
    generalize lpF (fun _ _ => none) fB_X8_plain_L32 N = k at ih ⊢
    unfold fB_X8_plain_L32
    refine D_ite (fun c => ?_) (fun c => ?_)
    · have k1 := tq_le (x := (3 : Int32)) (y := x1) (a := 3) (by decide) rfl c
      refine D_mono (p_70 2000 0 T (by decide) (by decide) (by decide)) (fun q hq => ⟨fun w hw => ?_, fun a g1 g2 _ _ _ => hq a g1 g2⟩)
      rw [hq 36 (by decide) (by decide)]; exact h4 w (by omega)
    · have k1 := tq_len (x := (3 : Int32)) (y := x1) (a := 3) (by decide) rfl c
      have e1 : ((3 : Int32) + x1).toInt = 3 + x1.toInt := i_addK (by decide) rfl (by omega) (by omega)
      have c1 : ((3 : Int32) + x1).toNatClampNeg = 3 + x1.toInt.toNat := by simp only [i_cl]; omega
      refine D_ck (okI_of (by omega) (by omega)) (D_lt (fun S1 eS1 => D_ck (okI_of (by omega) (by omega)) (D_lt (fun S2 eS2 => D_lt (fun S3 eS3 => D_lt (fun y ey => ?_))))))
      rw [c1] at eS3
      have e2 : y.toInt = x1.toInt + 1 := by rw [ey]; exact i_addK rfl (by decide) (by omega) (by omega)
      refine D_mono (ih y S3 (by omega) (by omega) (by omega) (fun w hw => ?_)) (fun q hq => ⟨hq.1, fun a g1 g2 g3 g4 g5 => ?_⟩)
      · rw [eS3]
        by_cases hz : 3 + w = 3 + x1.toInt.toNat
        · rw [hz, st_same]; rfl
        · rw [st_ne hz, eS2, st_oth (by decide), eS1, st_oth (by decide)]; exact h4 w (by omega)
      · rw [hq.2 a g1 g2 g3 g4 g5, eS3, st_oth g5, eS2, st_oth g4, eS1, st_oth g3]
theorem t2_plain (S : Tr) : D (f_X8_plain S) (fun q => q 0 16 = 0 ∧ q 0 17 = 0 ∧ q 0 18 = 0 ∧ q 0 19 = 0 ∧ q 0 46 = 0 ∧ (∀ w : Nat, w < 3 → q 36 (3 + w) = 0) ∧ (∀ j, j < 16 → q 0 j = S 0 j) ∧ (∀ a, ¬ a = 0 → ¬ a = 34 → ¬ a = 35 → ¬ a = 22 → ¬ a = 23 → ¬ a = 36 → q a = S a)) := by
  unfold f_X8_plain
  refine D_lt (fun S1 e1 => D_lt (fun S2 e2 => D_lt (fun S3 e3 => D_lt (fun S4 e4 => D_lt (fun S5 e5 => D_lt (fun S6 e6 => ?_))))))
  refine D_mono (p_32 2000 0 S6 (by decide) (by decide) (by decide) (fun w hw => ?_)) (fun q hq => ?_)
  · exact absurd hw (by rw [show (0 : Int32).toInt = 0 by decide]; omega)
  have z := hq.2 0 (by decide) (by decide) (by decide) (by decide) (by decide)
  rw [z]
  refine ⟨?_, ?_, ?_, ?_, ?_, hq.1, fun j hj => ?_, fun a g0 g1 g2 g3 g4 g5 => ?_⟩
  · rw [e6, st_ne (by decide), e5, st_ne (by decide), e4, st_ne (by decide), e3, st_ne (by decide), e2, st_ne (by decide), e1, st_same]
  · rw [e6, st_ne (by decide), e5, st_ne (by decide), e4, st_ne (by decide), e3, st_ne (by decide), e2, st_same]
  · rw [e6, st_ne (by decide), e5, st_ne (by decide), e4, st_ne (by decide), e3, st_same]
  · rw [e6, st_ne (by decide), e5, st_ne (by decide), e4, st_same]
  · rw [e6, st_same]
  · rw [e6, st_ne (by omega), e5, st_ne (by omega), e4, st_ne (by omega), e3, st_ne (by omega), e2, st_ne (by omega), e1, st_ne (by omega)]
  · rw [hq.2 a g1 g2 g3 g4 g5, e6, st_oth g0, e5, st_oth g0, e4, st_oth g0, e3, st_oth g0, e2, st_oth g0, e1, st_oth g0]
/-! what has been read is kept -/
def cpd (a n : Nat) (S T : Tr) : Prop := (∀ j, j < n → T a j = S a (n + j)) ∧ (∀ c j, ¬ (c = a ∧ j < n) → T c j = S c j)
theorem cpf {a n c : Nat} {S T : Tr} (h : cpd a n S T) (hc : ¬ c = a) : T c = S c := funext (fun j => h.2 c j (fun q => hc q.1))
theorem iR_cp {a n : Nat} {S T : Tr} (h : cpd a n S T) (hB : ∀ i j, BM a i = BM a j) (hS : iR BM S) : iR BM T := fun c j => by
  by_cases q : c = a ∧ j < n
  · obtain ⟨rfl, hj⟩ := q
    rw [h.1 j hj, hB j (n + j)]; exact hS c (n + j)
  · rw [h.2 c j q]; exact hS c j
theorem cp_23 (S : Tr) (N : Nat) : ∀ (x2 : Int32) (T : Tr), 0 ≤ x2.toInt → x2.toInt ≤ 3 → 100 - x2.toInt < (N : Int) → (∀ j : Nat, (j : Int) < x2.toInt → T 23 j = S 23 (3 + j)) → (∀ (c j : Nat), ¬ (c = 23 ∧ (j : Int) < x2.toInt) → T c j = S c j) → D (lpF (fun _ _ => none) (fB_X8_copies_23_L2 3) N x2 T) (cpd 23 3 S) := by
  induction N with
  | zero => intro x2 T h1 h2 h3; omega
  | succ N ih =>
    intro x2 T h1 h2 h3 h4 h5
    show D (fB_X8_copies_23_L2 3 (lpF (fun _ _ => none) (fB_X8_copies_23_L2 3) N) x2 T) _
    generalize lpF (fun _ _ => none) (fB_X8_copies_23_L2 3) N = k at ih ⊢
    unfold fB_X8_copies_23_L2
    refine D_ite (fun c => ?_) (fun c => ?_)
    · have k1 := tq_le (x := (3 : Int32)) (y := x2) (a := 3) (by decide) rfl c
      exact D_some ⟨fun j hj => h4 j (by omega), fun c j q => h5 c j (fun g => q ⟨g.1, by omega⟩)⟩
    · have k1 := tq_len (x := (3 : Int32)) (y := x2) (a := 3) (by decide) rfl c
      have e1 : ((3 : Int32) + x2).toInt = 3 + x2.toInt := i_addK (by decide) rfl (by omega) (by omega)
      have c1 : ((3 : Int32) + x2).toNatClampNeg = 3 + x2.toInt.toNat := by simp only [i_cl]; omega
      have c2 : x2.toNatClampNeg = x2.toInt.toNat := rfl
      refine D_ck (okI_of (by omega) (by omega)) (D_ck (okI_of (by omega) (by omega)) (D_lt (fun T1 e => D_lt (fun y ey => ?_))))
      rw [c1, c2] at e
      have e2 : y.toInt = x2.toInt + 1 := by rw [ey]; exact i_addK rfl (by decide) (by omega) (by omega)
      refine ih y T1 (by omega) (by omega) (by omega) (fun j hj => ?_) (fun c j q => ?_)
      · rw [e]
        by_cases hz : j = x2.toInt.toNat
        · subst hz; rw [st_same]; exact h5 _ _ (fun g => by omega)
        · rw [st_ne hz]; exact h4 j (by omega)
      · rw [e]
        rcases st_or (S := T) (a := 23) (i := x2.toInt.toNat) (b := c) (j := j) (v := T 23 (3 + x2.toInt.toNat)) with g | ⟨g1, g2⟩
        · rw [g]; exact h5 c j (fun g => q ⟨g.1, by omega⟩)
        · exact absurd ⟨g1, by omega⟩ q
theorem r_cp_23 (S : Tr) : D (f_X8_copies_23 S 3) (cpd 23 3 S) :=
  cp_23 S 2000 0 S (by decide) (by decide) (by decide) (fun j hj => absurd hj (by rw [show (0 : Int32).toInt = 0 by decide]; omega)) (fun _ _ _ => rfl)
theorem cp_24 (S : Tr) (N : Nat) : ∀ (x2 : Int32) (T : Tr), 0 ≤ x2.toInt → x2.toInt ≤ 5 → 100 - x2.toInt < (N : Int) → (∀ j : Nat, (j : Int) < x2.toInt → T 24 j = S 24 (5 + j)) → (∀ (c j : Nat), ¬ (c = 24 ∧ (j : Int) < x2.toInt) → T c j = S c j) → D (lpF (fun _ _ => none) (fB_X8_copies_24_L2 5) N x2 T) (cpd 24 5 S) := by
  induction N with
  | zero => intro x2 T h1 h2 h3; omega
  | succ N ih =>
    intro x2 T h1 h2 h3 h4 h5
    show D (fB_X8_copies_24_L2 5 (lpF (fun _ _ => none) (fB_X8_copies_24_L2 5) N) x2 T) _
    generalize lpF (fun _ _ => none) (fB_X8_copies_24_L2 5) N = k at ih ⊢
    unfold fB_X8_copies_24_L2
    refine D_ite (fun c => ?_) (fun c => ?_)
    · have k1 := tq_le (x := (5 : Int32)) (y := x2) (a := 5) (by decide) rfl c
      exact D_some ⟨fun j hj => h4 j (by omega), fun c j q => h5 c j (fun g => q ⟨g.1, by omega⟩)⟩
    · have k1 := tq_len (x := (5 : Int32)) (y := x2) (a := 5) (by decide) rfl c
      have e1 : ((5 : Int32) + x2).toInt = 5 + x2.toInt := i_addK (by decide) rfl (by omega) (by omega)
      have c1 : ((5 : Int32) + x2).toNatClampNeg = 5 + x2.toInt.toNat := by simp only [i_cl]; omega
      have c2 : x2.toNatClampNeg = x2.toInt.toNat := rfl
      refine D_ck (okI_of (by omega) (by omega)) (D_ck (okI_of (by omega) (by omega)) (D_lt (fun T1 e => D_lt (fun y ey => ?_))))
      rw [c1, c2] at e
      have e2 : y.toInt = x2.toInt + 1 := by rw [ey]; exact i_addK rfl (by decide) (by omega) (by omega)
      refine ih y T1 (by omega) (by omega) (by omega) (fun j hj => ?_) (fun c j q => ?_)
      · rw [e]
        by_cases hz : j = x2.toInt.toNat
        · subst hz; rw [st_same]; exact h5 _ _ (fun g => by omega)
        · rw [st_ne hz]; exact h4 j (by omega)
      · rw [e]
        rcases st_or (S := T) (a := 24) (i := x2.toInt.toNat) (b := c) (j := j) (v := T 24 (5 + x2.toInt.toNat)) with g | ⟨g1, g2⟩
        · rw [g]; exact h5 c j (fun g => q ⟨g.1, by omega⟩)
        · exact absurd ⟨g1, by omega⟩ q
theorem r_cp_24 (S : Tr) : D (f_X8_copies_24 S 5) (cpd 24 5 S) :=
  cp_24 S 2000 0 S (by decide) (by decide) (by decide) (fun j hj => absurd hj (by rw [show (0 : Int32).toInt = 0 by decide]; omega)) (fun _ _ _ => rfl)
theorem cp_25 (S : Tr) (N : Nat) : ∀ (x2 : Int32) (T : Tr), 0 ≤ x2.toInt → x2.toInt ≤ 5 → 100 - x2.toInt < (N : Int) → (∀ j : Nat, (j : Int) < x2.toInt → T 25 j = S 25 (5 + j)) → (∀ (c j : Nat), ¬ (c = 25 ∧ (j : Int) < x2.toInt) → T c j = S c j) → D (lpF (fun _ _ => none) (fB_X8_copies_25_L2 5) N x2 T) (cpd 25 5 S) := by
  induction N with
  | zero => intro x2 T h1 h2 h3; omega
  | succ N ih =>
    intro x2 T h1 h2 h3 h4 h5
    show D (fB_X8_copies_25_L2 5 (lpF (fun _ _ => none) (fB_X8_copies_25_L2 5) N) x2 T) _
    generalize lpF (fun _ _ => none) (fB_X8_copies_25_L2 5) N = k at ih ⊢
    unfold fB_X8_copies_25_L2
    refine D_ite (fun c => ?_) (fun c => ?_)
    · have k1 := tq_le (x := (5 : Int32)) (y := x2) (a := 5) (by decide) rfl c
      exact D_some ⟨fun j hj => h4 j (by omega), fun c j q => h5 c j (fun g => q ⟨g.1, by omega⟩)⟩
    · have k1 := tq_len (x := (5 : Int32)) (y := x2) (a := 5) (by decide) rfl c
      have e1 : ((5 : Int32) + x2).toInt = 5 + x2.toInt := i_addK (by decide) rfl (by omega) (by omega)
      have c1 : ((5 : Int32) + x2).toNatClampNeg = 5 + x2.toInt.toNat := by simp only [i_cl]; omega
      have c2 : x2.toNatClampNeg = x2.toInt.toNat := rfl
      refine D_ck (okI_of (by omega) (by omega)) (D_ck (okI_of (by omega) (by omega)) (D_lt (fun T1 e => D_lt (fun y ey => ?_))))
      rw [c1, c2] at e
      have e2 : y.toInt = x2.toInt + 1 := by rw [ey]; exact i_addK rfl (by decide) (by omega) (by omega)
      refine ih y T1 (by omega) (by omega) (by omega) (fun j hj => ?_) (fun c j q => ?_)
      · rw [e]
        by_cases hz : j = x2.toInt.toNat
        · subst hz; rw [st_same]; exact h5 _ _ (fun g => by omega)
        · rw [st_ne hz]; exact h4 j (by omega)
      · rw [e]
        rcases st_or (S := T) (a := 25) (i := x2.toInt.toNat) (b := c) (j := j) (v := T 25 (5 + x2.toInt.toNat)) with g | ⟨g1, g2⟩
        · rw [g]; exact h5 c j (fun g => q ⟨g.1, by omega⟩)
        · exact absurd ⟨g1, by omega⟩ q
theorem r_cp_25 (S : Tr) : D (f_X8_copies_25 S 5) (cpd 25 5 S) :=
  cp_25 S 2000 0 S (by decide) (by decide) (by decide) (fun j hj => absurd hj (by rw [show (0 : Int32).toInt = 0 by decide]; omega)) (fun _ _ _ => rfl)
theorem cp_26 (S : Tr) (N : Nat) : ∀ (x2 : Int32) (T : Tr), 0 ≤ x2.toInt → x2.toInt ≤ 6 → 100 - x2.toInt < (N : Int) → (∀ j : Nat, (j : Int) < x2.toInt → T 26 j = S 26 (6 + j)) → (∀ (c j : Nat), ¬ (c = 26 ∧ (j : Int) < x2.toInt) → T c j = S c j) → D (lpF (fun _ _ => none) (fB_X8_copies_26_L2 6) N x2 T) (cpd 26 6 S) := by
  induction N with
  | zero => intro x2 T h1 h2 h3; omega
  | succ N ih =>
    intro x2 T h1 h2 h3 h4 h5
    show D (fB_X8_copies_26_L2 6 (lpF (fun _ _ => none) (fB_X8_copies_26_L2 6) N) x2 T) _
    generalize lpF (fun _ _ => none) (fB_X8_copies_26_L2 6) N = k at ih ⊢
    unfold fB_X8_copies_26_L2
    refine D_ite (fun c => ?_) (fun c => ?_)
    · have k1 := tq_le (x := (6 : Int32)) (y := x2) (a := 6) (by decide) rfl c
      exact D_some ⟨fun j hj => h4 j (by omega), fun c j q => h5 c j (fun g => q ⟨g.1, by omega⟩)⟩
    · have k1 := tq_len (x := (6 : Int32)) (y := x2) (a := 6) (by decide) rfl c
      have e1 : ((6 : Int32) + x2).toInt = 6 + x2.toInt := i_addK (by decide) rfl (by omega) (by omega)
      have c1 : ((6 : Int32) + x2).toNatClampNeg = 6 + x2.toInt.toNat := by simp only [i_cl]; omega
      have c2 : x2.toNatClampNeg = x2.toInt.toNat := rfl
      refine D_ck (okI_of (by omega) (by omega)) (D_ck (okI_of (by omega) (by omega)) (D_lt (fun T1 e => D_lt (fun y ey => ?_))))
      rw [c1, c2] at e
      have e2 : y.toInt = x2.toInt + 1 := by rw [ey]; exact i_addK rfl (by decide) (by omega) (by omega)
      refine ih y T1 (by omega) (by omega) (by omega) (fun j hj => ?_) (fun c j q => ?_)
      · rw [e]
        by_cases hz : j = x2.toInt.toNat
        · subst hz; rw [st_same]; exact h5 _ _ (fun g => by omega)
        · rw [st_ne hz]; exact h4 j (by omega)
      · rw [e]
        rcases st_or (S := T) (a := 26) (i := x2.toInt.toNat) (b := c) (j := j) (v := T 26 (6 + x2.toInt.toNat)) with g | ⟨g1, g2⟩
        · rw [g]; exact h5 c j (fun g => q ⟨g.1, by omega⟩)
        · exact absurd ⟨g1, by omega⟩ q
theorem r_cp_26 (S : Tr) : D (f_X8_copies_26 S 6) (cpd 26 6 S) :=
  cp_26 S 2000 0 S (by decide) (by decide) (by decide) (fun j hj => absurd hj (by rw [show (0 : Int32).toInt = 0 by decide]; omega)) (fun _ _ _ => rfl)
theorem cp_27 (S : Tr) (N : Nat) : ∀ (x2 : Int32) (T : Tr), 0 ≤ x2.toInt → x2.toInt ≤ 6 → 100 - x2.toInt < (N : Int) → (∀ j : Nat, (j : Int) < x2.toInt → T 27 j = S 27 (6 + j)) → (∀ (c j : Nat), ¬ (c = 27 ∧ (j : Int) < x2.toInt) → T c j = S c j) → D (lpF (fun _ _ => none) (fB_X8_copies_27_L2 6) N x2 T) (cpd 27 6 S) := by
  induction N with
  | zero => intro x2 T h1 h2 h3; omega
  | succ N ih =>
    intro x2 T h1 h2 h3 h4 h5
    show D (fB_X8_copies_27_L2 6 (lpF (fun _ _ => none) (fB_X8_copies_27_L2 6) N) x2 T) _
    generalize lpF (fun _ _ => none) (fB_X8_copies_27_L2 6) N = k at ih ⊢
    unfold fB_X8_copies_27_L2
    refine D_ite (fun c => ?_) (fun c => ?_)
    · have k1 := tq_le (x := (6 : Int32)) (y := x2) (a := 6) (by decide) rfl c
      exact D_some ⟨fun j hj => h4 j (by omega), fun c j q => h5 c j (fun g => q ⟨g.1, by omega⟩)⟩
    · have k1 := tq_len (x := (6 : Int32)) (y := x2) (a := 6) (by decide) rfl c
      have e1 : ((6 : Int32) + x2).toInt = 6 + x2.toInt := i_addK (by decide) rfl (by omega) (by omega)
      have c1 : ((6 : Int32) + x2).toNatClampNeg = 6 + x2.toInt.toNat := by simp only [i_cl]; omega
      have c2 : x2.toNatClampNeg = x2.toInt.toNat := rfl
      refine D_ck (okI_of (by omega) (by omega)) (D_ck (okI_of (by omega) (by omega)) (D_lt (fun T1 e => D_lt (fun y ey => ?_))))
      rw [c1, c2] at e
      have e2 : y.toInt = x2.toInt + 1 := by rw [ey]; exact i_addK rfl (by decide) (by omega) (by omega)
      refine ih y T1 (by omega) (by omega) (by omega) (fun j hj => ?_) (fun c j q => ?_)
      · rw [e]
        by_cases hz : j = x2.toInt.toNat
        · subst hz; rw [st_same]; exact h5 _ _ (fun g => by omega)
        · rw [st_ne hz]; exact h4 j (by omega)
      · rw [e]
        rcases st_or (S := T) (a := 27) (i := x2.toInt.toNat) (b := c) (j := j) (v := T 27 (6 + x2.toInt.toNat)) with g | ⟨g1, g2⟩
        · rw [g]; exact h5 c j (fun g => q ⟨g.1, by omega⟩)
        · exact absurd ⟨g1, by omega⟩ q
theorem r_cp_27 (S : Tr) : D (f_X8_copies_27 S 6) (cpd 27 6 S) :=
  cp_27 S 2000 0 S (by decide) (by decide) (by decide) (fun j hj => absurd hj (by rw [show (0 : Int32).toInt = 0 by decide]; omega)) (fun _ _ _ => rfl)
theorem cp_28 (S : Tr) (N : Nat) : ∀ (x2 : Int32) (T : Tr), 0 ≤ x2.toInt → x2.toInt ≤ 6 → 100 - x2.toInt < (N : Int) → (∀ j : Nat, (j : Int) < x2.toInt → T 28 j = S 28 (6 + j)) → (∀ (c j : Nat), ¬ (c = 28 ∧ (j : Int) < x2.toInt) → T c j = S c j) → D (lpF (fun _ _ => none) (fB_X8_copies_28_L2 6) N x2 T) (cpd 28 6 S) := by
  induction N with
  | zero => intro x2 T h1 h2 h3; omega
  | succ N ih =>
    intro x2 T h1 h2 h3 h4 h5
    show D (fB_X8_copies_28_L2 6 (lpF (fun _ _ => none) (fB_X8_copies_28_L2 6) N) x2 T) _
    generalize lpF (fun _ _ => none) (fB_X8_copies_28_L2 6) N = k at ih ⊢
    unfold fB_X8_copies_28_L2
    refine D_ite (fun c => ?_) (fun c => ?_)
    · have k1 := tq_le (x := (6 : Int32)) (y := x2) (a := 6) (by decide) rfl c
      exact D_some ⟨fun j hj => h4 j (by omega), fun c j q => h5 c j (fun g => q ⟨g.1, by omega⟩)⟩
    · have k1 := tq_len (x := (6 : Int32)) (y := x2) (a := 6) (by decide) rfl c
      have e1 : ((6 : Int32) + x2).toInt = 6 + x2.toInt := i_addK (by decide) rfl (by omega) (by omega)
      have c1 : ((6 : Int32) + x2).toNatClampNeg = 6 + x2.toInt.toNat := by simp only [i_cl]; omega
      have c2 : x2.toNatClampNeg = x2.toInt.toNat := rfl
      refine D_ck (okI_of (by omega) (by omega)) (D_ck (okI_of (by omega) (by omega)) (D_lt (fun T1 e => D_lt (fun y ey => ?_))))
      rw [c1, c2] at e
      have e2 : y.toInt = x2.toInt + 1 := by rw [ey]; exact i_addK rfl (by decide) (by omega) (by omega)
      refine ih y T1 (by omega) (by omega) (by omega) (fun j hj => ?_) (fun c j q => ?_)
      · rw [e]
        by_cases hz : j = x2.toInt.toNat
        · subst hz; rw [st_same]; exact h5 _ _ (fun g => by omega)
        · rw [st_ne hz]; exact h4 j (by omega)
      · rw [e]
        rcases st_or (S := T) (a := 28) (i := x2.toInt.toNat) (b := c) (j := j) (v := T 28 (6 + x2.toInt.toNat)) with g | ⟨g1, g2⟩
        · rw [g]; exact h5 c j (fun g => q ⟨g.1, by omega⟩)
        · exact absurd ⟨g1, by omega⟩ q
theorem r_cp_28 (S : Tr) : D (f_X8_copies_28 S 6) (cpd 28 6 S) :=
  cp_28 S 2000 0 S (by decide) (by decide) (by decide) (fun j hj => absurd hj (by rw [show (0 : Int32).toInt = 0 by decide]; omega)) (fun _ _ _ => rfl)
theorem cp_29 (S : Tr) (N : Nat) : ∀ (x2 : Int32) (T : Tr), 0 ≤ x2.toInt → x2.toInt ≤ 6 → 100 - x2.toInt < (N : Int) → (∀ j : Nat, (j : Int) < x2.toInt → T 29 j = S 29 (6 + j)) → (∀ (c j : Nat), ¬ (c = 29 ∧ (j : Int) < x2.toInt) → T c j = S c j) → D (lpF (fun _ _ => none) (fB_X8_copies_29_L2 6) N x2 T) (cpd 29 6 S) := by
  induction N with
  | zero => intro x2 T h1 h2 h3; omega
  | succ N ih =>
    intro x2 T h1 h2 h3 h4 h5
    show D (fB_X8_copies_29_L2 6 (lpF (fun _ _ => none) (fB_X8_copies_29_L2 6) N) x2 T) _
    generalize lpF (fun _ _ => none) (fB_X8_copies_29_L2 6) N = k at ih ⊢
    unfold fB_X8_copies_29_L2
    refine D_ite (fun c => ?_) (fun c => ?_)
    · have k1 := tq_le (x := (6 : Int32)) (y := x2) (a := 6) (by decide) rfl c
      exact D_some ⟨fun j hj => h4 j (by omega), fun c j q => h5 c j (fun g => q ⟨g.1, by omega⟩)⟩
    · have k1 := tq_len (x := (6 : Int32)) (y := x2) (a := 6) (by decide) rfl c
      have e1 : ((6 : Int32) + x2).toInt = 6 + x2.toInt := i_addK (by decide) rfl (by omega) (by omega)
      have c1 : ((6 : Int32) + x2).toNatClampNeg = 6 + x2.toInt.toNat := by simp only [i_cl]; omega
      have c2 : x2.toNatClampNeg = x2.toInt.toNat := rfl
      refine D_ck (okI_of (by omega) (by omega)) (D_ck (okI_of (by omega) (by omega)) (D_lt (fun T1 e => D_lt (fun y ey => ?_))))
      rw [c1, c2] at e
      have e2 : y.toInt = x2.toInt + 1 := by rw [ey]; exact i_addK rfl (by decide) (by omega) (by omega)
      refine ih y T1 (by omega) (by omega) (by omega) (fun j hj => ?_) (fun c j q => ?_)
      · rw [e]
        by_cases hz : j = x2.toInt.toNat
        · subst hz; rw [st_same]; exact h5 _ _ (fun g => by omega)
        · rw [st_ne hz]; exact h4 j (by omega)
      · rw [e]
        rcases st_or (S := T) (a := 29) (i := x2.toInt.toNat) (b := c) (j := j) (v := T 29 (6 + x2.toInt.toNat)) with g | ⟨g1, g2⟩
        · rw [g]; exact h5 c j (fun g => q ⟨g.1, by omega⟩)
        · exact absurd ⟨g1, by omega⟩ q
theorem r_cp_29 (S : Tr) : D (f_X8_copies_29 S 6) (cpd 29 6 S) :=
  cp_29 S 2000 0 S (by decide) (by decide) (by decide) (fun j hj => absurd hj (by rw [show (0 : Int32).toInt = 0 by decide]; omega)) (fun _ _ _ => rfl)
theorem cp_30 (S : Tr) (N : Nat) : ∀ (x2 : Int32) (T : Tr), 0 ≤ x2.toInt → x2.toInt ≤ 10 → 100 - x2.toInt < (N : Int) → (∀ j : Nat, (j : Int) < x2.toInt → T 30 j = S 30 (10 + j)) → (∀ (c j : Nat), ¬ (c = 30 ∧ (j : Int) < x2.toInt) → T c j = S c j) → D (lpF (fun _ _ => none) (fB_X8_copies_30_L2 10) N x2 T) (cpd 30 10 S) := by
  induction N with
  | zero => intro x2 T h1 h2 h3; omega
  | succ N ih =>
    intro x2 T h1 h2 h3 h4 h5
    show D (fB_X8_copies_30_L2 10 (lpF (fun _ _ => none) (fB_X8_copies_30_L2 10) N) x2 T) _
    generalize lpF (fun _ _ => none) (fB_X8_copies_30_L2 10) N = k at ih ⊢
    unfold fB_X8_copies_30_L2
    refine D_ite (fun c => ?_) (fun c => ?_)
    · have k1 := tq_le (x := (10 : Int32)) (y := x2) (a := 10) (by decide) rfl c
      exact D_some ⟨fun j hj => h4 j (by omega), fun c j q => h5 c j (fun g => q ⟨g.1, by omega⟩)⟩
    · have k1 := tq_len (x := (10 : Int32)) (y := x2) (a := 10) (by decide) rfl c
      have e1 : ((10 : Int32) + x2).toInt = 10 + x2.toInt := i_addK (by decide) rfl (by omega) (by omega)
      have c1 : ((10 : Int32) + x2).toNatClampNeg = 10 + x2.toInt.toNat := by simp only [i_cl]; omega
      have c2 : x2.toNatClampNeg = x2.toInt.toNat := rfl
      refine D_ck (okI_of (by omega) (by omega)) (D_ck (okI_of (by omega) (by omega)) (D_lt (fun T1 e => D_lt (fun y ey => ?_))))
      rw [c1, c2] at e
      have e2 : y.toInt = x2.toInt + 1 := by rw [ey]; exact i_addK rfl (by decide) (by omega) (by omega)
      refine ih y T1 (by omega) (by omega) (by omega) (fun j hj => ?_) (fun c j q => ?_)
      · rw [e]
        by_cases hz : j = x2.toInt.toNat
        · subst hz; rw [st_same]; exact h5 _ _ (fun g => by omega)
        · rw [st_ne hz]; exact h4 j (by omega)
      · rw [e]
        rcases st_or (S := T) (a := 30) (i := x2.toInt.toNat) (b := c) (j := j) (v := T 30 (10 + x2.toInt.toNat)) with g | ⟨g1, g2⟩
        · rw [g]; exact h5 c j (fun g => q ⟨g.1, by omega⟩)
        · exact absurd ⟨g1, by omega⟩ q
theorem r_cp_30 (S : Tr) : D (f_X8_copies_30 S 10) (cpd 30 10 S) :=
  cp_30 S 2000 0 S (by decide) (by decide) (by decide) (fun j hj => absurd hj (by rw [show (0 : Int32).toInt = 0 by decide]; omega)) (fun _ _ _ => rfl)
theorem cp_31 (S : Tr) (N : Nat) : ∀ (x2 : Int32) (T : Tr), 0 ≤ x2.toInt → x2.toInt ≤ 10 → 100 - x2.toInt < (N : Int) → (∀ j : Nat, (j : Int) < x2.toInt → T 31 j = S 31 (10 + j)) → (∀ (c j : Nat), ¬ (c = 31 ∧ (j : Int) < x2.toInt) → T c j = S c j) → D (lpF (fun _ _ => none) (fB_X8_copies_31_L2 10) N x2 T) (cpd 31 10 S) := by
  induction N with
  | zero => intro x2 T h1 h2 h3; omega
  | succ N ih =>
    intro x2 T h1 h2 h3 h4 h5
    show D (fB_X8_copies_31_L2 10 (lpF (fun _ _ => none) (fB_X8_copies_31_L2 10) N) x2 T) _
    generalize lpF (fun _ _ => none) (fB_X8_copies_31_L2 10) N = k at ih ⊢
    unfold fB_X8_copies_31_L2
    refine D_ite (fun c => ?_) (fun c => ?_)
    · have k1 := tq_le (x := (10 : Int32)) (y := x2) (a := 10) (by decide) rfl c
      exact D_some ⟨fun j hj => h4 j (by omega), fun c j q => h5 c j (fun g => q ⟨g.1, by omega⟩)⟩
    · have k1 := tq_len (x := (10 : Int32)) (y := x2) (a := 10) (by decide) rfl c
      have e1 : ((10 : Int32) + x2).toInt = 10 + x2.toInt := i_addK (by decide) rfl (by omega) (by omega)
      have c1 : ((10 : Int32) + x2).toNatClampNeg = 10 + x2.toInt.toNat := by simp only [i_cl]; omega
      have c2 : x2.toNatClampNeg = x2.toInt.toNat := rfl
      refine D_ck (okI_of (by omega) (by omega)) (D_ck (okI_of (by omega) (by omega)) (D_lt (fun T1 e => D_lt (fun y ey => ?_))))
      rw [c1, c2] at e
      have e2 : y.toInt = x2.toInt + 1 := by rw [ey]; exact i_addK rfl (by decide) (by omega) (by omega)
      refine ih y T1 (by omega) (by omega) (by omega) (fun j hj => ?_) (fun c j q => ?_)
      · rw [e]
        by_cases hz : j = x2.toInt.toNat
        · subst hz; rw [st_same]; exact h5 _ _ (fun g => by omega)
        · rw [st_ne hz]; exact h4 j (by omega)
      · rw [e]
        rcases st_or (S := T) (a := 31) (i := x2.toInt.toNat) (b := c) (j := j) (v := T 31 (10 + x2.toInt.toNat)) with g | ⟨g1, g2⟩
        · rw [g]; exact h5 c j (fun g => q ⟨g.1, by omega⟩)
        · exact absurd ⟨g1, by omega⟩ q
theorem r_cp_31 (S : Tr) : D (f_X8_copies_31 S 10) (cpd 31 10 S) :=
  cp_31 S 2000 0 S (by decide) (by decide) (by decide) (fun j hj => absurd hj (by rw [show (0 : Int32).toInt = 0 by decide]; omega)) (fun _ _ _ => rfl)
theorem cp_32 (S : Tr) (N : Nat) : ∀ (x2 : Int32) (T : Tr), 0 ≤ x2.toInt → x2.toInt ≤ 10 → 100 - x2.toInt < (N : Int) → (∀ j : Nat, (j : Int) < x2.toInt → T 32 j = S 32 (10 + j)) → (∀ (c j : Nat), ¬ (c = 32 ∧ (j : Int) < x2.toInt) → T c j = S c j) → D (lpF (fun _ _ => none) (fB_X8_copies_32_L2 10) N x2 T) (cpd 32 10 S) := by
  induction N with
  | zero => intro x2 T h1 h2 h3; omega
  | succ N ih =>
    intro x2 T h1 h2 h3 h4 h5
    show D (fB_X8_copies_32_L2 10 (lpF (fun _ _ => none) (fB_X8_copies_32_L2 10) N) x2 T) _
    generalize lpF (fun _ _ => none) (fB_X8_copies_32_L2 10) N = k at ih ⊢
    unfold fB_X8_copies_32_L2
    refine D_ite (fun c => ?_) (fun c => ?_)
    · have k1 := tq_le (x := (10 : Int32)) (y := x2) (a := 10) (by decide) rfl c
      exact D_some ⟨fun j hj => h4 j (by omega), fun c j q => h5 c j (fun g => q ⟨g.1, by omega⟩)⟩
    · have k1 := tq_len (x := (10 : Int32)) (y := x2) (a := 10) (by decide) rfl c
      have e1 : ((10 : Int32) + x2).toInt = 10 + x2.toInt := i_addK (by decide) rfl (by omega) (by omega)
      have c1 : ((10 : Int32) + x2).toNatClampNeg = 10 + x2.toInt.toNat := by simp only [i_cl]; omega
      have c2 : x2.toNatClampNeg = x2.toInt.toNat := rfl
      refine D_ck (okI_of (by omega) (by omega)) (D_ck (okI_of (by omega) (by omega)) (D_lt (fun T1 e => D_lt (fun y ey => ?_))))
      rw [c1, c2] at e
      have e2 : y.toInt = x2.toInt + 1 := by rw [ey]; exact i_addK rfl (by decide) (by omega) (by omega)
      refine ih y T1 (by omega) (by omega) (by omega) (fun j hj => ?_) (fun c j q => ?_)
      · rw [e]
        by_cases hz : j = x2.toInt.toNat
        · subst hz; rw [st_same]; exact h5 _ _ (fun g => by omega)
        · rw [st_ne hz]; exact h4 j (by omega)
      · rw [e]
        rcases st_or (S := T) (a := 32) (i := x2.toInt.toNat) (b := c) (j := j) (v := T 32 (10 + x2.toInt.toNat)) with g | ⟨g1, g2⟩
        · rw [g]; exact h5 c j (fun g => q ⟨g.1, by omega⟩)
        · exact absurd ⟨g1, by omega⟩ q
theorem r_cp_32 (S : Tr) : D (f_X8_copies_32 S 10) (cpd 32 10 S) :=
  cp_32 S 2000 0 S (by decide) (by decide) (by decide) (fun j hj => absurd hj (by rw [show (0 : Int32).toInt = 0 by decide]; omega)) (fun _ _ _ => rfl)
theorem cp_33 (S : Tr) (N : Nat) : ∀ (x2 : Int32) (T : Tr), 0 ≤ x2.toInt → x2.toInt ≤ 10 → 100 - x2.toInt < (N : Int) → (∀ j : Nat, (j : Int) < x2.toInt → T 33 j = S 33 (10 + j)) → (∀ (c j : Nat), ¬ (c = 33 ∧ (j : Int) < x2.toInt) → T c j = S c j) → D (lpF (fun _ _ => none) (fB_X8_copies_33_L2 10) N x2 T) (cpd 33 10 S) := by
  induction N with
  | zero => intro x2 T h1 h2 h3; omega
  | succ N ih =>
    intro x2 T h1 h2 h3 h4 h5
    show D (fB_X8_copies_33_L2 10 (lpF (fun _ _ => none) (fB_X8_copies_33_L2 10) N) x2 T) _
    generalize lpF (fun _ _ => none) (fB_X8_copies_33_L2 10) N = k at ih ⊢
    unfold fB_X8_copies_33_L2
    refine D_ite (fun c => ?_) (fun c => ?_)
    · have k1 := tq_le (x := (10 : Int32)) (y := x2) (a := 10) (by decide) rfl c
      exact D_some ⟨fun j hj => h4 j (by omega), fun c j q => h5 c j (fun g => q ⟨g.1, by omega⟩)⟩
    · have k1 := tq_len (x := (10 : Int32)) (y := x2) (a := 10) (by decide) rfl c
      have e1 : ((10 : Int32) + x2).toInt = 10 + x2.toInt := i_addK (by decide) rfl (by omega) (by omega)
      have c1 : ((10 : Int32) + x2).toNatClampNeg = 10 + x2.toInt.toNat := by simp only [i_cl]; omega
      have c2 : x2.toNatClampNeg = x2.toInt.toNat := rfl
      refine D_ck (okI_of (by omega) (by omega)) (D_ck (okI_of (by omega) (by omega)) (D_lt (fun T1 e => D_lt (fun y ey => ?_))))
      rw [c1, c2] at e
      have e2 : y.toInt = x2.toInt + 1 := by rw [ey]; exact i_addK rfl (by decide) (by omega) (by omega)
      refine ih y T1 (by omega) (by omega) (by omega) (fun j hj => ?_) (fun c j q => ?_)
      · rw [e]
        by_cases hz : j = x2.toInt.toNat
        · subst hz; rw [st_same]; exact h5 _ _ (fun g => by omega)
        · rw [st_ne hz]; exact h4 j (by omega)
      · rw [e]
        rcases st_or (S := T) (a := 33) (i := x2.toInt.toNat) (b := c) (j := j) (v := T 33 (10 + x2.toInt.toNat)) with g | ⟨g1, g2⟩
        · rw [g]; exact h5 c j (fun g => q ⟨g.1, by omega⟩)
        · exact absurd ⟨g1, by omega⟩ q
theorem r_cp_33 (S : Tr) : D (f_X8_copies_33 S 10) (cpd 33 10 S) :=
  cp_33 S 2000 0 S (by decide) (by decide) (by decide) (fun j hj => absurd hj (by rw [show (0 : Int32).toInt = 0 by decide]; omega)) (fun _ _ _ => rfl)
theorem cp_34 (S : Tr) (N : Nat) : ∀ (x2 : Int32) (T : Tr), 0 ≤ x2.toInt → x2.toInt ≤ 21 → 100 - x2.toInt < (N : Int) → (∀ j : Nat, (j : Int) < x2.toInt → T 34 j = S 34 (21 + j)) → (∀ (c j : Nat), ¬ (c = 34 ∧ (j : Int) < x2.toInt) → T c j = S c j) → D (lpF (fun _ _ => none) (fB_X8_copies_34_L2 21) N x2 T) (cpd 34 21 S) := by
  induction N with
  | zero => intro x2 T h1 h2 h3; omega
  | succ N ih =>
    intro x2 T h1 h2 h3 h4 h5
    show D (fB_X8_copies_34_L2 21 (lpF (fun _ _ => none) (fB_X8_copies_34_L2 21) N) x2 T) _
    generalize lpF (fun _ _ => none) (fB_X8_copies_34_L2 21) N = k at ih ⊢
    unfold fB_X8_copies_34_L2
    refine D_ite (fun c => ?_) (fun c => ?_)
    · have k1 := tq_le (x := (21 : Int32)) (y := x2) (a := 21) (by decide) rfl c
      exact D_some ⟨fun j hj => h4 j (by omega), fun c j q => h5 c j (fun g => q ⟨g.1, by omega⟩)⟩
    · have k1 := tq_len (x := (21 : Int32)) (y := x2) (a := 21) (by decide) rfl c
      have e1 : ((21 : Int32) + x2).toInt = 21 + x2.toInt := i_addK (by decide) rfl (by omega) (by omega)
      have c1 : ((21 : Int32) + x2).toNatClampNeg = 21 + x2.toInt.toNat := by simp only [i_cl]; omega
      have c2 : x2.toNatClampNeg = x2.toInt.toNat := rfl
      refine D_ck (okI_of (by omega) (by omega)) (D_ck (okI_of (by omega) (by omega)) (D_lt (fun T1 e => D_lt (fun y ey => ?_))))
      rw [c1, c2] at e
      have e2 : y.toInt = x2.toInt + 1 := by rw [ey]; exact i_addK rfl (by decide) (by omega) (by omega)
      refine ih y T1 (by omega) (by omega) (by omega) (fun j hj => ?_) (fun c j q => ?_)
      · rw [e]
        by_cases hz : j = x2.toInt.toNat
        · subst hz; rw [st_same]; exact h5 _ _ (fun g => by omega)
        · rw [st_ne hz]; exact h4 j (by omega)
      · rw [e]
        rcases st_or (S := T) (a := 34) (i := x2.toInt.toNat) (b := c) (j := j) (v := T 34 (21 + x2.toInt.toNat)) with g | ⟨g1, g2⟩
        · rw [g]; exact h5 c j (fun g => q ⟨g.1, by omega⟩)
        · exact absurd ⟨g1, by omega⟩ q
theorem r_cp_34 (S : Tr) : D (f_X8_copies_34 S 21) (cpd 34 21 S) :=
  cp_34 S 2000 0 S (by decide) (by decide) (by decide) (fun j hj => absurd hj (by rw [show (0 : Int32).toInt = 0 by decide]; omega)) (fun _ _ _ => rfl)
theorem cp_37 (S : Tr) (N : Nat) : ∀ (x2 : Int32) (T : Tr), 0 ≤ x2.toInt → x2.toInt ≤ 3 → 100 - x2.toInt < (N : Int) → (∀ j : Nat, (j : Int) < x2.toInt → T 37 j = S 37 (3 + j)) → (∀ (c j : Nat), ¬ (c = 37 ∧ (j : Int) < x2.toInt) → T c j = S c j) → D (lpF (fun _ _ => none) (fB_X8_copies_37_L2 3) N x2 T) (cpd 37 3 S) := by
  induction N with
  | zero => intro x2 T h1 h2 h3; omega
  | succ N ih =>
    intro x2 T h1 h2 h3 h4 h5
    show D (fB_X8_copies_37_L2 3 (lpF (fun _ _ => none) (fB_X8_copies_37_L2 3) N) x2 T) _
    generalize lpF (fun _ _ => none) (fB_X8_copies_37_L2 3) N = k at ih ⊢
    unfold fB_X8_copies_37_L2
    refine D_ite (fun c => ?_) (fun c => ?_)
    · have k1 := tq_le (x := (3 : Int32)) (y := x2) (a := 3) (by decide) rfl c
      exact D_some ⟨fun j hj => h4 j (by omega), fun c j q => h5 c j (fun g => q ⟨g.1, by omega⟩)⟩
    · have k1 := tq_len (x := (3 : Int32)) (y := x2) (a := 3) (by decide) rfl c
      have e1 : ((3 : Int32) + x2).toInt = 3 + x2.toInt := i_addK (by decide) rfl (by omega) (by omega)
      have c1 : ((3 : Int32) + x2).toNatClampNeg = 3 + x2.toInt.toNat := by simp only [i_cl]; omega
      have c2 : x2.toNatClampNeg = x2.toInt.toNat := rfl
      refine D_ck (okI_of (by omega) (by omega)) (D_ck (okI_of (by omega) (by omega)) (D_lt (fun T1 e => D_lt (fun y ey => ?_))))
      rw [c1, c2] at e
      have e2 : y.toInt = x2.toInt + 1 := by rw [ey]; exact i_addK rfl (by decide) (by omega) (by omega)
      refine ih y T1 (by omega) (by omega) (by omega) (fun j hj => ?_) (fun c j q => ?_)
      · rw [e]
        by_cases hz : j = x2.toInt.toNat
        · subst hz; rw [st_same]; exact h5 _ _ (fun g => by omega)
        · rw [st_ne hz]; exact h4 j (by omega)
      · rw [e]
        rcases st_or (S := T) (a := 37) (i := x2.toInt.toNat) (b := c) (j := j) (v := T 37 (3 + x2.toInt.toNat)) with g | ⟨g1, g2⟩
        · rw [g]; exact h5 c j (fun g => q ⟨g.1, by omega⟩)
        · exact absurd ⟨g1, by omega⟩ q
theorem r_cp_37 (S : Tr) : D (f_X8_copies_37 S 3) (cpd 37 3 S) :=
  cp_37 S 2000 0 S (by decide) (by decide) (by decide) (fun j hj => absurd hj (by rw [show (0 : Int32).toInt = 0 by decide]; omega)) (fun _ _ _ => rfl)
theorem cp_38 (S : Tr) (N : Nat) : ∀ (x2 : Int32) (T : Tr), 0 ≤ x2.toInt → x2.toInt ≤ 3 → 100 - x2.toInt < (N : Int) → (∀ j : Nat, (j : Int) < x2.toInt → T 38 j = S 38 (3 + j)) → (∀ (c j : Nat), ¬ (c = 38 ∧ (j : Int) < x2.toInt) → T c j = S c j) → D (lpF (fun _ _ => none) (fB_X8_copies_38_L2 3) N x2 T) (cpd 38 3 S) := by
  induction N with
  | zero => intro x2 T h1 h2 h3; omega
  | succ N ih =>
    intro x2 T h1 h2 h3 h4 h5
    show D (fB_X8_copies_38_L2 3 (lpF (fun _ _ => none) (fB_X8_copies_38_L2 3) N) x2 T) _
    generalize lpF (fun _ _ => none) (fB_X8_copies_38_L2 3) N = k at ih ⊢
    unfold fB_X8_copies_38_L2
    refine D_ite (fun c => ?_) (fun c => ?_)
    · have k1 := tq_le (x := (3 : Int32)) (y := x2) (a := 3) (by decide) rfl c
      exact D_some ⟨fun j hj => h4 j (by omega), fun c j q => h5 c j (fun g => q ⟨g.1, by omega⟩)⟩
    · have k1 := tq_len (x := (3 : Int32)) (y := x2) (a := 3) (by decide) rfl c
      have e1 : ((3 : Int32) + x2).toInt = 3 + x2.toInt := i_addK (by decide) rfl (by omega) (by omega)
      have c1 : ((3 : Int32) + x2).toNatClampNeg = 3 + x2.toInt.toNat := by simp only [i_cl]; omega
      have c2 : x2.toNatClampNeg = x2.toInt.toNat := rfl
      refine D_ck (okI_of (by omega) (by omega)) (D_ck (okI_of (by omega) (by omega)) (D_lt (fun T1 e => D_lt (fun y ey => ?_))))
      rw [c1, c2] at e
      have e2 : y.toInt = x2.toInt + 1 := by rw [ey]; exact i_addK rfl (by decide) (by omega) (by omega)
      refine ih y T1 (by omega) (by omega) (by omega) (fun j hj => ?_) (fun c j q => ?_)
      · rw [e]
        by_cases hz : j = x2.toInt.toNat
        · subst hz; rw [st_same]; exact h5 _ _ (fun g => by omega)
        · rw [st_ne hz]; exact h4 j (by omega)
      · rw [e]
        rcases st_or (S := T) (a := 38) (i := x2.toInt.toNat) (b := c) (j := j) (v := T 38 (3 + x2.toInt.toNat)) with g | ⟨g1, g2⟩
        · rw [g]; exact h5 c j (fun g => q ⟨g.1, by omega⟩)
        · exact absurd ⟨g1, by omega⟩ q
theorem r_cp_38 (S : Tr) : D (f_X8_copies_38 S 3) (cpd 38 3 S) :=
  cp_38 S 2000 0 S (by decide) (by decide) (by decide) (fun j hj => absurd hj (by rw [show (0 : Int32).toInt = 0 by decide]; omega)) (fun _ _ _ => rfl)
theorem cp_39 (S : Tr) (N : Nat) : ∀ (x2 : Int32) (T : Tr), 0 ≤ x2.toInt → x2.toInt ≤ 64 → 100 - x2.toInt < (N : Int) → (∀ j : Nat, (j : Int) < x2.toInt → T 39 j = S 39 (64 + j)) → (∀ (c j : Nat), ¬ (c = 39 ∧ (j : Int) < x2.toInt) → T c j = S c j) → D (lpF (fun _ _ => none) (fB_X8_copies_39_L2 64) N x2 T) (cpd 39 64 S) := by
  induction N with
  | zero => intro x2 T h1 h2 h3; omega
  | succ N ih =>
    intro x2 T h1 h2 h3 h4 h5
    show D (fB_X8_copies_39_L2 64 (lpF (fun _ _ => none) (fB_X8_copies_39_L2 64) N) x2 T) _
    generalize lpF (fun _ _ => none) (fB_X8_copies_39_L2 64) N = k at ih ⊢
    unfold fB_X8_copies_39_L2
    refine D_ite (fun c => ?_) (fun c => ?_)
    · have k1 := tq_le (x := (64 : Int32)) (y := x2) (a := 64) (by decide) rfl c
      exact D_some ⟨fun j hj => h4 j (by omega), fun c j q => h5 c j (fun g => q ⟨g.1, by omega⟩)⟩
    · have k1 := tq_len (x := (64 : Int32)) (y := x2) (a := 64) (by decide) rfl c
      have e1 : ((64 : Int32) + x2).toInt = 64 + x2.toInt := i_addK (by decide) rfl (by omega) (by omega)
      have c1 : ((64 : Int32) + x2).toNatClampNeg = 64 + x2.toInt.toNat := by simp only [i_cl]; omega
      have c2 : x2.toNatClampNeg = x2.toInt.toNat := rfl
      refine D_ck (okI_of (by omega) (by omega)) (D_ck (okI_of (by omega) (by omega)) (D_lt (fun T1 e => D_lt (fun y ey => ?_))))
      rw [c1, c2] at e
      have e2 : y.toInt = x2.toInt + 1 := by rw [ey]; exact i_addK rfl (by decide) (by omega) (by omega)
      refine ih y T1 (by omega) (by omega) (by omega) (fun j hj => ?_) (fun c j q => ?_)
      · rw [e]
        by_cases hz : j = x2.toInt.toNat
        · subst hz; rw [st_same]; exact h5 _ _ (fun g => by omega)
        · rw [st_ne hz]; exact h4 j (by omega)
      · rw [e]
        rcases st_or (S := T) (a := 39) (i := x2.toInt.toNat) (b := c) (j := j) (v := T 39 (64 + x2.toInt.toNat)) with g | ⟨g1, g2⟩
        · rw [g]; exact h5 c j (fun g => q ⟨g.1, by omega⟩)
        · exact absurd ⟨g1, by omega⟩ q
theorem r_cp_39 (S : Tr) : D (f_X8_copies_39 S 64) (cpd 39 64 S) :=
  cp_39 S 2000 0 S (by decide) (by decide) (by decide) (fun j hj => absurd hj (by rw [show (0 : Int32).toInt = 0 by decide]; omega)) (fun _ _ _ => rfl)
theorem cp_40 (S : Tr) (N : Nat) : ∀ (x2 : Int32) (T : Tr), 0 ≤ x2.toInt → x2.toInt ≤ 64 → 100 - x2.toInt < (N : Int) → (∀ j : Nat, (j : Int) < x2.toInt → T 40 j = S 40 (64 + j)) → (∀ (c j : Nat), ¬ (c = 40 ∧ (j : Int) < x2.toInt) → T c j = S c j) → D (lpF (fun _ _ => none) (fB_X8_copies_40_L2 64) N x2 T) (cpd 40 64 S) := by
  induction N with
  | zero => intro x2 T h1 h2 h3; omega
  | succ N ih =>
    intro x2 T h1 h2 h3 h4 h5
    show D (fB_X8_copies_40_L2 64 (lpF (fun _ _ => none) (fB_X8_copies_40_L2 64) N) x2 T) _
    generalize lpF (fun _ _ => none) (fB_X8_copies_40_L2 64) N = k at ih ⊢
    unfold fB_X8_copies_40_L2
    refine D_ite (fun c => ?_) (fun c => ?_)
    · have k1 := tq_le (x := (64 : Int32)) (y := x2) (a := 64) (by decide) rfl c
      exact D_some ⟨fun j hj => h4 j (by omega), fun c j q => h5 c j (fun g => q ⟨g.1, by omega⟩)⟩
    · have k1 := tq_len (x := (64 : Int32)) (y := x2) (a := 64) (by decide) rfl c
      have e1 : ((64 : Int32) + x2).toInt = 64 + x2.toInt := i_addK (by decide) rfl (by omega) (by omega)
      have c1 : ((64 : Int32) + x2).toNatClampNeg = 64 + x2.toInt.toNat := by simp only [i_cl]; omega
      have c2 : x2.toNatClampNeg = x2.toInt.toNat := rfl
      refine D_ck (okI_of (by omega) (by omega)) (D_ck (okI_of (by omega) (by omega)) (D_lt (fun T1 e => D_lt (fun y ey => ?_))))
      rw [c1, c2] at e
      have e2 : y.toInt = x2.toInt + 1 := by rw [ey]; exact i_addK rfl (by decide) (by omega) (by omega)
      refine ih y T1 (by omega) (by omega) (by omega) (fun j hj => ?_) (fun c j q => ?_)
      · rw [e]
        by_cases hz : j = x2.toInt.toNat
        · subst hz; rw [st_same]; exact h5 _ _ (fun g => by omega)
        · rw [st_ne hz]; exact h4 j (by omega)
      · rw [e]
        rcases st_or (S := T) (a := 40) (i := x2.toInt.toNat) (b := c) (j := j) (v := T 40 (64 + x2.toInt.toNat)) with g | ⟨g1, g2⟩
        · rw [g]; exact h5 c j (fun g => q ⟨g.1, by omega⟩)
        · exact absurd ⟨g1, by omega⟩ q
theorem r_cp_40 (S : Tr) : D (f_X8_copies_40 S 64) (cpd 40 64 S) :=
  cp_40 S 2000 0 S (by decide) (by decide) (by decide) (fun j hj => absurd hj (by rw [show (0 : Int32).toInt = 0 by decide]; omega)) (fun _ _ _ => rfl)
theorem cp_41 (S : Tr) (N : Nat) : ∀ (x2 : Int32) (T : Tr), 0 ≤ x2.toInt → x2.toInt ≤ 64 → 100 - x2.toInt < (N : Int) → (∀ j : Nat, (j : Int) < x2.toInt → T 41 j = S 41 (64 + j)) → (∀ (c j : Nat), ¬ (c = 41 ∧ (j : Int) < x2.toInt) → T c j = S c j) → D (lpF (fun _ _ => none) (fB_X8_copies_41_L2 64) N x2 T) (cpd 41 64 S) := by
  induction N with
  | zero => intro x2 T h1 h2 h3; omega
  | succ N ih =>
    intro x2 T h1 h2 h3 h4 h5
    show D (fB_X8_copies_41_L2 64 (lpF (fun _ _ => none) (fB_X8_copies_41_L2 64) N) x2 T) _
    generalize lpF (fun _ _ => none) (fB_X8_copies_41_L2 64) N = k at ih ⊢
    unfold fB_X8_copies_41_L2
    refine D_ite (fun c => ?_) (fun c => ?_)
    · have k1 := tq_le (x := (64 : Int32)) (y := x2) (a := 64) (by decide) rfl c
      exact D_some ⟨fun j hj => h4 j (by omega), fun c j q => h5 c j (fun g => q ⟨g.1, by omega⟩)⟩
    · have k1 := tq_len (x := (64 : Int32)) (y := x2) (a := 64) (by decide) rfl c
      have e1 : ((64 : Int32) + x2).toInt = 64 + x2.toInt := i_addK (by decide) rfl (by omega) (by omega)
      have c1 : ((64 : Int32) + x2).toNatClampNeg = 64 + x2.toInt.toNat := by simp only [i_cl]; omega
      have c2 : x2.toNatClampNeg = x2.toInt.toNat := rfl
      refine D_ck (okI_of (by omega) (by omega)) (D_ck (okI_of (by omega) (by omega)) (D_lt (fun T1 e => D_lt (fun y ey => ?_))))
      rw [c1, c2] at e
      have e2 : y.toInt = x2.toInt + 1 := by rw [ey]; exact i_addK rfl (by decide) (by omega) (by omega)
      refine ih y T1 (by omega) (by omega) (by omega) (fun j hj => ?_) (fun c j q => ?_)
      · rw [e]
        by_cases hz : j = x2.toInt.toNat
        · subst hz; rw [st_same]; exact h5 _ _ (fun g => by omega)
        · rw [st_ne hz]; exact h4 j (by omega)
      · rw [e]
        rcases st_or (S := T) (a := 41) (i := x2.toInt.toNat) (b := c) (j := j) (v := T 41 (64 + x2.toInt.toNat)) with g | ⟨g1, g2⟩
        · rw [g]; exact h5 c j (fun g => q ⟨g.1, by omega⟩)
        · exact absurd ⟨g1, by omega⟩ q
theorem r_cp_41 (S : Tr) : D (f_X8_copies_41 S 64) (cpd 41 64 S) :=
  cp_41 S 2000 0 S (by decide) (by decide) (by decide) (fun j hj => absurd hj (by rw [show (0 : Int32).toInt = 0 by decide]; omega)) (fun _ _ _ => rfl)
