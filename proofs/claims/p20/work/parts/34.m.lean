-- 34.m
/-! the reference's bounds -/
def uB (m : Nat) : Int × Int := bif Nat.blt m 50 then (0, 9) else bif Nat.blt m 55 then (0, 10) else fullB
def BM0 (j : Nat) : Int × Int :=
  bif Nat.beq j 1 then (0, 700) else bif Nat.beq j 6 then (0, 700) else bif Nat.beq j 7 then (0, 700) else bif Nat.beq j 8 then (0, 6) else
  bif Nat.beq j 12 then (0, 5) else bif Nat.beq j 13 then (0, 6) else bif Nat.beq j 14 then (0, 10) else bif Nat.beq j 15 then (0, 64) else
  bif Nat.beq j 16 then (0, 5) else bif Nat.beq j 17 then (0, 6) else bif Nat.beq j 18 then (0, 10) else bif Nat.beq j 19 then (0, 64) else bif Nat.beq j 20 then (0, 10) else
  bif Nat.beq j 43 then (0, 96) else bif Nat.beq j 44 then (0, 96) else bif Nat.beq j 45 then (0, 8) else bif Nat.beq j 46 then (0, 64) else
  bif Nat.beq j 47 then (0, 1) else bif Nat.beq j 48 then (0, 1) else bif Nat.beq j 51 then (0, 1) else bif Nat.beq j 65 then (0, 1) else bif Nat.beq j 66 then (0, 1) else bif Nat.beq j 67 then (0, 1) else bif Nat.beq j 68 then (0, 1) else bif Nat.beq j 69 then (0, 1) else bif Nat.beq j 70 then (0, 1) else
  bif Nat.beq j 78 then (0, 24) else bif Nat.beq j 79 then (-1, 24) else bif Nat.beq j 82 then (0, 20) else bif Nat.beq j 89 then (0, 21) else fullB
def BM (a j : Nat) : Int × Int :=
  bif Nat.beq a 0 then BM0 j else
  bif Nat.beq a 28 then (0, 20) else bif Nat.beq a 30 then (0, 5) else bif Nat.beq a 33 then (-1, 4) else
  bif Nat.beq a 37 then (0, 64) else bif Nat.beq a 38 then (0, 64) else bif Nat.beq a 42 then (0, 14) else bif Nat.beq a 43 then (0, 63) else
  bif Nat.beq a 53 then (0, 5) else bif Nat.beq a 54 then (-1, 4) else bif Nat.beq a 55 then (0, 9) else bif Nat.beq a 56 then (0, 10) else
  bif Nat.beq a 62 then (0, 21) else bif Nat.beq a 72 then (-1, 4) else bif Nat.beq a 74 then (0, 9) else bif Nat.beq a 75 then (0, 9) else
  bif Nat.beq a 81 then (bif Nat.beq (j % 4) 1 then (0, 23) else fullB) else
  bif Nat.beq a 84 then uB (j % 61) else bif Nat.beq a 86 then uB (j % 61) else bif Nat.beq a 87 then (0, 5) else fullB
/-! which cells the moves of a train b may change -/
def Wt (a j : Nat) : Bool :=
  bif Nat.beq a 0 then (Nat.beq j 2 || Nat.beq j 51 || Nat.beq j 64 || Nat.beq j 65 || Nat.beq j 66 || Nat.beq j 67 || Nat.beq j 68 || Nat.beq j 69 || Nat.beq j 70 || Nat.beq j 72) else
  (Nat.beq a 72 || Nat.beq a 74 || Nat.beq a 75 || Nat.beq a 76 || Nat.beq a 77 || Nat.beq a 78 || Nat.beq a 82)
def inB (n b j : Nat) : Bool := Nat.ble (n * b) j && Nat.blt j (n * b + n)
def Wb (b a j : Nat) : Bool :=
  Wt a j || ((Nat.beq a 53 || Nat.beq a 54) && inB 10 b j) || (Nat.beq a 55 && inB 50 b j) || (Nat.beq a 56 && inB 5 b j) || ((Nat.beq a 57 || Nat.beq a 58 || Nat.beq a 59 || Nat.beq a 60) && inB 6 b j) || ((Nat.beq a 61 || Nat.beq a 62 || Nat.beq a 63) && inB 1 b j)
/-- but for these cells nothing has changed -/
def aG (b : Nat) (S S1 : Tr) : Prop := ∀ a j, Wb b a j = false → S1 a j = S a j
def aT (S S1 : Tr) : Prop := ∀ a j, Wt a j = false → S1 a j = S a j
theorem aG_rfl {b : Nat} {S : Tr} : aG b S S := fun _ _ _ => rfl
theorem aT_rfl {S : Tr} : aT S S := fun _ _ _ => rfl
theorem aG_tr {b : Nat} {S S1 S2 : Tr} (h1 : aG b S S1) (h2 : aG b S1 S2) : aG b S S2 := fun a j h => (h2 a j h).trans (h1 a j h)
theorem aT_tr {S S1 S2 : Tr} (h1 : aT S S1) (h2 : aT S1 S2) : aT S S2 := fun a j h => (h2 a j h).trans (h1 a j h)
theorem aT_G {b : Nat} {S S1 : Tr} (h : aT S S1) : aG b S S1 := fun a j hw => h a j (by
  cases hq : Wt a j with
  | false => rfl
  | true => unfold Wb at hw; rw [hq] at hw; simp at hw)
theorem st_or {S : Tr} {a i b j : Nat} {v : Int32} : st S a i v b j = S b j ∨ (b = a ∧ j = i) := by
  by_cases hb : b = a
  · by_cases hj : j = i
    · exact Or.inr ⟨hb, hj⟩
    · subst hb; exact Or.inl (st_ne hj)
  · exact Or.inl (by rw [st_oth hb])
theorem aG_set {b : Nat} {z S : Tr} {a i : Nat} {v : Int32} (h : aG b z S) (hw : Wb b a i = true) : aG b z (st S a i v) := fun c j hf => by
  rcases st_or (S := S) (a := a) (i := i) (b := c) (j := j) (v := v) with e | ⟨e1, e2⟩
  · rw [e]; exact h c j hf
  · subst e1; subst e2; rw [hw] at hf; cases hf
theorem aT_set {z S : Tr} {a i : Nat} {v : Int32} (h : aT z S) (hw : Wt a i = true) : aT z (st S a i v) := fun c j hf => by
  rcases st_or (S := S) (a := a) (i := i) (b := c) (j := j) (v := v) with e | ⟨e1, e2⟩
  · rw [e]; exact h c j hf
  · subst e1; subst e2; rw [hw] at hf; cases hf
theorem inB_of {n b j : Nat} (h1 : n * b ≤ j) (h2 : j < n * b + n) : inB n b j = true := by
  unfold inB
  rw [Nat.ble_eq_true_of_le h1, Nat.blt_eq.mpr h2]
  rfl
theorem Wb_t {b a j : Nat} (h : Wt a j = true) : Wb b a j = true := by unfold Wb; rw [h]; rfl
theorem Wb_53 {b j : Nat} (h : inB 10 b j = true) : Wb b 53 j = true := by unfold Wb; rw [h]; simp
theorem Wb_54 {b j : Nat} (h : inB 10 b j = true) : Wb b 54 j = true := by unfold Wb; rw [h]; simp
theorem Wb_55 {b j : Nat} (h : inB 50 b j = true) : Wb b 55 j = true := by unfold Wb; rw [h]; simp
theorem Wb_56 {b j : Nat} (h : inB 5 b j = true) : Wb b 56 j = true := by unfold Wb; rw [h]; simp
theorem Wb_57 {b j : Nat} (h : inB 6 b j = true) : Wb b 57 j = true := by unfold Wb; rw [h]; simp
theorem Wb_58 {b j : Nat} (h : inB 6 b j = true) : Wb b 58 j = true := by unfold Wb; rw [h]; simp
theorem Wb_59 {b j : Nat} (h : inB 6 b j = true) : Wb b 59 j = true := by unfold Wb; rw [h]; simp
theorem Wb_60 {b j : Nat} (h : inB 6 b j = true) : Wb b 60 j = true := by unfold Wb; rw [h]; simp
theorem Wb_61 {b j : Nat} (h : inB 1 b j = true) : Wb b 61 j = true := by unfold Wb; rw [h]; simp
theorem Wb_62 {b j : Nat} (h : inB 1 b j = true) : Wb b 62 j = true := by unfold Wb; rw [h]; simp
theorem Wb_63 {b j : Nat} (h : inB 1 b j = true) : Wb b 63 j = true := by unfold Wb; rw [h]; simp
/-! what a text that is kept has -/
def nodeOK (S : Tr) (k : Nat) : Prop := S 39 k = 0 ∨ (S 39 k = 1 ∧ 0 ≤ (S 40 k).toInt ∧ (S 40 k).toInt ≤ 6) ∨ (S 39 k = 2 ∧ 0 ≤ (S 40 k).toInt ∧ (S 40 k).toInt ≤ 63) ∨ (¬ S 39 k = 1 ∧ 0 ≤ (S 40 k).toInt ∧ (S 40 k).toInt ≤ 63 ∧ 0 ≤ (S 41 k).toInt ∧ (S 41 k).toInt ≤ 63)
def pI (S : Tr) : Prop := (∀ k, nodeOK S k) ∧ (∀ w, w < 3 → ¬ S 36 w = 0 → 1 ≤ (S 38 w).toInt) ∧ (∀ i : Nat, i < 10 → (i : Int) < (S 0 14).toInt → (S 30 i).toInt < (S 0 13).toInt) ∧ (∀ p : Nat, p < 6 → (p : Int) < (S 0 13).toInt → 1 ≤ (S 29 p).toInt)
/-! a train's stacks -/
def lyM (S : Tr) (b i : Nat) : Int := (S 54 (10 * b + i)).toInt
def mnM (S : Tr) (b p : Nat) : Int := (S 56 (5 * b + p)).toInt
def skM (S : Tr) (b p k : Nat) : Int := (S 55 (50 * b + 10 * p + k)).toInt
/-- what lies in a place knows it, what knows a place lies there, nothing lies twice -/
def gF (mn : Nat → Int) (sk : Nat → Nat → Int) (ly : Nat → Int) (pc : Int) : Prop :=
  (∀ p k : Nat, p < 5 → (k : Int) < mn p → ly (sk p k).toNat = p ∧ sk p k < pc) ∧
  (∀ i p : Nat, i < 10 → ly i = p → ∃ k : Nat, (k : Int) < mn p ∧ sk p k = i) ∧
  (∀ p k l : Nat, p < 5 → (k : Int) < mn p → (l : Int) < mn p → sk p k = sk p l → k = l)
def gS (b : Nat) (S : Tr) : Prop := gF (mnM S b) (skM S b) (lyM S b) (S 0 14).toInt
/-- and its state says so, but of one -/
def gJ (b : Nat) (S : Tr) (x : Nat) : Prop := gS b S ∧ (∀ i : Nat, i < 10 → i ≠ x → (S 53 (10 * b + i) = 1 ↔ 0 ≤ lyM S b i))
def gA (b : Nat) (S : Tr) : Prop := ∀ p : Nat, p < 6 → (p : Int) < (S 0 13).toInt → 1 ≤ (S 58 (6 * b + p)).toInt
def gI (b : Nat) (S : Tr) : Prop := gS b S ∧ (∀ i : Nat, i < 10 → (S 53 (10 * b + i) = 1 ↔ 0 ≤ lyM S b i)) ∧ gA b S
/-- what was seen at a stop is a piece -/
def zI (S : Tr) : Prop := ∀ k : Nat, 0 ≤ (S 81 (4 * k)).toInt → (S 81 (4 * k + 1)).toInt ≤ 9
/-! pigeons -/
theorem php : ∀ (n m : Nat) (f : Nat → Nat), (∀ k, k < m → f k < n) → (∀ k l, k < m → l < m → f k = f l → k = l) → m ≤ n
  | 0, m, f, h1, _ => by
    cases m with
    | zero => exact Nat.le_refl _
    | succ m => exact absurd (h1 0 (by omega)) (Nat.not_lt_zero _)
  | n + 1, m, f, h1, h2 => by
    by_cases hk : ∃ k, k < m ∧ f k = n
    · obtain ⟨k0, hk0, e0⟩ := hk
      have := php n (m - 1) (fun k => if k < k0 then f k else f (k + 1)) (fun k hk => by
        split
        · have a1 := h1 k (by omega)
          have a2 : f k ≠ n := fun e => by have := h2 k k0 (by omega) hk0 (by omega); omega
          omega
        · have a1 := h1 (k + 1) (by omega)
          have a2 : f (k + 1) ≠ n := fun e => by have := h2 (k + 1) k0 (by omega) hk0 (by omega); omega
          omega) (fun k l hk hl e => by
        split at e <;> split at e
        · exact h2 k l (by omega) (by omega) e
        · have := h2 k (l + 1) (by omega) (by omega) e; omega
        · have := h2 (k + 1) l (by omega) (by omega) e; omega
        · have := h2 (k + 1) (l + 1) (by omega) (by omega) e; omega)
      omega
    · have := php n m f (fun k hk2 => by
        have a1 := h1 k hk2
        have a2 : f k ≠ n := fun e => hk ⟨k, hk2, e⟩
        omega) h2
      omega
theorem ix1 {c x y : Int32} (k : Nat) (hc : c.toInt = k) (hk : k ≤ 100) (hx : 0 ≤ x.toInt ∧ x.toInt ≤ 1) (hy : 0 ≤ y.toInt ∧ y.toInt ≤ 1000) : ((c * x) + y).toInt = k * x.toInt + y.toInt ∧ ((c * x) + y).toNatClampNeg = k * x.toNatClampNeg + y.toNatClampNeg := by
  have h0 : x.toInt = 0 ∨ x.toInt = 1 := by omega
  have e1 : (c * x).toInt = k * x.toInt := i_mulL (a := c) (b := x) k hc (by rcases h0 with h | h <;> rw [h] <;> omega) (by rcases h0 with h | h <;> rw [h] <;> omega)
  have e2 : ((c * x) + y).toInt = k * x.toInt + y.toInt := by
    rw [← e1]
    exact i_add (by rw [e1]; rcases h0 with h | h <;> rw [h] <;> omega) (by rw [e1]; rcases h0 with h | h <;> rw [h] <;> omega)
  refine ⟨e2, ?_⟩
  rw [i_cl, e2, i_cl, i_cl]
  rcases h0 with h | h
  · have e : x.toInt.toNat = 0 := by omega
    rw [e, h, Int.mul_zero, Nat.mul_zero]
    omega
  · have e : x.toInt.toNat = 1 := by omega
    rw [e, h, Int.mul_one, Nat.mul_one]
    omega
theorem ix2 {x y z : Int32} (hx : 0 ≤ x.toInt ∧ x.toInt ≤ 1) (hy : 0 ≤ y.toInt ∧ y.toInt ≤ 4) (hz : 0 ≤ z.toInt ∧ z.toInt ≤ 1000) : ((((50 : Int32) * x) + ((10 : Int32) * y)) + z).toInt = 50 * x.toInt + 10 * y.toInt + z.toInt ∧ ((((50 : Int32) * x) + ((10 : Int32) * y)) + z).toNatClampNeg = 50 * x.toNatClampNeg + 10 * y.toNatClampNeg + z.toNatClampNeg := by
  have e1 := i_mulL (a := (50 : Int32)) (b := x) 50 (by decide) (by omega) (by omega)
  have e2 := i_mulL (a := (10 : Int32)) (b := y) 10 (by decide) (by omega) (by omega)
  have e3 := i_add (a := (50 : Int32) * x) (b := (10 : Int32) * y) (by omega) (by omega)
  have e4 := i_add (a := (50 : Int32) * x + (10 : Int32) * y) (b := z) (by omega) (by omega)
  refine ⟨by omega, ?_⟩
  rw [i_cl, i_cl, i_cl, i_cl]
  omega
/-! belowOf -/
theorem t_X8_stackAt (S : Tr) (x1 x2 x3 : Int32) (hx1 : 0 ≤ x1.toInt ∧ x1.toInt ≤ 1) (hx2 : 0 ≤ x2.toInt ∧ x2.toInt ≤ 4) (hx3 : 0 ≤ x3.toInt ∧ x3.toInt ≤ 9) : D (f_X8_stackAt S x1 x2 x3) (fun q => q = S 55 (50 * x1.toNatClampNeg + 10 * x2.toNatClampNeg + x3.toNatClampNeg)) := by
  obtain ⟨e1, e2⟩ := ix2 hx1 hx2 (z := x3) ⟨by omega, by omega⟩
  unfold f_X8_stackAt
  refine D_ck (okI_of (by omega) (by omega)) ?_
  exact D_some (by rw [e2])
theorem t_X8_belowOf (S : Tr) (x1 x2 : Int32) (hS : iR BM S) (hx1 : 0 ≤ x1.toInt ∧ x1.toInt ≤ 1) (hx2 : 0 ≤ x2.toInt ∧ x2.toInt ≤ 9) (hg : gS x1.toNatClampNeg S) (hly : 0 ≤ (S 54 (((10 : Int32) * x1) + x2).toNatClampNeg).toInt) : D (f_X8_belowOf S x1 x2) (fun q => (0 ≤ q.toInt ∧ q.toInt ≤ 9) ∧ q.toInt < (S 56 (((5 : Int32) * x1) + (S 54 (((10 : Int32) * x1) + x2).toNatClampNeg)).toNatClampNeg).toInt ∧ S 55 (50 * x1.toNatClampNeg + 10 * (S 54 (((10 : Int32) * x1) + x2).toNatClampNeg).toNatClampNeg + q.toNatClampNeg) = x2) := by
  obtain ⟨e1, e2⟩ := ix1 (c := 10) (x := x1) (y := x2) 10 (by decide) (by decide) hx1 ⟨by omega, by omega⟩
  have hb4 := hS 54 (10 * x1.toNatClampNeg + x2.toNatClampNeg)
  have hb4 : (-1 : Int) ≤ (S 54 (10 * x1.toNatClampNeg + x2.toNatClampNeg)).toInt ∧ (S 54 (10 * x1.toNatClampNeg + x2.toNatClampNeg)).toInt ≤ 4 := hb4
  rw [e2] at hly
  generalize hp : S 54 (10 * x1.toNatClampNeg + x2.toNatClampNeg) = p at hly hb4
  obtain ⟨e3, e4⟩ := ix1 (c := 5) (x := x1) (y := p) 5 (by decide) (by decide) hx1 ⟨by omega, by omega⟩
  have hpn : p.toNatClampNeg = p.toInt.toNat := rfl
  have hxn : x2.toNatClampNeg = x2.toInt.toNat := rfl
  obtain ⟨k0, hk0, hk1⟩ := hg.2.1 x2.toNatClampNeg p.toNatClampNeg (by omega) (by show (S 54 (10 * x1.toNatClampNeg + x2.toNatClampNeg)).toInt = _; rw [hp]; omega)
  have hm : (0 : Int) ≤ (S 56 (5 * x1.toNatClampNeg + p.toNatClampNeg)).toInt ∧ (S 56 (5 * x1.toNatClampNeg + p.toNatClampNeg)).toInt ≤ 10 := hS 56 _
  have hk0 : (k0 : Int) < (S 56 (5 * x1.toNatClampNeg + p.toNatClampNeg)).toInt := hk0
  have hk1 : (S 55 (50 * x1.toNatClampNeg + 10 * p.toNatClampNeg + k0)).toInt = x2.toNatClampNeg := hk1
  unfold f_X8_belowOf fL_X8_belowOf_L2
  refine lp_ind (P := fun (n : Nat) (f : Int32 → Option Int32) => ∀ x3 : Int32, 0 ≤ x3.toInt → x3.toInt ≤ k0 → 100 - x3.toInt < (n : Int) → D (f x3) (fun q => (0 ≤ q.toInt ∧ q.toInt ≤ 9) ∧ q.toInt < (S 56 (((5 : Int32) * x1) + (S 54 (((10 : Int32) * x1) + x2).toNatClampNeg)).toNatClampNeg).toInt ∧ S 55 (50 * x1.toNatClampNeg + 10 * (S 54 (((10 : Int32) * x1) + x2).toNatClampNeg).toNatClampNeg + q.toNatClampNeg) = x2)) ?_ ?_ 2000 0 (by decide) (by show (0 : Int) ≤ _; omega) (by decide)
  · intro x3 a1 a2 a3
    exfalso
    omega
  · intro n f ih x3 a1 a2 a3
    unfold fB_X8_belowOf_L2
    refine D_ck (okI_of (by omega) (by omega)) ?_
    rw [e2, hp] at ih ⊢
    refine D_bd (t_X8_stackAt S x1 p x3 hx1 ⟨hly, hb4.2⟩ ⟨a1, by omega⟩) (fun r er hr => ?_)
    have hx3n : x3.toNatClampNeg = x3.toInt.toNat := rfl
    refine D_ite (fun c => ?_) (fun c => ?_)
    · refine D_some ⟨⟨a1, by omega⟩, ?_, ?_⟩
      · rw [e4]; omega
      · rw [← hr, c]
    · have hne : x3.toInt ≠ k0 := fun e => c (by
        have : x3.toNatClampNeg = k0 := by omega
        rw [hr, this]
        exact Int32.toInt_inj.mp (by omega))
      refine D_lt (fun y ey => ?_)
      have h1 : (x3 + 1).toInt = x3.toInt + 1 := i_addK rfl (by decide) (by omega) (by omega)
      exact ih y (by rw [ey]; omega) (by rw [ey]; omega) (by rw [ey]; push_cast at a3; omega)
/-! one is taken out of a stack -/
theorem gF_take {mn mn' : Nat → Int} {sk sk' : Nat → Nat → Int} {ly ly' : Nat → Int} {pc : Int} {p i pos : Nat} (h : gF mn sk ly pc) (hb : ∀ q k, 0 ≤ sk q k ∧ sk q k ≤ 9) (hm10 : ∀ q, mn q ≤ 10) (hp : p < 5) (hi : i < 10) (hl0 : ly i = p) (hpos : (pos : Int) < mn p) (hsi : sk p pos = i)
    (hm : mn' p = mn p - 1) (hm2 : ∀ q, q < 5 → q ≠ p → mn' q = mn q) (hs1 : ∀ k, k < pos → sk' p k = sk p k) (hs2 : ∀ k, pos ≤ k → (k : Int) < mn p - 1 → sk' p k = sk p (k + 1)) (hs3 : ∀ q k, q < 5 → q ≠ p → k < 10 → sk' q k = sk q k) (hl : ly' i = -1) (hl2 : ∀ x, x < 10 → x ≠ i → ly' x = ly x) (hl5 : ∀ x, x < 10 → ly x < 5) : gF mn' sk' ly' pc := by
  obtain ⟨h1, h2, h3⟩ := h
  have key : ∀ k : Nat, (k : Int) < mn p - 1 → ∃ k2 : Nat, (k2 : Int) < mn p ∧ k2 ≠ pos ∧ sk' p k = sk p k2 ∧ ((k < pos ∧ k2 = k) ∨ (pos ≤ k ∧ k2 = k + 1)) := by
    intro k hk
    by_cases hq : k < pos
    · exact ⟨k, by omega, by omega, hs1 k hq, Or.inl ⟨hq, rfl⟩⟩
    · exact ⟨k + 1, by omega, by omega, hs2 k (by omega) hk, Or.inr ⟨by omega, rfl⟩⟩
  refine ⟨fun q k hq hk => ?_, fun x q hx hlx => ?_, fun q k l hq hk hl' e => ?_⟩
  · by_cases e : q = p
    · subst e
      rw [hm] at hk
      obtain ⟨k2, a1, a2, a3, -⟩ := key k hk
      obtain ⟨b1, b2⟩ := h1 q k2 hq a1
      have hne : (sk q k2).toNat ≠ i := fun e => a2 (h3 q k2 pos hq a1 hpos (by have := hb q k2; omega))
      rw [a3]
      have := hb q k2
      exact ⟨by rw [hl2 _ (by omega) hne]; exact b1, b2⟩
    · rw [hm2 q hq e] at hk
      have hk10 : k < 10 := by have := hm10 q; omega
      obtain ⟨b1, b2⟩ := h1 q k hq hk
      rw [hs3 q k hq e hk10]
      have hne : (sk q k).toNat ≠ i := fun e2 => by rw [e2] at b1; rw [hl0] at b1; omega
      have := hb q k
      exact ⟨by rw [hl2 _ (by omega) hne]; exact b1, b2⟩
  · by_cases hxi : x = i
    · subst hxi; rw [hl] at hlx; omega
    · rw [hl2 x hx hxi] at hlx
      obtain ⟨k, c1, c2⟩ := h2 x q hx hlx
      have hq5 : q < 5 := by have := hl5 x hx; omega
      by_cases e : q = p
      · subst e
        have hkp : k ≠ pos := fun e2 => by subst e2; omega
        by_cases hq : k < pos
        · exact ⟨k, by rw [hm]; omega, by rw [hs1 k hq]; exact c2⟩
        · refine ⟨k - 1, by rw [hm]; omega, ?_⟩
          rw [hs2 (k - 1) (by omega) (by omega), show k - 1 + 1 = k by omega]
          exact c2
      · exact ⟨k, by rw [hm2 q hq5 e]; exact c1, by rw [hs3 q k hq5 e (by have := hm10 q; omega)]; exact c2⟩
  · by_cases e1 : q = p
    · subst e1
      rw [hm] at hk hl'
      obtain ⟨k2, a1, a2, a3, a4⟩ := key k hk
      obtain ⟨l2, b1, b2, b3, b4⟩ := key l hl'
      have := h3 q k2 l2 hq a1 b1 (by rw [← a3, ← b3]; exact e)
      omega
    · rw [hm2 q hq e1] at hk hl'
      have := hm10 q
      rw [hs3 q k hq e1 (by omega), hs3 q l hq e1 (by omega)] at e
      exact h3 q k l hq hk hl' e
/-- one is laid on a stack -/
theorem gF_lay {mn mn' : Nat → Int} {sk sk' : Nat → Nat → Int} {ly ly' : Nat → Int} {pc : Int} {p i : Nat} (h : gF mn sk ly pc) (hb : ∀ q k, 0 ≤ sk q k ∧ sk q k ≤ 9) (hm0 : ∀ q, 0 ≤ mn q) (hm10 : ∀ q, mn q ≤ 10) (hp : p < 5) (hi : i < 10) (hip : (i : Int) < pc) (hl0 : ly i < 0)
    (hm : mn' p = mn p + 1) (hm2 : ∀ q, q < 5 → q ≠ p → mn' q = mn q) (hs1 : ∀ k : Nat, (k : Int) < mn p → sk' p k = sk p k) (hs2 : sk' p (mn p).toNat = i) (hs3 : ∀ q k, q < 5 → q ≠ p → k < 10 → sk' q k = sk q k) (hl : ly' i = p) (hl2 : ∀ x, x < 10 → x ≠ i → ly' x = ly x) (hl5 : ∀ x, x < 10 → ly x < 5) : gF mn' sk' ly' pc := by
  obtain ⟨h1, h2, h3⟩ := h
  have hne : ∀ q k : Nat, q < 5 → (k : Int) < mn q → (sk q k).toNat ≠ i := fun q k hq hk e => by
    have := (h1 q k hq hk).1
    rw [e] at this
    omega
  have m0 := hm0 p
  refine ⟨fun q k hq hk => ?_, fun x q hx hlx => ?_, fun q k l hq hk hl' e => ?_⟩
  · by_cases e : q = p
    · subst e
      rw [hm] at hk
      by_cases hk2 : (k : Int) < mn q
      · obtain ⟨b1, b2⟩ := h1 q k hq hk2
        rw [hs1 k hk2]
        have := hb q k
        exact ⟨by rw [hl2 _ (by omega) (hne q k hq hk2)]; exact b1, b2⟩
      · have ek : k = (mn q).toNat := by omega
        rw [ek, hs2]
        exact ⟨by rw [Int.toNat_natCast]; exact hl, hip⟩
    · rw [hm2 q hq e] at hk
      obtain ⟨b1, b2⟩ := h1 q k hq hk
      have := hm10 q
      rw [hs3 q k hq e (by omega)]
      have := hb q k
      exact ⟨by rw [hl2 _ (by omega) (hne q k hq hk)]; exact b1, b2⟩
  · by_cases hxi : x = i
    · subst hxi
      rw [hl] at hlx
      have : q = p := by omega
      subst this
      exact ⟨(mn q).toNat, by rw [hm]; omega, hs2⟩
    · rw [hl2 x hx hxi] at hlx
      obtain ⟨k, c1, c2⟩ := h2 x q hx hlx
      have hq5 : q < 5 := by have := hl5 x hx; omega
      by_cases e : q = p
      · subst e
        exact ⟨k, by rw [hm]; omega, by rw [hs1 k c1]; exact c2⟩
      · exact ⟨k, by rw [hm2 q hq5 e]; exact c1, by rw [hs3 q k hq5 e (by have := hm10 q; omega)]; exact c2⟩
  · by_cases e1 : q = p
    · subst e1
      rw [hm] at hk hl'
      have nat1 : ∀ j : Nat, (j : Int) < mn q → sk q j ≠ i := fun j hj e2 => hne q j hq hj (by rw [e2, Int.toNat_natCast])
      by_cases hk2 : (k : Int) < mn q <;> by_cases hl2' : (l : Int) < mn q
      · rw [hs1 k hk2, hs1 l hl2'] at e; exact h3 q k l hq hk2 hl2' e
      · have el : l = (mn q).toNat := by omega
        rw [hs1 k hk2, el, hs2] at e
        exact absurd e (nat1 k hk2)
      · have ek : k = (mn q).toNat := by omega
        rw [hs1 l hl2', ek, hs2] at e
        exact absurd e.symm (nat1 l hl2')
      · omega
    · rw [hm2 q hq e1] at hk hl'
      have := hm10 q
      rw [hs3 q k hq e1 (by omega), hs3 q l hq e1 (by omega)] at e
      exact h3 q k l hq hk hl' e
/-- a stack in which one isn't has room for it -/
theorem gF_room {mn : Nat → Int} {sk : Nat → Nat → Int} {ly : Nat → Int} {pc : Int} {p i : Nat} (h : gF mn sk ly pc) (hb : ∀ q k, 0 ≤ sk q k ∧ sk q k ≤ 9) (hp : p < 5) (hi : i < 10) (hl0 : ly i < 0) : mn p ≤ 9 := by
  obtain ⟨h1, -, h3⟩ := h
  by_cases hz : mn p ≤ 0
  · omega
  have := php 10 ((mn p).toNat + 1) (fun k => if (k : Int) < mn p then (sk p k).toNat else i) (fun k hk => by
    split
    · have := hb p k; omega
    · exact hi) (fun k l hk hl e => by
    have hne : ∀ j : Nat, (j : Int) < mn p → (sk p j).toNat ≠ i := fun j hj e2 => by
      have := (h1 p j hp hj).1
      rw [e2] at this
      omega
    split at e <;> split at e
    · rename_i a1 a2
      exact h3 p k l hp a1 a2 (by have b1 := hb p k; have b2 := hb p l; omega)
    · rename_i a1 a2; exact absurd e (hne k a1)
    · rename_i a1 a2; exact absurd e.symm (hne l a2)
    · omega)
  omega
-- 35.m
/-! cells by places -/
theorem BM54 {S : Tr} (h : iR BM S) (j : Nat) : -1 ≤ (S 54 j).toInt ∧ (S 54 j).toInt ≤ 4 := h 54 j
theorem BM55 {S : Tr} (h : iR BM S) (j : Nat) : 0 ≤ (S 55 j).toInt ∧ (S 55 j).toInt ≤ 9 := h 55 j
theorem BM56 {S : Tr} (h : iR BM S) (j : Nat) : 0 ≤ (S 56 j).toInt ∧ (S 56 j).toInt ≤ 10 := h 56 j
theorem BM53 {S : Tr} (h : iR BM S) (j : Nat) : 0 ≤ (S 53 j).toInt ∧ (S 53 j).toInt ≤ 5 := h 53 j
def shf (z : Tr) (lo hi : Nat) : Tr := fun a j => if a = 55 ∧ lo ≤ j ∧ j < hi then z 55 (j + 1) else z a j
theorem shf_0 {z : Tr} {lo : Nat} : shf z lo lo = z := by
  funext a j
  unfold shf
  rw [if_neg (by omega)]
theorem shf_s {z : Tr} {lo hi : Nat} (h : lo ≤ hi) : st (shf z lo hi) 55 hi (shf z lo hi 55 (hi + 1)) = shf z lo (hi + 1) := by
  funext a j
  rcases st_or (S := shf z lo hi) (a := 55) (i := hi) (b := a) (j := j) (v := shf z lo hi 55 (hi + 1)) with e | ⟨e1, e2⟩
  · by_cases hq : a = 55 ∧ j = hi
    · obtain ⟨q1, q2⟩ := hq
      subst q1; subst q2
      rw [st_same]
      unfold shf
      rw [if_neg (by omega), if_pos (by omega)]
    · rw [e]
      unfold shf
      by_cases h1 : a = 55 ∧ lo ≤ j ∧ j < hi
      · rw [if_pos h1, if_pos (by omega)]
      · rw [if_neg h1, if_neg (by omega)]
  · subst e1; subst e2
    rw [st_same]
    unfold shf
    rw [if_neg (by omega), if_pos (by omega)]
def tkM (S : Tr) (b i p pos : Nat) (c : Int32) : Tr := st (st (shf (st S 56 (5 * b + p) (S 56 (5 * b + p) - 1)) (50 * b + 10 * p + pos) (50 * b + 10 * p + ((S 56 (5 * b + p)).toInt.toNat - 1))) 54 (10 * b + i) (-1)) 53 (10 * b + i) c
theorem tk_54 {S : Tr} {b i p pos : Nat} {c : Int32} {j : Nat} : tkM S b i p pos c 54 j = if j = 10 * b + i then -1 else S 54 j := by
  unfold tkM
  rw [st_oth (by decide)]
  by_cases h : j = 10 * b + i
  · rw [if_pos h, h, st_same]
  · rw [if_neg h, st_ne h]
    unfold shf
    rw [if_neg (by omega), st_oth (by decide)]
theorem tk_53 {S : Tr} {b i p pos : Nat} {c : Int32} {j : Nat} : tkM S b i p pos c 53 j = if j = 10 * b + i then c else S 53 j := by
  unfold tkM
  by_cases h : j = 10 * b + i
  · rw [if_pos h, h, st_same]
  · rw [if_neg h, st_ne h, st_oth (by decide)]
    unfold shf
    rw [if_neg (by omega), st_oth (by decide)]
theorem tk_56 {S : Tr} {b i p pos : Nat} {c : Int32} {j : Nat} : tkM S b i p pos c 56 j = if j = 5 * b + p then S 56 (5 * b + p) - 1 else S 56 j := by
  unfold tkM
  rw [st_oth (by decide), st_oth (by decide)]
  unfold shf
  rw [if_neg (by omega)]
  by_cases h : j = 5 * b + p
  · rw [if_pos h, h, st_same]
  · rw [if_neg h, st_ne h]
theorem tk_55 {S : Tr} {b i p pos : Nat} {c : Int32} {j : Nat} : tkM S b i p pos c 55 j = if 50 * b + 10 * p + pos ≤ j ∧ j < 50 * b + 10 * p + ((S 56 (5 * b + p)).toInt.toNat - 1) then S 55 (j + 1) else S 55 j := by
  unfold tkM
  rw [st_oth (by decide), st_oth (by decide)]
  unfold shf
  by_cases h : 50 * b + 10 * p + pos ≤ j ∧ j < 50 * b + 10 * p + ((S 56 (5 * b + p)).toInt.toNat - 1)
  · rw [if_pos ⟨rfl, h⟩, if_pos h, st_oth (by decide)]
  · rw [if_neg (fun q => h q.2), if_neg h, st_oth (by decide)]
theorem tk_o {S : Tr} {b i p pos : Nat} {c : Int32} {a : Nat} (h3 : a ≠ 53) (h4 : a ≠ 54) (h5 : a ≠ 55) (h6 : a ≠ 56) : tkM S b i p pos c a = S a := by
  funext j
  unfold tkM
  rw [st_oth h3, st_oth h4]
  unfold shf
  rw [if_neg (by omega), st_oth h6]
theorem BM_tk {S : Tr} (h : iR BM S) {b i p pos : Nat} {c : Int32} (hc : 0 ≤ c.toInt ∧ c.toInt ≤ 5) (hm : 1 ≤ (S 56 (5 * b + p)).toInt) : iR BM (tkM S b i p pos c) := by
  intro a j
  by_cases h3 : a = 53
  · subst h3; rw [tk_53]; split
    · exact hc
    · exact h 53 j
  by_cases h4 : a = 54
  · subst h4; rw [tk_54]; split
    · show (-1 : Int) ≤ _ ∧ _ ≤ (4 : Int); decide
    · exact h 54 j
  by_cases h5 : a = 55
  · subst h5; rw [tk_55]; split
    · exact h 55 (j + 1)
    · exact h 55 j
  by_cases h6 : a = 56
  · subst h6; rw [tk_56]; split
    · have := BM56 h (5 * b + p)
      have e : (S 56 (5 * b + p) - 1).toInt = (S 56 (5 * b + p)).toInt - 1 := i_subK rfl (by decide) (by omega) (by omega)
      show (0 : Int) ≤ _ ∧ _ ≤ (10 : Int)
      rw [e]; omega
    · exact h 56 j
  rw [tk_o h3 h4 h5 h6]
  exact h a j
theorem Wb_f {b a j : Nat} (h : Wb b a j = false) : (a = 53 → ¬ (10 * b ≤ j ∧ j < 10 * b + 10)) ∧ (a = 54 → ¬ (10 * b ≤ j ∧ j < 10 * b + 10)) ∧ (a = 55 → ¬ (50 * b ≤ j ∧ j < 50 * b + 50)) ∧ (a = 56 → ¬ (5 * b ≤ j ∧ j < 5 * b + 5)) := by
  refine ⟨fun e q => ?_, fun e q => ?_, fun e q => ?_, fun e q => ?_⟩ <;> subst e
  · rw [Wb_53 (inB_of q.1 q.2)] at h; cases h
  · rw [Wb_54 (inB_of q.1 q.2)] at h; cases h
  · rw [Wb_55 (inB_of q.1 q.2)] at h; cases h
  · rw [Wb_56 (inB_of q.1 q.2)] at h; cases h
theorem tk_aG {S : Tr} (h : iR BM S) {b i p pos : Nat} {c : Int32} (hp : p < 5) (hi : i < 10) : aG b S (tkM S b i p pos c) := by
  intro a j hf
  obtain ⟨w3, w4, w5, w6⟩ := Wb_f hf
  have m := BM56 h (5 * b + p)
  by_cases h3 : a = 53
  · have := w3 h3; subst h3; rw [tk_53, if_neg (by omega)]
  by_cases h4 : a = 54
  · have := w4 h4; subst h4; rw [tk_54, if_neg (by omega)]
  by_cases h5 : a = 55
  · have := w5 h5; subst h5; rw [tk_55, if_neg (by omega)]
  by_cases h6 : a = 56
  · have := w6 h6; subst h6; rw [tk_56, if_neg (by omega)]
  rw [tk_o h3 h4 h5 h6]
theorem tk_gJ {S : Tr} (h : iR BM S) {b i p pos : Nat} {c : Int32} (hp : p < 5) (hi : i < 10) (hg : gI b S) (hl0 : lyM S b i = p) (hpos : (pos : Int) < mnM S b p) (hsi : skM S b p pos = i) : gJ b (tkM S b i p pos c) i ∧ gA b (tkM S b i p pos c) ∧ lyM (tkM S b i p pos c) b i = -1 := by
  obtain ⟨g1, g2, g3⟩ := hg
  have m0 : ∀ q, 0 ≤ mnM S b q := fun q => (BM56 h _).1
  have m1 : ∀ q, mnM S b q ≤ 10 := fun q => (BM56 h _).2
  have hli : lyM (tkM S b i p pos c) b i = -1 := by unfold lyM; rw [tk_54, if_pos rfl]; decide
  have hl2 : ∀ x, x < 10 → x ≠ i → lyM (tkM S b i p pos c) b x = lyM S b x := fun x hx hne => by unfold lyM; rw [tk_54, if_neg (by omega)]
  have mp := m0 p
  have mp1 := m1 p
  have em : (S 56 (5 * b + p)).toInt = mnM S b p := rfl
  refine ⟨⟨?_, fun x hx hne => ?_⟩, fun q hq hq2 => ?_, hli⟩
  · show gF _ _ _ _
    have e14 : (tkM S b i p pos c 0 14).toInt = (S 0 14).toInt := by rw [tk_o (by decide) (by decide) (by decide) (by decide)]
    rw [e14]
    refine gF_take (p := p) (i := i) (pos := pos) g1 (fun q k => BM55 h _) m1 hp hi hl0 hpos hsi ?_ ?_ ?_ ?_ ?_ hli hl2 (fun x hx => by have := BM54 h (10 * b + x); unfold lyM; omega)
    · unfold mnM
      rw [tk_56, if_pos rfl]
      exact i_subK rfl (by decide) (by omega) (by omega)
    · intro q hq hne; unfold mnM; rw [tk_56, if_neg (by omega)]
    · intro k hk; unfold skM; rw [tk_55, if_neg (by omega)]
    · intro k hk1 hk2; unfold skM; rw [tk_55, if_pos (by omega)]; rfl
    · intro q k hq hne hk; unfold skM; rw [tk_55, if_neg (by omega)]
  · rw [hl2 x hx hne, tk_53, if_neg (by omega)]
    exact g2 x hx
  · rw [tk_o (by decide) (by decide) (by decide) (by decide)] at hq2 ⊢
    exact g3 q hq hq2
theorem gI_of {b x : Nat} {S : Tr} (h : gJ b S x) (hA : gA b S) (hl : lyM S b x = -1) (hc : ¬ S 53 (10 * b + x) = 1) : gI b S := by
  refine ⟨h.1, fun i hi => ?_, hA⟩
  by_cases e : i = x
  · subst e
    rw [hl]
    exact ⟨fun q => absurd q hc, fun q => by omega⟩
  · exact h.2 i hi e
theorem t_X8_takes (S : Tr) (x1 x2 x3 : Int32) (hS : iR BM S) (hx1 : 0 ≤ x1.toInt ∧ x1.toInt ≤ 1) (hx2 : 0 ≤ x2.toInt ∧ x2.toInt ≤ 9) (hx3 : 0 ≤ x3.toInt ∧ x3.toInt ≤ 5) (hg : gI x1.toNatClampNeg S) (hly : 0 ≤ (S 54 (((10 : Int32) * x1) + x2).toNatClampNeg).toInt) : D (f_X8_takes S x1 x2 x3) (fun q => ∃ pos : Nat, q = tkM S x1.toNatClampNeg x2.toNatClampNeg (S 54 (((10 : Int32) * x1) + x2).toNatClampNeg).toNatClampNeg pos x3 ∧ iR BM q ∧ gJ x1.toNatClampNeg q x2.toNatClampNeg ∧ gA x1.toNatClampNeg q ∧ lyM q x1.toNatClampNeg x2.toNatClampNeg = -1 ∧ q 53 (10 * x1.toNatClampNeg + x2.toNatClampNeg) = x3 ∧ aG x1.toNatClampNeg S q) := by
  obtain ⟨e1, e2⟩ := ix1 (c := 10) (x := x1) (y := x2) 10 (by decide) (by decide) hx1 ⟨by omega, by omega⟩
  have hbel := t_X8_belowOf S x1 x2 hS hx1 hx2 hg.1 hly
  rw [e2] at hly hbel ⊢
  have hb4 := BM54 hS (10 * x1.toNatClampNeg + x2.toNatClampNeg)
  unfold f_X8_takes
  refine D_ck (okI_of (by omega) (by omega)) ?_
  rw [e2]
  refine D_lte (y := S 54 (10 * x1.toNatClampNeg + x2.toNatClampNeg)) rfl ?_
  have hl0 : lyM S x1.toNatClampNeg x2.toNatClampNeg = (S 54 (10 * x1.toNatClampNeg + x2.toNatClampNeg)).toInt := rfl
  generalize S 54 (10 * x1.toNatClampNeg + x2.toNatClampNeg) = p at *
  obtain ⟨e3, e4⟩ := ix1 (c := 5) (x := x1) (y := p) 5 (by decide) (by decide) hx1 ⟨by omega, by omega⟩
  refine D_bd hbel (fun r er hr => ?_)
  obtain ⟨r9, rm, rs⟩ := hr
  have hm := BM56 hS (5 * x1.toNatClampNeg + p.toNatClampNeg)
  have c1 : x1.toNatClampNeg = x1.toInt.toNat := rfl
  have c2 : x2.toNatClampNeg = x2.toInt.toNat := rfl
  have c4 : p.toNatClampNeg = p.toInt.toNat := rfl
  have c5 : r.toNatClampNeg = r.toInt.toNat := rfl
  rw [e4] at rm
  have hp5 : p.toNatClampNeg < 5 := by omega
  have hi10 : x2.toNatClampNeg < 10 := by omega
  have hpp : lyM S x1.toNatClampNeg x2.toNatClampNeg = p.toNatClampNeg := by rw [hl0]; omega
  have hmp : ((r.toNatClampNeg : Nat) : Int) < mnM S x1.toNatClampNeg p.toNatClampNeg := by show _ < (S 56 (5 * x1.toNatClampNeg + p.toNatClampNeg)).toInt; omega
  have hsi : skM S x1.toNatClampNeg p.toNatClampNeg r.toNatClampNeg = x2.toNatClampNeg := by unfold skM; rw [rs]; omega
  obtain ⟨j1, j2, j3⟩ := tk_gJ (c := x3) hS hp5 hi10 hg hpp hmp hsi
  refine D_ck (okI_of (by omega) (by omega)) ?_
  rw [e4]
  refine D_lt (fun S7 eS7 => ?_)
  unfold fL_X8_takes_L36
  have e56 : ∀ lo hi, shf S7 lo hi 56 (5 * x1.toNatClampNeg + p.toNatClampNeg) = S 56 (5 * x1.toNatClampNeg + p.toNatClampNeg) - 1 := fun lo hi => by
    unfold shf
    rw [if_neg (by omega), eS7, st_same]
  have em1 : (S 56 (5 * x1.toNatClampNeg + p.toNatClampNeg) - 1).toInt = (S 56 (5 * x1.toNatClampNeg + p.toNatClampNeg)).toInt - 1 := i_subK rfl (by decide) (by omega) (by omega)
  have goal : ∀ (x5 : Int32) (T : Tr), r.toInt ≤ x5.toInt → x5.toInt ≤ (S 56 (5 * x1.toNatClampNeg + p.toNatClampNeg)).toInt - 1 → T = shf S7 (50 * x1.toNatClampNeg + 10 * p.toNatClampNeg + r.toNatClampNeg) (50 * x1.toNatClampNeg + 10 * p.toNatClampNeg + x5.toNatClampNeg) → ∀ n : Nat, 100 - x5.toInt < (n : Int) → D (lpF (fun _ _ => none) (fB_X8_takes_L36 x1 x2 x3 p) n x5 T) (fun q => ∃ pos : Nat, q = tkM S x1.toNatClampNeg x2.toNatClampNeg p.toNatClampNeg pos x3 ∧ iR BM q ∧ gJ x1.toNatClampNeg q x2.toNatClampNeg ∧ gA x1.toNatClampNeg q ∧ lyM q x1.toNatClampNeg x2.toNatClampNeg = -1 ∧ q 53 (10 * x1.toNatClampNeg + x2.toNatClampNeg) = x3 ∧ aG x1.toNatClampNeg S q) := by
    intro x5 T a1 a2 a3 n
    revert x5 T
    induction n with
    | zero => intro x5 T a1 a2 a3 a4; exfalso; omega
    | succ n ih =>
      intro x5 T a1 a2 a3 a4
      show D (fB_X8_takes_L36 x1 x2 x3 p (lpF (fun _ _ => none) (fB_X8_takes_L36 x1 x2 x3 p) n) x5 T) _
      generalize lpF (fun _ _ => none) (fB_X8_takes_L36 x1 x2 x3 p) n = k36 at ih ⊢
      unfold fB_X8_takes_L36
      have c6 : x5.toNatClampNeg = x5.toInt.toNat := rfl
      refine D_ck (okI_of (by omega) (by omega)) ?_
      rw [e4]
      have eT : T 56 (5 * x1.toNatClampNeg + p.toNatClampNeg) = S 56 (5 * x1.toNatClampNeg + p.toNatClampNeg) - 1 := by rw [a3]; exact e56 _ _
      rw [eT]
      refine D_ite (fun c => ?_) (fun c => ?_)
      · have k := tq_le rfl rfl c
        unfold fJ_X8_takes_J96
        refine D_ck (okI_of (by omega) (by omega)) ?_
        rw [e2]
        have ex : x5.toNatClampNeg = (S 56 (5 * x1.toNatClampNeg + p.toNatClampNeg)).toInt.toNat - 1 := by omega
        have eq1 : st (st T 54 (10 * x1.toNatClampNeg + x2.toNatClampNeg) (-1)) 53 (10 * x1.toNatClampNeg + x2.toNatClampNeg) x3 = tkM S x1.toNatClampNeg x2.toNatClampNeg p.toNatClampNeg r.toNatClampNeg x3 := by
          rw [a3, ex, eS7]
          rfl
        refine D_lt (fun S11 e11 => ?_)
        refine D_lt (fun S12 e12 => ?_)
        rw [e11] at e12
        rw [eq1] at e12
        subst e12
        refine D_some ⟨r.toNatClampNeg, rfl, BM_tk hS hx3 (by omega), j1, j2, j3, ?_, tk_aG hS hp5 hi10⟩
        rw [tk_53, if_pos rfl]
      · have k := tq_len rfl rfl c
        obtain ⟨f1, f2⟩ := ix2 (x := x1) (y := p) (z := x5) hx1 ⟨hly, hb4.2⟩ ⟨by omega, by omega⟩
        have f3 : ((((50 : Int32) * x1 + (10 : Int32) * p) + x5) + 1).toInt = ((((50 : Int32) * x1 + (10 : Int32) * p) + x5)).toInt + 1 := i_addK rfl (by decide) (by omega) (by omega)
        have f4 : ((((50 : Int32) * x1 + (10 : Int32) * p) + x5) + 1).toNatClampNeg = 50 * x1.toNatClampNeg + 10 * p.toNatClampNeg + x5.toNatClampNeg + 1 := by rw [i_cl]; omega
        refine D_ck (okI_of (by omega) (by omega)) ?_
        refine D_ck (okI_of (by omega) (by omega)) ?_
        rw [f2, f4]
        refine D_lt (fun S15 e15 => ?_)
        refine D_lt (fun y ey => ?_)
        have h1 : (x5 + 1).toInt = x5.toInt + 1 := i_addK rfl (by decide) (by omega) (by omega)
        have hy : y.toNatClampNeg = x5.toNatClampNeg + 1 := by rw [ey, i_cl]; omega
        refine ih y S15 (by rw [ey]; omega) (by rw [ey]; omega) ?_ (by rw [ey]; omega)
        rw [e15, a3, hy, shf_s (by omega)]
        rfl
  refine goal r S7 (Int.le_refl _) (by omega) shf_0.symm 2000 (by omega)
/-! one is laid on a stack -/
def lyS (S : Tr) (b i p : Nat) (v pv : Int32) : Tr := st (st (st (st S 55 (50 * b + 10 * p + (S 56 (5 * b + p)).toInt.toNat) v) 56 (5 * b + p) (S 56 (5 * b + p) + 1)) 54 (10 * b + i) pv) 53 (10 * b + i) 1
theorem ls_55 {S : Tr} {b i p : Nat} {v pv : Int32} {j : Nat} : lyS S b i p v pv 55 j = if j = 50 * b + 10 * p + (S 56 (5 * b + p)).toInt.toNat then v else S 55 j := by
  unfold lyS
  rw [st_oth (by decide), st_oth (by decide), st_oth (by decide)]
  by_cases h : j = 50 * b + 10 * p + (S 56 (5 * b + p)).toInt.toNat
  · rw [if_pos h, h, st_same]
  · rw [if_neg h, st_ne h]
theorem ls_56 {S : Tr} {b i p : Nat} {v pv : Int32} {j : Nat} : lyS S b i p v pv 56 j = if j = 5 * b + p then S 56 (5 * b + p) + 1 else S 56 j := by
  unfold lyS
  rw [st_oth (by decide), st_oth (by decide)]
  by_cases h : j = 5 * b + p
  · rw [if_pos h, h, st_same]
  · rw [if_neg h, st_ne h, st_oth (by decide)]
theorem ls_54 {S : Tr} {b i p : Nat} {v pv : Int32} {j : Nat} : lyS S b i p v pv 54 j = if j = 10 * b + i then pv else S 54 j := by
  unfold lyS
  rw [st_oth (by decide)]
  by_cases h : j = 10 * b + i
  · rw [if_pos h, h, st_same]
  · rw [if_neg h, st_ne h, st_oth (by decide), st_oth (by decide)]
theorem ls_53 {S : Tr} {b i p : Nat} {v pv : Int32} {j : Nat} : lyS S b i p v pv 53 j = if j = 10 * b + i then 1 else S 53 j := by
  unfold lyS
  by_cases h : j = 10 * b + i
  · rw [if_pos h, h, st_same]
  · rw [if_neg h, st_ne h, st_oth (by decide), st_oth (by decide), st_oth (by decide)]
theorem ls_o {S : Tr} {b i p : Nat} {v pv : Int32} {a : Nat} (h3 : a ≠ 53) (h4 : a ≠ 54) (h5 : a ≠ 55) (h6 : a ≠ 56) : lyS S b i p v pv a = S a := by
  unfold lyS
  rw [st_oth h3, st_oth h4, st_oth h6, st_oth h5]
theorem BM_ls {S : Tr} (h : iR BM S) {b i p : Nat} {v pv : Int32} (hv : 0 ≤ v.toInt ∧ v.toInt ≤ 9) (hp : 0 ≤ pv.toInt ∧ pv.toInt ≤ 4) (hm : (S 56 (5 * b + p)).toInt ≤ 9) : iR BM (lyS S b i p v pv) := by
  intro a j
  by_cases h3 : a = 53
  · subst h3; rw [ls_53]; split
    · show (0 : Int) ≤ _ ∧ _ ≤ (5 : Int); decide
    · exact h 53 j
  by_cases h4 : a = 54
  · subst h4; rw [ls_54]; split
    · show (-1 : Int) ≤ _ ∧ _ ≤ (4 : Int); omega
    · exact h 54 j
  by_cases h5 : a = 55
  · subst h5; rw [ls_55]; split
    · exact hv
    · exact h 55 j
  by_cases h6 : a = 56
  · subst h6; rw [ls_56]; split
    · have := BM56 h (5 * b + p)
      have e : (S 56 (5 * b + p) + 1).toInt = (S 56 (5 * b + p)).toInt + 1 := i_addK rfl (by decide) (by omega) (by omega)
      show (0 : Int) ≤ _ ∧ _ ≤ (10 : Int)
      rw [e]; omega
    · exact h 56 j
  rw [ls_o h3 h4 h5 h6]
  exact h a j
theorem ls_aG {S : Tr} (h : iR BM S) {b i p : Nat} {v pv : Int32} (hp : p < 5) (hi : i < 10) (hm : (S 56 (5 * b + p)).toInt ≤ 9) : aG b S (lyS S b i p v pv) := by
  intro a j hf
  obtain ⟨w3, w4, w5, w6⟩ := Wb_f hf
  have m := BM56 h (5 * b + p)
  by_cases h3 : a = 53
  · have := w3 h3; subst h3; rw [ls_53, if_neg (by omega)]
  by_cases h4 : a = 54
  · have := w4 h4; subst h4; rw [ls_54, if_neg (by omega)]
  by_cases h5 : a = 55
  · have := w5 h5; subst h5; rw [ls_55, if_neg (by omega)]
  by_cases h6 : a = 56
  · have := w6 h6; subst h6; rw [ls_56, if_neg (by omega)]
  rw [ls_o h3 h4 h5 h6]
theorem ls_gI {S : Tr} (h : iR BM S) {b i p : Nat} {v pv : Int32} (hp : p < 5) (hi : i < 10) (hg : gJ b S i) (hA : gA b S) (hl0 : lyM S b i < 0) (hip : (i : Int) < (S 0 14).toInt) (hv : v.toInt = i) (hpv : pv.toInt = p) (hm9 : (S 56 (5 * b + p)).toInt ≤ 9) : gI b (lyS S b i p v pv) := by
  obtain ⟨g1, g2⟩ := hg
  have m0 : ∀ q, 0 ≤ mnM S b q := fun q => (BM56 h _).1
  have m1 : ∀ q, mnM S b q ≤ 10 := fun q => (BM56 h _).2
  have mp := m0 p
  have hli : lyM (lyS S b i p v pv) b i = p := by unfold lyM; rw [ls_54, if_pos rfl]; exact hpv
  have hl2 : ∀ x, x < 10 → x ≠ i → lyM (lyS S b i p v pv) b x = lyM S b x := fun x hx hne => by unfold lyM; rw [ls_54, if_neg (by omega)]
  have em : (S 56 (5 * b + p)).toInt = mnM S b p := rfl
  refine ⟨?_, fun x hx => ?_, fun q hq hq2 => ?_⟩
  · show gF _ _ _ _
    have e14 : (lyS S b i p v pv 0 14).toInt = (S 0 14).toInt := by rw [ls_o (by decide) (by decide) (by decide) (by decide)]
    rw [e14]
    refine gF_lay (p := p) (i := i) g1 (fun q k => BM55 h _) m0 m1 hp hi hip hl0 ?_ ?_ ?_ ?_ ?_ hli hl2 (fun x hx => by have := BM54 h (10 * b + x); unfold lyM; omega)
    · unfold mnM
      rw [ls_56, if_pos rfl]
      exact i_addK rfl (by decide) (by omega) (by omega)
    · intro q hq hne; unfold mnM; rw [ls_56, if_neg (by omega)]
    · intro k hk; unfold skM; rw [ls_55, if_neg (by omega)]
    · unfold skM; rw [ls_55, if_pos (by rw [← em])]; exact hv
    · intro q k hq hne hk; unfold skM; rw [ls_55, if_neg (by omega)]
  · by_cases e : x = i
    · subst e
      rw [hli, ls_53, if_pos rfl]
      exact ⟨fun _ => by omega, fun _ => rfl⟩
    · rw [hl2 x hx e, ls_53, if_neg (by omega)]
      exact g2 x hx e
  · rw [ls_o (by decide) (by decide) (by decide) (by decide)] at hq2 ⊢
    exact hA q hq hq2
theorem t_X8_lays (S : Tr) (x1 x2 x3 : Int32) (hS : iR BM S) (hx1 : 0 ≤ x1.toInt ∧ x1.toInt ≤ 1) (hx2 : 0 ≤ x2.toInt ∧ x2.toInt ≤ 4) (hx3 : 0 ≤ x3.toInt ∧ x3.toInt ≤ 9) (hg : gJ x1.toNatClampNeg S x3.toNatClampNeg) (hA : gA x1.toNatClampNeg S) (hl0 : lyM S x1.toNatClampNeg x3.toNatClampNeg < 0) (hip : x3.toInt < (S 0 14).toInt) : D (f_X8_lays S x1 x2 x3) (fun q => q = lyS S x1.toNatClampNeg x3.toNatClampNeg x2.toNatClampNeg x3 x2 ∧ iR BM q ∧ gI x1.toNatClampNeg q ∧ aG x1.toNatClampNeg S q) := by
  obtain ⟨e1, e2⟩ := ix1 (c := 5) (x := x1) (y := x2) 5 (by decide) (by decide) hx1 ⟨by omega, by omega⟩
  obtain ⟨e3, e4⟩ := ix1 (c := 10) (x := x1) (y := x3) 10 (by decide) (by decide) hx1 ⟨by omega, by omega⟩
  have c1 : x1.toNatClampNeg = x1.toInt.toNat := rfl
  have c2 : x2.toNatClampNeg = x2.toInt.toNat := rfl
  have c3 : x3.toNatClampNeg = x3.toInt.toNat := rfl
  have hm9 : (S 56 (5 * x1.toNatClampNeg + x2.toNatClampNeg)).toInt ≤ 9 := gF_room (p := x2.toNatClampNeg) (i := x3.toNatClampNeg) hg.1 (fun q k => BM55 hS _) (by omega) (by omega) hl0
  have hm := BM56 hS (5 * x1.toNatClampNeg + x2.toNatClampNeg)
  obtain ⟨e5, e6⟩ := ix2 (x := x1) (y := x2) (z := S 56 (5 * x1.toNatClampNeg + x2.toNatClampNeg)) hx1 hx2 ⟨by omega, by omega⟩
  unfold f_X8_lays
  refine D_ck (okI_of (by omega) (by omega)) ?_
  rw [e2]
  refine D_ck (okI_of (by omega) (by omega)) ?_
  rw [e6]
  refine D_lt (fun S3 q3 => ?_)
  refine D_lt (fun S4 q4 => ?_)
  refine D_ck (okI_of (by omega) (by omega)) ?_
  rw [e4]
  refine D_lt (fun S6 q6 => ?_)
  refine D_lt (fun S7 q7 => ?_)
  have eq : S7 = lyS S x1.toNatClampNeg x3.toNatClampNeg x2.toNatClampNeg x3 x2 := by
    rw [q7, q6, q4, q3]
    rfl
  rw [eq]
  exact D_some ⟨rfl, BM_ls hS hx3 hx2 hm9, ls_gI hS (by omega) (by omega) hg hA hl0 (by omega) (by omega) (by omega) hm9, ls_aG hS (by omega) (by omega) hm9⟩
theorem t_X8_stackAt2 (S : Tr) (x1 x2 x3 : Int32) (hS : iR BM S) (hx1 : 0 ≤ x1.toInt ∧ x1.toInt ≤ 1) (hx2 : 0 ≤ x2.toInt ∧ x2.toInt ≤ 4) (hx3 : 0 ≤ x3.toInt ∧ x3.toInt ≤ 9) : D (f_X8_stackAt S x1 x2 x3) (fun q => (0 ≤ q.toInt ∧ q.toInt ≤ 9) ∧ q = S 55 (50 * x1.toNatClampNeg + 10 * x2.toNatClampNeg + x3.toNatClampNeg)) :=
  D_mono (t_X8_stackAt S x1 x2 x3 hx1 hx2 hx3) (fun r hr => ⟨by rw [hr]; exact BM55 hS _, hr⟩)
theorem i64_ne {x : Int32} (h : x.toInt ≠ 0) : ¬ x.toInt64 = 0 := fun e => h (by
  have := congrArg Int64.toInt e
  rw [Int32.toInt_toInt64] at this
  exact this)
theorem node_i {S : Tr} {k : Nat} (h : nodeOK S k) : (S 39 k).toInt = 0 ∨ ((S 39 k).toInt = 1 ∧ 0 ≤ (S 40 k).toInt ∧ (S 40 k).toInt ≤ 6) ∨ ((S 39 k).toInt = 2 ∧ 0 ≤ (S 40 k).toInt ∧ (S 40 k).toInt ≤ 63) ∨ (¬ (S 39 k).toInt = 1 ∧ 0 ≤ (S 40 k).toInt ∧ (S 40 k).toInt ≤ 63 ∧ 0 ≤ (S 41 k).toInt ∧ (S 41 k).toInt ≤ 63) := by
  rcases h with e | ⟨e, h⟩ | ⟨e, h⟩ | ⟨e, h⟩
  · exact Or.inl (by rw [e]; decide)
  · exact Or.inr (Or.inl ⟨by rw [e]; decide, h⟩)
  · exact Or.inr (Or.inr (Or.inl ⟨by rw [e]; decide, h⟩))
  · exact Or.inr (Or.inr (Or.inr ⟨fun q => e (Int32.toInt_inj.mp q), h⟩))
theorem gS_fr {b : Nat} {S S1 : Tr} (h : gS b S) (e54 : ∀ j, S1 54 j = S 54 j) (e55 : ∀ j, S1 55 j = S 55 j) (e56 : ∀ j, S1 56 j = S 56 j) (e14 : S1 0 14 = S 0 14) : gS b S1 := by
  have a1 : mnM S1 b = mnM S b := by funext p; unfold mnM; rw [e56]
  have a2 : skM S1 b = skM S b := by funext p k; unfold skM; rw [e55]
  have a3 : lyM S1 b = lyM S b := by funext p; unfold lyM; rw [e54]
  unfold gS
  rw [a1, a2, a3, e14]
  exact h
theorem gI_fr {b : Nat} {S S1 : Tr} (h : gI b S) (e53 : ∀ j, S1 53 j = S 53 j) (e54 : ∀ j, S1 54 j = S 54 j) (e55 : ∀ j, S1 55 j = S 55 j) (e56 : ∀ j, S1 56 j = S 56 j) (e58 : ∀ j, S1 58 j = S 58 j) (e13 : S1 0 13 = S 0 13) (e14 : S1 0 14 = S 0 14) : gI b S1 := by
  refine ⟨gS_fr h.1 e54 e55 e56 e14, fun i hi => ?_, fun p hp hq => ?_⟩
  · unfold lyM
    rw [e53, e54]
    exact h.2.1 i hi
  · rw [e58]
    rw [e13] at hq
    exact h.2.2 p hp hq
theorem gI_aT {b : Nat} {S S1 : Tr} (h : gI b S) (a : aT S S1) : gI b S1 := gI_fr h (fun j => a 53 j rfl) (fun j => a 54 j rfl) (fun j => a 55 j rfl) (fun j => a 56 j rfl) (fun j => a 58 j rfl) (a 0 13 rfl) (a 0 14 rfl)
theorem pI_fr {S S1 : Tr} (h : pI S) (e39 : ∀ j, S1 39 j = S 39 j) (e40 : ∀ j, S1 40 j = S 40 j) (e41 : ∀ j, S1 41 j = S 41 j) (e36 : ∀ j, S1 36 j = S 36 j) (e38 : ∀ j, S1 38 j = S 38 j) (e30 : ∀ j, S1 30 j = S 30 j) (e29 : ∀ j, S1 29 j = S 29 j) (e13 : S1 0 13 = S 0 13) (e14 : S1 0 14 = S 0 14) : pI S1 := by
  obtain ⟨h1, h2, h3, h4⟩ := h
  refine ⟨fun k => ?_, fun w hw q => ?_, fun i hi q => ?_, fun p hp q => ?_⟩
  · unfold nodeOK; rw [e39, e40, e41]; exact h1 k
  · rw [e36] at q; rw [e38]; exact h2 w hw q
  · rw [e14] at q; rw [e30, e13]; exact h3 i hi q
  · rw [e13] at q; rw [e29]; exact h4 p hp q
theorem pI_aT {S S1 : Tr} (h : pI S) (a : aT S S1) : pI S1 := pI_fr h (fun j => a 39 j rfl) (fun j => a 40 j rfl) (fun j => a 41 j rfl) (fun j => a 36 j rfl) (fun j => a 38 j rfl) (fun j => a 30 j rfl) (fun j => a 29 j rfl) (a 0 13 rfl) (a 0 14 rfl)
theorem pI_aG {b : Nat} {S S1 : Tr} (h : pI S) (a : aG b S S1) : pI S1 := pI_fr h (fun j => a 39 j rfl) (fun j => a 40 j rfl) (fun j => a 41 j rfl) (fun j => a 36 j rfl) (fun j => a 38 j rfl) (fun j => a 30 j rfl) (fun j => a 29 j rfl) (a 0 13 rfl) (a 0 14 rfl)
/-- what lies in a stack lies somewhere -/
theorem sk_ly {S : Tr} {x1 p k r : Int32} (hg : gS x1.toNatClampNeg S) (hS : iR BM S) (hx1 : 0 ≤ x1.toInt ∧ x1.toInt ≤ 1) (hp : 0 ≤ p.toInt ∧ p.toInt ≤ 4) (hk : 0 ≤ k.toInt) (hm : k.toInt < (S 56 (((5 : Int32) * x1) + p).toNatClampNeg).toInt) (hr : r = S 55 (50 * x1.toNatClampNeg + 10 * p.toNatClampNeg + k.toNatClampNeg)) : 0 ≤ (S 54 (((10 : Int32) * x1) + r).toNatClampNeg).toInt ∧ r.toInt < (S 0 14).toInt := by
  have b5 := BM55 hS (50 * x1.toNatClampNeg + 10 * p.toNatClampNeg + k.toNatClampNeg)
  rw [← hr] at b5
  obtain ⟨e1, e2⟩ := ix1 (c := 10) (x := x1) (y := r) 10 (by decide) (by decide) hx1 ⟨by omega, by omega⟩
  obtain ⟨e3, e4⟩ := ix1 (c := 5) (x := x1) (y := p) 5 (by decide) (by decide) hx1 ⟨by omega, by omega⟩
  rw [e4] at hm
  have c2 : p.toNatClampNeg = p.toInt.toNat := rfl
  have c3 : k.toNatClampNeg = k.toInt.toNat := rfl
  have h1 := hg.1 p.toNatClampNeg k.toNatClampNeg (by omega) (by unfold mnM; omega)
  unfold skM lyM at h1
  rw [← hr] at h1
  rw [e2, i_cl (i := r)]
  exact ⟨by rw [h1.1]; omega, h1.2⟩
theorem ly_of {S : Tr} {x1 x2 : Int32} (hg : gI x1.toNatClampNeg S) (hx1 : 0 ≤ x1.toInt ∧ x1.toInt ≤ 1) (hx2 : 0 ≤ x2.toInt ∧ x2.toInt ≤ 9) (h : S 53 (((10 : Int32) * x1) + x2).toNatClampNeg = 1) : 0 ≤ (S 54 (((10 : Int32) * x1) + x2).toNatClampNeg).toInt := by
  obtain ⟨e1, e2⟩ := ix1 (c := 10) (x := x1) (y := x2) 10 (by decide) (by decide) hx1 ⟨by omega, by omega⟩
  rw [e2] at h ⊢
  have c2 : x2.toNatClampNeg = x2.toInt.toNat := rfl
  exact (hg.2.1 x2.toNatClampNeg (by omega)).mp h
theorem ab_of {S : Tr} {x1 x2 : Int32} (hS : iR BM S) (hpI : pI S) (hA : gA x1.toNatClampNeg S) (hx1 : 0 ≤ x1.toInt ∧ x1.toInt ≤ 1) (hx2 : 0 ≤ x2.toInt ∧ x2.toInt ≤ 9) (hip : x2.toInt < (S 0 14).toInt) : 1 ≤ (S 58 (((6 : Int32) * x1) + (S 30 x2.toNatClampNeg)).toNatClampNeg).toInt := by
  have hb : (0 : Int) ≤ (S 30 x2.toNatClampNeg).toInt ∧ (S 30 x2.toNatClampNeg).toInt ≤ 5 := hS 30 _
  obtain ⟨e1, e2⟩ := ix1 (c := 6) (x := x1) (y := S 30 x2.toNatClampNeg) 6 (by decide) (by decide) hx1 ⟨by omega, by omega⟩
  have c2 : x2.toNatClampNeg = x2.toInt.toNat := rfl
  have c3 : (S 30 x2.toNatClampNeg).toNatClampNeg = (S 30 x2.toNatClampNeg).toInt.toNat := rfl
  have h3 := hpI.2.2.1 x2.toNatClampNeg (by omega) (by omega)
  rw [e2]
  exact hA _ (by omega) (by omega)
theorem t_X8_takes2 (S : Tr) (x1 x2 x3 : Int32) (hS : iR BM S) (dgI : gI x1.toNatClampNeg S) (hx1 : 0 ≤ x1.toInt ∧ x1.toInt ≤ 1) (hx2 : 0 ≤ x2.toInt ∧ x2.toInt ≤ 9) (hx3 : 0 ≤ x3.toInt ∧ x3.toInt ≤ 5) (hly : 0 ≤ (S 54 (((10 : Int32) * x1) + x2).toNatClampNeg).toInt) (hx31 : ¬ x3.toInt = 1) : D (f_X8_takes S x1 x2 x3) (fun q => iR BM q ∧ gI x1.toNatClampNeg q ∧ aG x1.toNatClampNeg S q ∧ q 62 x1.toNatClampNeg = S 62 x1.toNatClampNeg) :=
  D_mono (t_X8_takes S x1 x2 x3 hS hx1 hx2 hx3 dgI hly) (fun q hq => by
    obtain ⟨pos, e, h1, h2, h3, h4, h5, h6⟩ := hq
    refine ⟨h1, gI_of h2 h3 h4 (by rw [h5]; exact fun z => hx31 (by rw [z]; decide)), h6, ?_⟩
    rw [e, tk_o (by decide) (by decide) (by decide) (by decide)])
theorem t_X8_lays2 (S : Tr) (x1 x2 x3 : Int32) (hS : iR BM S) (dgI : gI x1.toNatClampNeg S) (hx1 : 0 ≤ x1.toInt ∧ x1.toInt ≤ 1) (hx2 : 0 ≤ x2.toInt ∧ x2.toInt ≤ 4) (hx3 : 0 ≤ x3.toInt ∧ x3.toInt ≤ 9) (hc : ¬ S 53 (((10 : Int32) * x1) + x3).toNatClampNeg = 1) (hip : x3.toInt < (S 0 14).toInt) : D (f_X8_lays S x1 x2 x3) (fun q => iR BM q ∧ gI x1.toNatClampNeg q ∧ aG x1.toNatClampNeg S q ∧ q 62 x1.toNatClampNeg = S 62 x1.toNatClampNeg) := by
  obtain ⟨e1, e2⟩ := ix1 (c := 10) (x := x1) (y := x3) 10 (by decide) (by decide) hx1 ⟨by omega, by omega⟩
  rw [e2] at hc
  have c3 : x3.toNatClampNeg = x3.toInt.toNat := rfl
  have hn : lyM S x1.toNatClampNeg x3.toNatClampNeg < 0 := by
    have := (dgI.2.1 x3.toNatClampNeg (by omega)).mpr
    by_cases q : 0 ≤ lyM S x1.toNatClampNeg x3.toNatClampNeg
    · exact absurd (this q) hc
    · omega
  refine D_mono (t_X8_lays S x1 x2 x3 hS hx1 hx2 hx3 ⟨dgI.1, fun i hi _ => dgI.2.1 i hi⟩ dgI.2.2 hn hip) (fun q hq => ?_)
  obtain ⟨e, h1, h2, h3⟩ := hq
  refine ⟨h1, h2, h3, ?_⟩
  rw [e, ls_o (by decide) (by decide) (by decide) (by decide)]
/-- the state of one that lies nowhere -/
theorem gI_53 {S : Tr} {x1 x3 c : Int32} (hg : gI x1.toNatClampNeg S) (hx1 : 0 ≤ x1.toInt ∧ x1.toInt ≤ 1) (hx3 : 0 ≤ x3.toInt ∧ x3.toInt ≤ 9) (h0 : ¬ S 53 (((10 : Int32) * x1) + x3).toNatClampNeg = 1) (hc : ¬ c = 1) : gI x1.toNatClampNeg (st S 53 (((10 : Int32) * x1) + x3).toNatClampNeg c) := by
  obtain ⟨e1, e2⟩ := ix1 (c := 10) (x := x1) (y := x3) 10 (by decide) (by decide) hx1 ⟨by omega, by omega⟩
  rw [e2] at h0 ⊢
  refine ⟨gS_fr hg.1 (fun j => by rw [st_oth (by decide)]) (fun j => by rw [st_oth (by decide)]) (fun j => by rw [st_oth (by decide)]) (by rw [st_oth (by decide)]), fun i hi => ?_, fun p hp hq => ?_⟩
  · have el : lyM (st S 53 (10 * x1.toNatClampNeg + x3.toNatClampNeg) c) x1.toNatClampNeg i = lyM S x1.toNatClampNeg i := by unfold lyM; rw [st_oth (by decide)]
    rw [el]
    by_cases q : i = x3.toNatClampNeg
    · rw [q, st_same]
      exact ⟨fun z => absurd z hc, fun z => absurd ((hg.2.1 x3.toNatClampNeg (by rw [i_cl]; omega)).mpr z) h0⟩
    · rw [st_ne (by omega)]
      exact hg.2.1 i hi
  · rw [st_oth (by decide)] at hq ⊢
    exact hg.2.2 p hp hq
theorem i_mul1 {a b : Int32} (h0 : 0 ≤ a.toInt ∧ a.toInt ≤ 1000000) (h2 : 0 ≤ b.toInt) (h3 : b.toInt ≤ 5) : (1 ≤ a.toInt → 1 ≤ b.toInt → 1 ≤ (a * b).toInt) ∧ (b.toInt = 0 → (a * b).toInt = 0) := by
  have h4 := Int.mul_nonneg h0.1 h2
  have h5 : a.toInt * b.toInt ≤ a.toInt * 5 := Int.mul_le_mul_of_nonneg_left h3 h0.1
  have e : (a * b).toInt = a.toInt * b.toInt := by
    rw [Int32.toInt_mul]
    exact i_bm (by omega) (by omega)
  rw [e]
  refine ⟨fun q1 q2 => ?_, fun q => by rw [q, Int.mul_zero]⟩
  have := Int.mul_le_mul q1 q2 (by omega) (by omega)
  omega
/-! cells that are copied one by one -/
theorem cp_s {S S1 : Tr} {g : Nat → Int32} {a c i : Nat} {x y v : Int32} (h : ∀ j : Nat, (j : Int) < x.toInt → S a (c + j) = g j) (hx : 0 ≤ x.toInt) (hi : i = c + x.toNatClampNeg) (hv : v = g x.toNatClampNeg) (e : S1 a = upd (S a) i v) (hy : y.toInt = x.toInt + 1) : ∀ j : Nat, (j : Int) < y.toInt → S1 a (c + j) = g j := by
  intro j hj
  rw [e]
  unfold upd
  by_cases q : c + j = i
  · rw [if_pos q, hv]
    have : x.toNatClampNeg = j := by omega
    rw [this]
  · rw [if_neg q]
    have hc : x.toNatClampNeg = x.toInt.toNat := rfl
    exact h j (by omega)
theorem Wb_lo {a j n : Nat} (h : (a = 53 ∨ a = 54) ∧ n = 10 ∨ a = 55 ∧ n = 50 ∨ a = 56 ∧ n = 5 ∨ (a = 57 ∨ a = 58 ∨ a = 59 ∨ a = 60) ∧ n = 6 ∨ (a = 61 ∨ a = 62 ∨ a = 63) ∧ n = 1) (hj : j < n) : Wb 1 a j = false := by
  have hb : Nat.ble (n * 1) j = false := by
    cases q : Nat.ble (n * 1) j with
    | false => rfl
    | true => have := Nat.le_of_ble_eq_true q; omega
  rcases h with ⟨e | e, q⟩ | ⟨e, q⟩ | ⟨e, q⟩ | ⟨e | e | e | e, q⟩ | ⟨e | e | e, q⟩ <;> subst e <;> subst q <;> simp [Wb, Wt, inB, hb] <;> decide
/-- what a train has that is laid as the other one -/
theorem gI_lay {S S1 : Tr} (h : gI 0 S) (e53 : ∀ j : Nat, j < 10 → S1 53 (10 + j) = S 53 j) (e54 : ∀ j : Nat, j < 10 → S1 54 (10 + j) = S 54 j) (e55 : ∀ j : Nat, j < 50 → S1 55 (50 + j) = S 55 j) (e56 : ∀ j : Nat, j < 5 → S1 56 (5 + j) = S 56 j) (e58 : ∀ j : Nat, j < 6 → S1 58 (6 + j) = S 58 j) (e13 : S1 0 13 = S 0 13) (e14 : S1 0 14 = S 0 14) (hS : iR BM S) : gI 1 S1 := by
  obtain ⟨⟨h1, h2, h3⟩, h4, h5⟩ := h
  have m10 : ∀ p, mnM S 0 p ≤ 10 := fun p => (BM56 hS _).2
  have a1 : ∀ p, p < 5 → mnM S1 1 p = mnM S 0 p := fun p hp => by unfold mnM; rw [show 5 * 1 + p = 5 + p by omega, e56 p hp, show 5 * 0 + p = p by omega]
  have a2 : ∀ p k, p < 5 → k < 10 → skM S1 1 p k = skM S 0 p k := fun p k hp hk => by unfold skM; rw [show 50 * 1 + 10 * p + k = 50 + (10 * p + k) by omega, e55 _ (by omega), show 50 * 0 + 10 * p + k = 10 * p + k by omega]
  have a3 : ∀ i, i < 10 → lyM S1 1 i = lyM S 0 i := fun i hi => by unfold lyM; rw [show 10 * 1 + i = 10 + i by omega, e54 i hi, show 10 * 0 + i = i by omega]
  have b5 : ∀ p k, 0 ≤ skM S 0 p k ∧ skM S 0 p k ≤ 9 := fun p k => BM55 hS _
  have l5 : ∀ i, lyM S 0 i ≤ 4 := fun i => (BM54 hS _).2
  refine ⟨⟨fun p k hp hk => ?_, fun i p hi hl => ?_, fun p k l hp hk hl e => ?_⟩, fun i hi => ?_, fun p hp hq => ?_⟩
  · rw [a1 p hp] at hk
    have := m10 p
    rw [a2 p k hp (by omega), e14]
    have := b5 p k
    rw [a3 _ (by omega)]
    exact h1 p k hp hk
  · rw [a3 i hi] at hl
    obtain ⟨k, c1, c2⟩ := h2 i p hi hl
    have := l5 i
    have := m10 p
    exact ⟨k, by rw [a1 p (by omega)]; exact c1, by rw [a2 p k (by omega) (by omega)]; exact c2⟩
  · rw [a1 p hp] at hk hl
    have := m10 p
    rw [a2 p k hp (by omega), a2 p l hp (by omega)] at e
    exact h3 p k l hp hk hl e
  · rw [a3 i hi, show 10 * 1 + i = 10 + i by omega, e53 i hi]
    have := h4 i hi
    rw [show 10 * 0 + i = i by omega] at this
    exact this
  · rw [show 6 * 1 + p = 6 + p by omega, e58 p hp]
    rw [e13] at hq
    have := h5 p hp hq
    rw [show 6 * 0 + p = p by omega] at this
    exact this
/-- a train that is empty -/
theorem gI_new {b : Nat} {S : Tr} (e53 : ∀ j : Nat, j < 10 → S 53 (10 * b + j) = 0) (e54 : ∀ j : Nat, j < 10 → S 54 (10 * b + j) = -1) (e56 : ∀ j : Nat, j < 5 → S 56 (5 * b + j) = 0) (e58 : ∀ j : Nat, j < 6 → (j : Int) < (S 0 13).toInt → 1 ≤ (S 58 (6 * b + j)).toInt) : gI b S := by
  refine ⟨⟨fun p k hp hk => ?_, fun i p hi hl => ?_, fun p k l hp hk hl e => ?_⟩, fun i hi => ?_, fun p hp hq => e58 p hp hq⟩
  · unfold mnM at hk; rw [e56 p hp] at hk; exact absurd hk (by show ¬ (k : Int) < 0; omega)
  · unfold lyM at hl; rw [e54 i hi] at hl; exact absurd hl (by show ¬ (-1 : Int) = p; omega)
  · unfold mnM at hk; rw [e56 p hp] at hk; exact absurd hk (by show ¬ (k : Int) < 0; omega)
  · unfold lyM
    rw [e53 i hi, e54 i hi]
    exact ⟨fun q => absurd q (by decide), fun q => absurd q (by decide)⟩
/-! ranks -/
def cG (g : Nat → Int) (v : Int) : Nat → Nat
  | 0 => 0
  | n + 1 => cG g v n + (if v < g n then 1 else 0)
theorem cG_le {g : Nat → Int} {v : Int} : ∀ n, cG g v n ≤ n
  | 0 => Nat.le_refl _
  | n + 1 => by
    have := cG_le (g := g) (v := v) n
    unfold cG
    split <;> omega
theorem cG_lt {g : Nat → Int} {v : Int} {k : Nat} : ∀ n, k < n → g k ≤ v → cG g v n < n
  | 0, h, _ => absurd h (Nat.not_lt_zero _)
  | n + 1, h, hv => by
    unfold cG
    by_cases q : k = n
    · subst q
      rw [if_neg (by omega)]
      have := cG_le (g := g) (v := v) k
      omega
    · have := cG_lt (g := g) (v := v) n (by omega) hv
      split <;> omega
theorem cG_mono {g : Nat → Int} {v w : Int} (h : v ≤ w) : ∀ n, cG g w n ≤ cG g v n
  | 0 => Nat.le_refl _
  | n + 1 => by
    have := cG_mono (g := g) h n
    unfold cG
    split <;> split <;> omega
theorem cG_strict {g : Nat → Int} {v w : Int} {k : Nat} (h : v < w) (hk : g k = w) : ∀ n, k < n → cG g w n < cG g v n
  | 0, q => absurd q (Nat.not_lt_zero _)
  | n + 1, q => by
    unfold cG
    by_cases e : k = n
    · subst e
      have := cG_mono (g := g) (Int.le_of_lt h) k
      rw [if_neg (by omega), if_pos (by omega)]
      omega
    · have := cG_strict h hk n (by omega)
      split <;> split <;> omega
theorem cG_inj {g : Nat → Int} {n k l : Nat} (hk : k < n) (hl : l < n) (e : cG g (g k) n = cG g (g l) n) : g k = g l := by
  rcases Int.lt_trichotomy (g k) (g l) with q | q | q
  · have := cG_strict (k := l) q rfl n hl; omega
  · exact q
  · have := cG_strict (k := k) q rfl n hk; omega
theorem php_on {n : Nat} {f : Nat → Nat} (h1 : ∀ k, k < n → f k < n) (h2 : ∀ k l, k < n → l < n → f k = f l → k = l) : ∀ m, m < n → ∃ k, k < n ∧ f k = m := by
  intro m hm
  by_cases q : ∃ k, k < n ∧ f k = m
  · exact q
  · exfalso
    cases n with
    | zero => omega
    | succ n =>
      have := php n (n + 1) (fun k => if f k < m then f k else f k - 1) (fun k hk => by
        have := h1 k hk
        have : f k ≠ m := fun e => q ⟨k, hk, e⟩
        split <;> omega) (fun k l hk hl e => by
        have a1 : f k ≠ m := fun e => q ⟨k, hk, e⟩
        have a2 : f l ≠ m := fun e => q ⟨l, hl, e⟩
        refine h2 k l hk hl ?_
        split at e <;> split at e <;> omega)
      omega
theorem gI_cong {b b2 : Nat} {S S1 : Tr} (hS : iR BM S) (h : gI b S) (e53 : ∀ j : Nat, j < 10 → S1 53 (10 * b2 + j) = S 53 (10 * b + j)) (e54 : ∀ j : Nat, j < 10 → S1 54 (10 * b2 + j) = S 54 (10 * b + j)) (e55 : ∀ p k : Nat, p < 5 → k < 10 → S1 55 (50 * b2 + 10 * p + k) = S 55 (50 * b + 10 * p + k)) (e56 : ∀ j : Nat, j < 5 → S1 56 (5 * b2 + j) = S 56 (5 * b + j)) (e58 : ∀ j : Nat, j < 6 → S1 58 (6 * b2 + j) = S 58 (6 * b + j)) (e13 : S1 0 13 = S 0 13) (e14 : S1 0 14 = S 0 14) : gI b2 S1 := by
  obtain ⟨⟨h1, h2, h3⟩, h4, h5⟩ := h
  have m10 : ∀ p, mnM S b p ≤ 10 := fun p => (BM56 hS _).2
  have a1 : ∀ p, p < 5 → mnM S1 b2 p = mnM S b p := fun p hp => by unfold mnM; rw [e56 p hp]
  have a2 : ∀ p k, p < 5 → k < 10 → skM S1 b2 p k = skM S b p k := fun p k hp hk => by unfold skM; rw [e55 p k hp hk]
  have a3 : ∀ i, i < 10 → lyM S1 b2 i = lyM S b i := fun i hi => by unfold lyM; rw [e54 i hi]
  have b5 : ∀ p k, 0 ≤ skM S b p k ∧ skM S b p k ≤ 9 := fun p k => BM55 hS _
  have l5 : ∀ i, lyM S b i ≤ 4 := fun i => (BM54 hS _).2
  refine ⟨⟨fun p k hp hk => ?_, fun i p hi hl => ?_, fun p k l hp hk hl e => ?_⟩, fun i hi => ?_, fun p hp hq => ?_⟩
  · rw [a1 p hp] at hk
    have := m10 p
    rw [a2 p k hp (by omega), e14]
    have := b5 p k
    rw [a3 _ (by omega)]
    exact h1 p k hp hk
  · rw [a3 i hi] at hl
    obtain ⟨k, c1, c2⟩ := h2 i p hi hl
    have := l5 i
    have := m10 p
    exact ⟨k, by rw [a1 p (by omega)]; exact c1, by rw [a2 p k (by omega) (by omega)]; exact c2⟩
  · rw [a1 p hp] at hk hl
    have := m10 p
    rw [a2 p k hp (by omega), a2 p l hp (by omega)] at e
    exact h3 p k l hp hk hl e
  · rw [a3 i hi, e53 i hi]
    exact h4 i hi
  · rw [e58 p hp]
    rw [e13] at hq
    exact h5 p hp hq
theorem gI0_G1 {S S1 : Tr} (hS : iR BM S) (h : gI 0 S) (a : aG 1 S S1) : gI 0 S1 := by
  have w : ∀ c j n, ((c = 53 ∨ c = 54) ∧ n = 10 ∨ c = 55 ∧ n = 50 ∨ c = 56 ∧ n = 5 ∨ (c = 57 ∨ c = 58 ∨ c = 59 ∨ c = 60) ∧ n = 6 ∨ (c = 61 ∨ c = 62 ∨ c = 63) ∧ n = 1) → j < n → S1 c j = S c j := fun c j n hc hj => a c j (Wb_lo hc hj)
  exact gI_cong hS h (fun j hj => w 53 _ 10 (by omega) (by omega)) (fun j hj => w 54 _ 10 (by omega) (by omega)) (fun p k hp hk => w 55 _ 50 (by omega) (by omega)) (fun j hj => w 56 _ 5 (by omega) (by omega)) (fun j hj => w 58 _ 6 (by omega) (by omega)) (a 0 13 rfl) (a 0 14 rfl)
theorem ix4 {x c : Int32} {k : Nat} (hx : 0 ≤ x.toInt ∧ x.toInt ≤ 24) (hc : c.toInt = k) (hk : k ≤ 3) : (((4 : Int32) * x) + c).toNatClampNeg = 4 * x.toNatClampNeg + k ∧ ((4 : Int32) * x).toNatClampNeg = 4 * x.toNatClampNeg := by
  have e1 := i_mulL (a := (4 : Int32)) (b := x) 4 (by decide) (by omega) (by omega)
  have e2 := i_add (a := (4 : Int32) * x) (b := c) (by omega) (by omega)
  rw [i_cl, i_cl, i_cl]
  omega
theorem zI_b {S : Tr} {x : Int32} (hS : iR BM S) (hx : 0 ≤ x.toInt ∧ x.toInt ≤ 24) : 0 ≤ (S 81 (((4 : Int32) * x) + 1).toNatClampNeg).toInt ∧ (S 81 (((4 : Int32) * x) + 1).toNatClampNeg).toInt ≤ 23 := by
  rw [(ix4 (c := 1) (k := 1) hx (by decide) (by decide)).1]
  have h := hS 81 (4 * x.toNatClampNeg + 1)
  have e : BM 81 (4 * x.toNatClampNeg + 1) = (0, 23) := by
    show (bif Nat.beq ((4 * x.toNatClampNeg + 1) % 4) 1 then ((0 : Int), (23 : Int)) else fullB) = _
    rw [show (4 * x.toNatClampNeg + 1) % 4 = 1 by omega]
    rfl
  rw [e] at h
  exact h
theorem zI_i {S : Tr} {x : Int32} (h : zI S) (hx : 0 ≤ x.toInt ∧ x.toInt ≤ 24) (h0 : 0 ≤ (S 81 ((4 : Int32) * x).toNatClampNeg).toInt) : (S 81 (((4 : Int32) * x) + 1).toNatClampNeg).toInt ≤ 9 := by
  obtain ⟨e1, e2⟩ := ix4 (c := 1) (k := 1) hx (by decide) (by decide)
  rw [e2] at h0
  rw [e1]
  exact h _ h0
theorem zI_aG {b : Nat} {S S1 : Tr} (h : zI S) (a : aG b S S1) : zI S1 := fun k hk => by
  rw [a 81 _ rfl] at hk ⊢
  exact h k hk
theorem zI_aT {S S1 : Tr} (h : zI S) (a : aT S S1) : zI S1 := fun k hk => by
  rw [a 81 _ rfl] at hk ⊢
  exact h k hk
/-! squares of at most 5 -/
theorem i_sq {a p r : Int32} (ha : 1 ≤ a.toInt ∧ a.toInt ≤ 5) (hp : 0 ≤ p.toInt ∧ p.toInt < a.toInt) (hr : 0 ≤ r.toInt ∧ r.toInt < a.toInt) : 0 ≤ ((a * p) + r).toInt ∧ ((a * p) + r).toInt ≤ 24 ∧ 0 ≤ ((p * a) + r).toInt ∧ ((p * a) + r).toInt ≤ 24 := by
  have e1 : (a * p).toInt = a.toInt * p.toInt ∧ 0 ≤ a.toInt * p.toInt ∧ a.toInt * p.toInt + r.toInt ≤ 24 := by
    rcases (show a.toInt = 1 ∨ a.toInt = 2 ∨ a.toInt = 3 ∨ a.toInt = 4 ∨ a.toInt = 5 by omega) with h | h | h | h | h <;> rw [Int32.toInt_mul, h] <;> refine ⟨i_bm (by omega) (by omega), by omega, by omega⟩
  have e2 : (p * a).toInt = (a * p).toInt := by rw [Int32.mul_comm]
  have e3 := i_add (a := a * p) (b := r) (by omega) (by omega)
  have e4 := i_add (a := p * a) (b := r) (by omega) (by omega)
  omega
theorem i_divsq {g a : Int32} (ha : 1 ≤ a.toInt ∧ a.toInt ≤ 5) (hg : 0 ≤ g.toInt) (h : g.toInt < (a * a).toInt) : 0 ≤ (g / a).toInt ∧ (g / a).toInt < a.toInt ∧ (a * a).toInt ≤ 25 := by
  have e0 := i_div (a := g) (b := a) a.toInt rfl (by omega) hg
  rw [Int32.toInt_mul] at h ⊢
  rw [e0]
  rcases (show a.toInt = 1 ∨ a.toInt = 2 ∨ a.toInt = 3 ∨ a.toInt = 4 ∨ a.toInt = 5 by omega) with q | q | q | q | q <;> rw [q] at h ⊢ <;> rw [i_bm (by omega) (by omega)] at h ⊢ <;> omega
-- 35.n
/-! a stack that is turned -/
theorem gF_perm {mn mn' : Nat → Int} {sk sk' : Nat → Nat → Int} {ly ly' : Nat → Int} {pc : Int} {p : Nat} (h : gF mn sk ly pc) (hm10 : ∀ q, mn q ≤ 10) (hl5 : ∀ x, ly x < 5) (hm : ∀ q, mn' q = mn q) (hl : ∀ x, ly' x = ly x) (hs3 : ∀ q k, q < 5 → q ≠ p → k < 10 → sk' q k = sk q k)
    (h1 : ∀ m : Nat, (m : Int) < mn p → ∃ k : Nat, (k : Int) < mn p ∧ sk' p m = sk p k) (h2 : ∀ k : Nat, (k : Int) < mn p → ∃ m : Nat, (m : Int) < mn p ∧ sk' p m = sk p k) (h3 : ∀ m l : Nat, (m : Int) < mn p → (l : Int) < mn p → sk' p m = sk' p l → m = l) : gF mn' sk' ly' pc := by
  obtain ⟨a1, a2, a3⟩ := h
  refine ⟨fun q k hq hk => ?_, fun x q hx hlx => ?_, fun q k l hq hk hl' e => ?_⟩
  · rw [hm] at hk
    rw [hl]
    by_cases e : q = p
    · subst e
      obtain ⟨k2, b1, b2⟩ := h1 k hk
      rw [b2]
      exact a1 q k2 hq b1
    · rw [hs3 q k hq e (by have := hm10 q; omega)]
      exact a1 q k hq hk
  · rw [hl] at hlx
    obtain ⟨k, c1, c2⟩ := a2 x q hx hlx
    have hq5 : q < 5 := by have := hl5 x; omega
    by_cases e : q = p
    · subst e
      obtain ⟨m, b1, b2⟩ := h2 k c1
      exact ⟨m, by rw [hm]; exact b1, by rw [b2]; exact c2⟩
    · exact ⟨k, by rw [hm]; exact c1, by rw [hs3 q k hq5 e (by have := hm10 q; omega)]; exact c2⟩
  · rw [hm] at hk hl'
    by_cases e1 : q = p
    · subst e1; exact h3 k l hk hl' e
    · have := hm10 q
      rw [hs3 q k hq e1 (by omega), hs3 q l hq e1 (by omega)] at e
      exact a3 q k l hq hk hl' e
def keyM (S : Tr) (v : Int32) : Int := (S 28 (S 30 v.toNatClampNeg).toNatClampNeg).toInt * 16 + v.toInt
theorem t_X8_isBelow2 (S : Tr) (x1 x2 : Int32) (hS : iR BM S) (hx1 : 0 ≤ x1.toInt ∧ x1.toInt ≤ 9) (hx2 : 0 ≤ x2.toInt ∧ x2.toInt ≤ 9) : D (f_X8_isBelow S x1 x2) (fun q => (q = 0 ∧ ¬ keyM S x2 < keyM S x1) ∨ (q = 1 ∧ keyM S x2 < keyM S x1)) := by
  have b1 : (0 : Int) ≤ (S 30 x1.toNatClampNeg).toInt ∧ (S 30 x1.toNatClampNeg).toInt ≤ 5 := hS 30 _
  have b2 : (0 : Int) ≤ (S 30 x2.toNatClampNeg).toInt ∧ (S 30 x2.toNatClampNeg).toInt ≤ 5 := hS 30 _
  unfold f_X8_isBelow keyM
  refine D_ck (okI_of (by omega) (by omega)) ?_
  refine D_ck (okI_of (by omega) (by omega)) ?_
  refine D_lte rfl ?_
  refine D_ck (okI_of (by omega) (by omega)) ?_
  refine D_ck (okI_of (by omega) (by omega)) ?_
  refine D_lte rfl ?_
  refine D_ite (fun c => ?_) (fun c => ?_)
  · have k := tq_lt rfl rfl c
    exact D_some (Or.inr ⟨rfl, by omega⟩)
  · have k := tq_ltn rfl rfl c
    refine D_ite (fun c2 => ?_) (fun c2 => ?_)
    · have k2 := tq_eq rfl rfl c2
      refine D_ite (fun c3 => ?_) (fun c3 => ?_)
      · have k3 := tq_le rfl rfl c3
        exact D_some (Or.inl ⟨rfl, by omega⟩)
      · have k3 := tq_len rfl rfl c3
        exact D_some (Or.inr ⟨rfl, by omega⟩)
    · have k2 := tq_eqn rfl rfl c2
      exact D_some (Or.inl ⟨rfl, by omega⟩)
/-- the place p of S1 is that of S by ranks -/
def trn (S S1 : Tr) (B N : Nat) (g : Nat → Int) : Prop := (∀ a j, ¬ (a = 55 ∧ B ≤ j ∧ j < B + N) → a ≠ 74 → S1 a j = S a j) ∧ (∀ k, k < N → S1 55 (B + cG g (g k) N) = S 55 (B + k))
theorem trn_gI {S S1 : Tr} {b p N : Nat} {g : Nat → Int} (hS : iR BM S) (hg : gI b S) (hb : b ≤ 1) (hp : p < 5) (hN : (N : Int) = mnM S b p) (hgi : ∀ k l, k < N → l < N → g k = g l → S 55 (50 * b + 10 * p + k) = S 55 (50 * b + 10 * p + l)) (h : trn S S1 (50 * b + 10 * p) N g) : gI b S1 ∧ aG b S S1 := by
  obtain ⟨h1, h2⟩ := h
  obtain ⟨g1, g2, g3⟩ := hg
  have n10 : N ≤ 10 := by have := (BM56 hS (5 * b + p)).2; unfold mnM at hN; omega
  have inj : ∀ k l, k < N → l < N → S 55 (50 * b + 10 * p + k) = S 55 (50 * b + 10 * p + l) → k = l := fun k l hk hl e => g1.2.2 p k l hp (by omega) (by omega) (by unfold skM; rw [e])
  have ri : ∀ k l, k < N → l < N → cG g (g k) N = cG g (g l) N → k = l := fun k l hk hl e => inj k l hk hl (hgi k l hk hl (cG_inj hk hl e))
  have rl : ∀ k, k < N → cG g (g k) N < N := fun k hk => cG_lt N hk (Int.le_refl _)
  have on := php_on (f := fun k => cG g (g k) N) rl ri
  have o : ∀ a j, a ≠ 55 → a ≠ 74 → S1 a j = S a j := fun a j h5 h7 => h1 a j (fun q => h5 q.1) h7
  have a1 : ∀ q, mnM S1 b q = mnM S b q := fun q => by unfold mnM; rw [o 56 _ (by decide) (by decide)]
  have a3 : ∀ x, lyM S1 b x = lyM S b x := fun x => by unfold lyM; rw [o 54 _ (by decide) (by decide)]
  refine ⟨⟨?_, fun i hi => ?_, fun q hq hq2 => ?_⟩, fun a j hf => ?_⟩
  · show gF _ _ _ _
    rw [o 0 14 (by decide) (by decide)]
    refine gF_perm (p := p) g1 (fun q => (BM56 hS _).2) (fun x => by have := (BM54 hS (10 * b + x)).2; unfold lyM; omega) a1 a3 (fun q k hq hne hk => ?_) (fun m hm => ?_) (fun k hk => ?_) (fun m l hm hl e => ?_)
    · unfold skM
      rw [h1 55 _ (by omega) (by decide)]
    · obtain ⟨k, hk, e⟩ := on m (by omega)
      refine ⟨k, by omega, ?_⟩
      unfold skM
      rw [← e, h2 k hk]
    · refine ⟨cG g (g k) N, by have := rl k (by omega); omega, ?_⟩
      unfold skM
      rw [h2 k (by omega)]
    · obtain ⟨k, hk, ek⟩ := on m (by omega)
      obtain ⟨k', hk', ek'⟩ := on l (by omega)
      unfold skM at e
      rw [← ek, ← ek', h2 k hk, h2 k' hk'] at e
      have := inj k k' hk hk' (Int32.toInt_inj.mp e)
      subst this
      rw [← ek, ← ek']
  · rw [a3, o 53 _ (by decide) (by decide)]
    exact g2 i hi
  · rw [o 0 13 (by decide) (by decide)] at hq2
    rw [o 58 _ (by decide) (by decide)]
    exact g3 q hq hq2
  · obtain ⟨-, -, w5, -⟩ := Wb_f hf
    by_cases h7 : a = 74
    · subst h7
      exact absurd hf (by rw [Wb_t rfl]; decide)
    · exact h1 a j (fun q => by have := w5 q.1; omega) h7
theorem t_X8_turns (S : Tr) (x1 x2 : Int32) (hS : iR BM S) (dgI : gI x1.toNatClampNeg S) (hx1 : 0 ≤ x1.toInt ∧ x1.toInt ≤ 1) (hx2 : 0 ≤ x2.toInt ∧ x2.toInt ≤ 4) : D (f_X8_turns S x1 x2) (fun q => iR BM q.2 ∧ gI x1.toNatClampNeg q.2 ∧ aG x1.toNatClampNeg S q.2 ∧ q.2 62 x1.toNatClampNeg = S 62 x1.toNatClampNeg ∧ (∀ a j, a ≠ 55 → a ≠ 74 → q.2 a j = S a j)) := by
  obtain ⟨e1, e2⟩ := ix1 (c := 5) (x := x1) (y := x2) 5 (by decide) (by decide) hx1 ⟨by omega, by omega⟩
  have hm := BM56 hS (5 * x1.toNatClampNeg + x2.toNatClampNeg)
  unfold f_X8_turns
  refine D_ck (okI_of (by omega) (by omega)) ?_
  rw [e2]
  refine D_lt (fun n en => ?_)
  rw [← en] at hm
  have c1 : x1.toNatClampNeg = x1.toInt.toNat := rfl
  have c2 : x2.toNatClampNeg = x2.toInt.toNat := rfl
  have cn : n.toNatClampNeg = n.toInt.toNat := rfl
  obtain ⟨B, hB⟩ : ∃ B, B = 50 * x1.toNatClampNeg + 10 * x2.toNatClampNeg := ⟨_, rfl⟩
  obtain ⟨N, hN⟩ : ∃ N, N = n.toNatClampNeg := ⟨_, rfl⟩
  obtain ⟨g, hg⟩ : ∃ g : Nat → Int, g = fun k => keyM S (S 55 (B + k)) := ⟨_, rfl⟩
  have hmn : (N : Int) = mnM S x1.toNatClampNeg x2.toNatClampNeg := by unfold mnM; rw [← en]; omega
  have hgi : ∀ k l, k < N → l < N → g k = g l → S 55 (B + k) = S 55 (B + l) := fun k l hk hl e => by
    have e : keyM S (S 55 (B + k)) = keyM S (S 55 (B + l)) := by rw [hg] at e; exact e
    unfold keyM at e
    have b1 := BM55 hS (B + k)
    have b2 := BM55 hS (B + l)
    exact Int32.toInt_inj.mp (by omega)
  have sinj : ∀ k l, k < N → l < N → S 55 (B + k) = S 55 (B + l) → k = l := fun k l hk hl e => dgI.1.2.2 x2.toNatClampNeg k l (by omega) (by omega) (by omega) (by unfold skM; rw [← hB, e])
  have ri : ∀ k l, k < N → l < N → cG g (g k) N = cG g (g l) N → k = l := fun k l hk hl e => sinj k l hk hl (hgi k l hk hl (cG_inj hk hl e))
  have rl : ∀ k, k < N → cG g (g k) N < N := fun k hk => cG_lt N hk (Int.le_refl _)
  have on := php_on (f := fun k => cG g (g k) N) rl ri
  -- the end: the turned row goes back
  have fin : ∀ (w : Nat) (x4 x5 : Int32) (T : Tr), 0 ≤ x5.toInt → x5.toInt ≤ n.toInt → iR BM T → (∀ a j, ¬ (a = 55 ∧ B ≤ j ∧ j < B + x5.toNatClampNeg) → a ≠ 74 → T a j = S a j) → (∀ k, k < N → T 74 (cG g (g k) N) = S 55 (B + k)) → (∀ j, j < x5.toNatClampNeg → T 55 (B + j) = T 74 j) → 100 - x5.toInt < (w : Int) → D (lpF (fun _ _ => none) (fB_X8_turns_L113 x1 x2 n x4) w x5 T) (fun q => iR BM q.2 ∧ gI x1.toNatClampNeg q.2 ∧ aG x1.toNatClampNeg S q.2 ∧ q.2 62 x1.toNatClampNeg = S 62 x1.toNatClampNeg ∧ (∀ a j, a ≠ 55 → a ≠ 74 → q.2 a j = S a j)) := by
    intro w
    induction w with
    | zero => intro x4 x5 T a1 a2 a3 a4 a5 a6 a7; exfalso; omega
    | succ w ih =>
      intro x4 x5 T a1 a2 a3 a4 a5 a6 a7
      show D (fB_X8_turns_L113 x1 x2 n x4 (lpF (fun _ _ => none) (fB_X8_turns_L113 x1 x2 n x4) w) x5 T) _
      have ih := ih x4
      generalize lpF (fun _ _ => none) (fB_X8_turns_L113 x1 x2 n x4) w = kk at ih ⊢
      unfold fB_X8_turns_L113
      have c5 : x5.toNatClampNeg = x5.toInt.toNat := rfl
      refine D_ite (fun c => ?_) (fun c => ?_)
      · have k := tq_le rfl rfl c
        have ex : x5.toNatClampNeg = N := by omega
        rw [ex] at a4 a6
        have tr : trn S T B N g := ⟨a4, fun k hk => by rw [a6 _ (rl k hk), a5 k hk]⟩
        rw [hB] at tr hgi
        obtain ⟨r1, r2⟩ := trn_gI hS dgI (by omega) (by omega) hmn hgi tr
        exact D_some ⟨a3, r1, r2, a4 62 _ (by omega) (by decide), fun a j z5 z7 => a4 a j (fun z => z5 z.1) z7⟩
      · have k := tq_len rfl rfl c
        obtain ⟨f1, f2⟩ := ix2 (x := x1) (y := x2) (z := x5) hx1 hx2 ⟨by omega, by omega⟩
        refine D_ck (okI_of (by omega) (by omega)) ?_
        refine D_ck (okI_of (by omega) (by omega)) ?_
        rw [f2, ← hB]
        refine D_lt (fun T1 eT => ?_)
        refine D_lt (fun y ey => ?_)
        have h1 : (x5 + 1).toInt = x5.toInt + 1 := i_addK rfl (by decide) (by omega) (by omega)
        have hy : y.toNatClampNeg = x5.toNatClampNeg + 1 := by rw [ey, i_cl]; omega
        have b7 : (0 : Int) ≤ (T 74 x5.toNatClampNeg).toInt ∧ (T 74 x5.toNatClampNeg).toInt ≤ 9 := a3 74 _
        refine ih y T1 (by rw [ey]; omega) (by rw [ey]; omega) (by rw [eT]; exact iR_set a3 b7.1 b7.2) (fun a j q1 q2 => ?_) (fun k hk => ?_) (fun j hj => ?_) (by rw [ey]; omega)
        · rw [eT]
          rcases st_or (S := T) (a := 55) (i := B + x5.toNatClampNeg) (b := a) (j := j) (v := T 74 x5.toNatClampNeg) with e | ⟨z1, z2⟩
          · rw [e]; exact a4 a j (by omega) q2
          · omega
        · rw [eT, st_oth (by decide)]; exact a5 k hk
        · rw [eT, st_oth (a := 55) (b := 74) (by decide)]
          by_cases q : j = x5.toNatClampNeg
          · rw [q, st_same]
          · rw [st_ne (by omega)]; exact a6 j (by omega)
  -- the row is filled
  have fill : ∀ (w : Nat) (x4 x5 : Int32) (T : Tr), 0 ≤ x5.toInt → x5.toInt ≤ n.toInt → iR BM T → (∀ a j, a ≠ 74 → T a j = S a j) → (∀ k, k < x5.toNatClampNeg → T 74 (cG g (g k) N) = S 55 (B + k)) → 100 - x5.toInt < (w : Int) → D (lpF (fun _ _ _ => none) (fB_X8_turns_L17 x1 x2 n) w x4 x5 T) (fun q => iR BM q.2 ∧ gI x1.toNatClampNeg q.2 ∧ aG x1.toNatClampNeg S q.2 ∧ q.2 62 x1.toNatClampNeg = S 62 x1.toNatClampNeg ∧ (∀ a j, a ≠ 55 → a ≠ 74 → q.2 a j = S a j)) := by
    intro w
    induction w with
    | zero => intro x4 x5 T a1 a2 a3 a4 a5 a7; exfalso; omega
    | succ w ih =>
      intro x4 x5 T a1 a2 a3 a4 a5 a7
      show D (fB_X8_turns_L17 x1 x2 n (lpF (fun _ _ _ => none) (fB_X8_turns_L17 x1 x2 n) w) x4 x5 T) _
      generalize lpF (fun _ _ _ => none) (fB_X8_turns_L17 x1 x2 n) w = kk at ih ⊢
      unfold fB_X8_turns_L17
      have c5 : x5.toNatClampNeg = x5.toInt.toNat := rfl
      refine D_ite (fun c => ?_) (fun c => ?_)
      · have k := tq_le rfl rfl c
        have ex : x5.toNatClampNeg = N := by omega
        rw [ex] at a5
        exact fin 2000 x4 0 T (by decide) (by show (0 : Int) ≤ _; omega) a3 (fun a j _ q => a4 a j q) a5 (fun j hj => absurd hj (Nat.not_lt_zero _)) (by decide)
      · have k := tq_len rfl rfl c
        have hxN : x5.toNatClampNeg < N := by omega
        have e55 : ∀ j, T 55 j = S 55 j := fun j => a4 55 j (by decide)
        refine D_bd (t_X8_stackAt T x1 x2 x5 hx1 hx2 ⟨a1, by omega⟩) (fun r er hr => ?_)
        rw [← hB, e55] at hr
        have br := BM55 hS (B + x5.toNatClampNeg)
        rw [← hr] at br
        have hgr : g x5.toNatClampNeg = keyM S r := by rw [hg, hr]
        have kT : ∀ v, keyM T v = keyM S v := fun v => by unfold keyM; rw [a4 30 _ (by decide), a4 28 _ (by decide)]
        unfold fL_X8_turns_L39
        have cnt : ∀ (u : Nat) (x7 x8 : Int32), 0 ≤ x8.toInt → x8.toInt ≤ n.toInt → x7.toInt = cG g (g x5.toNatClampNeg) x8.toNatClampNeg → 100 - x8.toInt < (u : Int) → D (lpF (fun _ _ => none) (fB_X8_turns_L39 kk T x1 x2 n x4 x5 r) u x7 x8) (fun q => iR BM q.2 ∧ gI x1.toNatClampNeg q.2 ∧ aG x1.toNatClampNeg S q.2 ∧ q.2 62 x1.toNatClampNeg = S 62 x1.toNatClampNeg ∧ (∀ a j, a ≠ 55 → a ≠ 74 → q.2 a j = S a j)) := by
          intro u
          induction u with
          | zero => intro x7 x8 d1 d2 d3 d4; exfalso; omega
          | succ u ihu =>
            intro x7 x8 d1 d2 d3 d4
            show D (fB_X8_turns_L39 kk T x1 x2 n x4 x5 r (lpF (fun _ _ => none) (fB_X8_turns_L39 kk T x1 x2 n x4 x5 r) u) x7 x8) _
            generalize lpF (fun _ _ => none) (fB_X8_turns_L39 kk T x1 x2 n x4 x5 r) u = kv at ihu ⊢
            unfold fB_X8_turns_L39
            have c8 : x8.toNatClampNeg = x8.toInt.toNat := rfl
            have le8 := cG_le (g := g) (v := g x5.toNatClampNeg) x8.toNatClampNeg
            refine D_ite (fun c => ?_) (fun c => ?_)
            · have k := tq_le rfl rfl c
              have ex : x8.toNatClampNeg = N := by omega
              rw [ex] at d3
              have lt7 := rl _ hxN
              have c7 : x7.toNatClampNeg = x7.toInt.toNat := rfl
              have e7 : x7.toNatClampNeg = cG g (g x5.toNatClampNeg) N := by omega
              unfold fJ_X8_turns_J78
              refine D_ck (okI_of (by omega) (by omega)) ?_
              refine D_lt (fun T1 eT => ?_)
              have h1 : (x5 + 1).toInt = x5.toInt + 1 := i_addK rfl (by decide) (by omega) (by omega)
              have hy : (x5 + 1).toNatClampNeg = x5.toNatClampNeg + 1 := by rw [i_cl]; omega
              have go : ∀ z : Int32, D (kk z (x5 + 1) T1) (fun q => iR BM q.2 ∧ gI x1.toNatClampNeg q.2 ∧ aG x1.toNatClampNeg S q.2 ∧ q.2 62 x1.toNatClampNeg = S 62 x1.toNatClampNeg ∧ (∀ a j, a ≠ 55 → a ≠ 74 → q.2 a j = S a j)) := fun z => by
                refine ih z (x5 + 1) T1 (by omega) (by omega) (by rw [eT]; exact iR_set a3 br.1 br.2) (fun a j q => ?_) (fun k hk => ?_) (by omega)
                · rw [eT, st_oth q]; exact a4 a j q
                · rw [eT, e7]
                  by_cases q : k = x5.toNatClampNeg
                  · rw [q, st_same]; exact hr
                  · rw [st_ne (fun e => q (ri k _ (by omega) hxN e))]
                    exact a5 k (by omega)
              refine D_ite (fun c => ?_) (fun c => ?_)
              · refine D_lte rfl ?_
                refine D_lte rfl ?_
                exact go _
              · refine D_lte rfl ?_
                refine D_lte rfl ?_
                exact go _
            · have k := tq_len rfl rfl c
              refine D_bd (t_X8_stackAt T x1 x2 x8 hx1 hx2 ⟨d1, by omega⟩) (fun r2 er2 hr2 => ?_)
              rw [← hB, e55] at hr2
              have br2 := BM55 hS (B + x8.toNatClampNeg)
              rw [← hr2] at br2
              have hg2 : g x8.toNatClampNeg = keyM S r2 := by rw [hg, hr2]
              refine D_bd (t_X8_isBelow2 T r2 r a3 br2 br) (fun s2 es2 hs2 => ?_)
              rw [kT, kT, ← hgr, ← hg2] at hs2
              have h8 : (x8 + 1).toInt = x8.toInt + 1 := i_addK rfl (by decide) (by omega) (by omega)
              have hy8 : (x8 + 1).toNatClampNeg = x8.toNatClampNeg + 1 := by rw [i_cl]; omega
              have stp : cG g (g x5.toNatClampNeg) (x8.toNatClampNeg + 1) = cG g (g x5.toNatClampNeg) x8.toNatClampNeg + (if g x5.toNatClampNeg < g x8.toNatClampNeg then 1 else 0) := rfl
              refine D_ite (fun c => ?_) (fun c => ?_)
              · have hn : ¬ g x5.toNatClampNeg < g x8.toNatClampNeg := by
                  rcases hs2 with q | q
                  · exact q.2
                  · exact absurd (c.symm.trans q.1) (by decide)
                refine D_lte rfl ?_
                refine D_lte rfl ?_
                have h0 : (x7 + 0).toInt = x7.toInt + 0 := i_addK rfl (by decide) (by omega) (by omega)
                refine ihu _ _ (by omega) (by omega) ?_ (by omega)
                rw [hy8, stp, if_neg hn]
                omega
              · have hn : g x5.toNatClampNeg < g x8.toNatClampNeg := by
                  rcases hs2 with q | q
                  · exact absurd q.1 c
                  · exact q.2
                refine D_lte rfl ?_
                refine D_lte rfl ?_
                have h0 : (x7 + 1).toInt = x7.toInt + 1 := i_addK rfl (by decide) (by omega) (by omega)
                refine ihu _ _ (by omega) (by omega) ?_ (by omega)
                rw [hy8, stp, if_pos hn]
                omega
        exact cnt 2000 0 0 (by decide) (by show (0 : Int) ≤ _; omega) rfl (by decide)
  exact fill 2000 0 0 S (by decide) (by show (0 : Int) ≤ _; omega) hS (fun a j _ => rfl) (fun k hk => absurd hk (Nat.not_lt_zero _)) (by decide)
-- 35.o
/-! rows that are kept -/
def cpX (z : Tr) (A o B n : Nat) : Tr := fun a j => if a = A ∧ o ≤ j ∧ j < o + n then z B (j - o) else z a j
theorem cpX_0 {z : Tr} {A o B : Nat} : cpX z A o B 0 = z := by
  funext a j
  unfold cpX
  rw [if_neg (by omega)]
theorem cpX_b {z S S1 : Tr} {A o B n n1 i k : Nat} (h : S = cpX z A o B n) (e : S1 = st S A i (S B k)) (hi : i = o + n) (hk : k = n) (hn : n1 = n + 1) (hAB : B ≠ A) : S1 = cpX z A o B n1 := by
  subst hi; subst hk; subst hn
  rw [e]
  have eB : S B k = z B k := by rw [h]; unfold cpX; rw [if_neg (fun q => hAB q.1)]
  rw [eB]
  funext a j
  rcases st_or (S := S) (a := A) (i := o + k) (b := a) (j := j) (v := z B k) with q | ⟨q1, q2⟩
  · by_cases hq : a = A ∧ j = o + k
    · obtain ⟨q1, q2⟩ := hq
      subst q1; subst q2
      rw [st_same]
      unfold cpX
      rw [if_pos (by omega), Nat.add_sub_cancel_left]
    · rw [q, h]
      unfold cpX
      by_cases h1 : a = A ∧ o ≤ j ∧ j < o + k
      · rw [if_pos h1, if_pos (by omega)]
      · rw [if_neg h1, if_neg (by omega)]
  · subst q1; subst q2
    rw [st_same]
    unfold cpX
    rw [if_pos (by omega), Nat.add_sub_cancel_left]
def cpY (z : Tr) (A o B n : Nat) : Tr := fun a j => if a = B ∧ j < n then z A (o + j) else z a j
theorem cpY_0 {z : Tr} {A o B : Nat} : cpY z A o B 0 = z := by
  funext a j
  unfold cpY
  rw [if_neg (by omega)]
theorem cpY_b {z S S1 : Tr} {A o B n n1 i k : Nat} (h : S = cpY z A o B n) (e : S1 = st S B i (S A k)) (hi : i = n) (hk : k = o + n) (hn : n1 = n + 1) (hAB : A ≠ B) : S1 = cpY z A o B n1 := by
  subst hi; subst hk; subst hn
  rw [e]
  have eA : S A (o + i) = z A (o + i) := by rw [h]; unfold cpY; rw [if_neg (fun q => hAB q.1)]
  rw [eA]
  funext a j
  rcases st_or (S := S) (a := B) (i := i) (b := a) (j := j) (v := z A (o + i)) with q | ⟨q1, q2⟩
  · by_cases hq : a = B ∧ j = i
    · obtain ⟨q1, q2⟩ := hq
      subst q1; subst q2
      rw [st_same]
      unfold cpY
      rw [if_pos (by omega)]
    · rw [q, h]
      unfold cpY
      by_cases h1 : a = B ∧ j < i
      · rw [if_pos h1, if_pos (by omega)]
      · rw [if_neg h1, if_neg (by omega)]
  · subst q1; subst q2
    rw [st_same]
    unfold cpY
    rw [if_pos (by omega)]
def putM (z : Tr) (A o : Nat) : Tr := cpX (cpX (cpX z A o 55 50) A (o + 50) 56 5) A (o + 55) 58 6
/-- all goes down by a row -/
def dwn (z : Tr) (n : Nat) : Tr := fun a j => if a = 84 ∧ j < n then z 84 (j + 61) else z a j
theorem dwn_0 {z : Tr} : dwn z 0 = z := by
  funext a j
  unfold dwn
  rw [if_neg (by omega)]
theorem dwn_b {z S S1 : Tr} {n n1 i k : Nat} (h : S = dwn z n) (e : S1 = st S 84 i (S 84 k)) (hi : i = n) (hk : k = n + 61) (hn : n1 = n + 1) : S1 = dwn z n1 := by
  subst hi; subst hk; subst hn
  rw [e]
  have eA : S 84 (i + 61) = z 84 (i + 61) := by rw [h]; unfold dwn; rw [if_neg (by omega)]
  rw [eA]
  funext a j
  rcases st_or (S := S) (a := 84) (i := i) (b := a) (j := j) (v := z 84 (i + 61)) with q | ⟨q1, q2⟩
  · by_cases hq : a = 84 ∧ j = i
    · obtain ⟨q1, q2⟩ := hq
      subst q1; subst q2
      rw [st_same]
      unfold dwn
      rw [if_pos (by omega)]
    · rw [q, h]
      unfold dwn
      by_cases h1 : a = 84 ∧ j < i
      · rw [if_pos h1, if_pos (by omega)]
      · rw [if_neg h1, if_neg (by omega)]
  · subst q1; subst q2
    rw [st_same]
    unfold dwn
    rw [if_pos (by omega)]
/-! what is remembered -/
theorem cpX_o {z : Tr} {A o B n a j : Nat} (h : ¬ (a = A ∧ o ≤ j ∧ j < o + n)) : cpX z A o B n a j = z a j := by unfold cpX; rw [if_neg h]
theorem cpX_i {z : Tr} {A o B n j : Nat} (h : j < n) : cpX z A o B n A (o + j) = z B j := by unfold cpX; rw [if_pos (by omega), Nat.add_sub_cancel_left]
theorem put_o {z : Tr} {A o a j : Nat} (h : ¬ (a = A ∧ o ≤ j ∧ j < o + 61)) : putM z A o a j = z a j := by
  unfold putM
  rw [cpX_o (by omega), cpX_o (by omega), cpX_o (by omega)]
theorem put_s {z : Tr} {A o j : Nat} (h : j < 50) : putM z A o A (o + j) = z 55 j := by
  unfold putM
  rw [cpX_o (by omega), cpX_o (by omega), cpX_i h]
theorem put_m {z : Tr} {A o j : Nat} (h5 : A ≠ 56) (h : j < 5) : putM z A o A (o + 50 + j) = z 56 j := by
  unfold putM
  rw [cpX_o (by omega), cpX_i h, cpX_o (by omega)]
theorem put_a {z : Tr} {A o j : Nat} (h5 : A ≠ 58) (h : j < 6) : putM z A o A (o + 55 + j) = z 58 j := by
  unfold putM
  rw [cpX_i h, cpX_o (by omega), cpX_o (by omega)]
def mnR (S : Tr) (A o p : Nat) : Int := (S A (o + 50 + p)).toInt
def skR (S : Tr) (A o p k : Nat) : Int := (S A (o + (10 * p + k))).toInt
/-- a row in which a train's stacks are kept -/
def rowOK (S : Tr) (A o : Nat) (how : Nat → Int32) : Prop := ∃ ly : Nat → Int, gF (mnR S A o) (skR S A o) ly (S 0 14).toInt ∧ (∀ i, -1 ≤ ly i ∧ ly i < 5) ∧ (∀ i, i < 10 → (how i = 1 ↔ 0 ≤ ly i)) ∧ (∀ p : Nat, p < 6 → (p : Int) < (S 0 13).toInt → 1 ≤ (S A (o + 55 + p)).toInt)
def uI (S : Tr) : Prop := ∀ r : Nat, (r : Int) < (S 0 82).toInt → rowOK S 84 (61 * r) (fun i => S 53 i)
def vI (S : Tr) : Prop := ¬ S 0 84 = 0 → rowOK S 86 0 (fun i => S 87 i)
theorem gF_eq {mn mn' : Nat → Int} {sk sk' : Nat → Nat → Int} {ly : Nat → Int} {pc : Int} (h : gF mn sk ly pc) (hm : ∀ p, p < 5 → mn' p = mn p) (hs : ∀ p k, p < 5 → k < 10 → sk' p k = sk p k) (m10 : ∀ p, p < 5 → mn p ≤ 10) (l5 : ∀ i, ly i < 5) : gF mn' sk' ly pc := by
  obtain ⟨h1, h2, h3⟩ := h
  refine ⟨fun p k hp hk => ?_, fun i p hi hl => ?_, fun p k l hp hk hl e => ?_⟩
  · rw [hm p hp] at hk
    rw [hs p k hp (by have := m10 p hp; omega)]
    exact h1 p k hp hk
  · obtain ⟨k, c1, c2⟩ := h2 i p hi hl
    have := l5 i
    have hp : p < 5 := by omega
    exact ⟨k, by rw [hm p hp]; exact c1, by rw [hs p k hp (by have := m10 p hp; omega)]; exact c2⟩
  · rw [hm p hp] at hk hl
    have := m10 p hp
    rw [hs p k hp (by omega), hs p l hp (by omega)] at e
    exact h3 p k l hp hk hl e
/-- what is put into a row is a train's -/
theorem row_put {S S1 : Tr} {A o : Nat} {how : Nat → Int32} (hS : iR BM S) (hg : gI 0 S) (hs : ∀ j, j < 50 → S1 A (o + j) = S 55 j) (hm : ∀ j, j < 5 → S1 A (o + 50 + j) = S 56 j) (ha : ∀ j, j < 6 → S1 A (o + 55 + j) = S 58 j) (e13 : S1 0 13 = S 0 13) (e14 : S1 0 14 = S 0 14) (hh : ∀ i, i < 10 → how i = S 53 i) : rowOK S1 A o how := by
  obtain ⟨g1, g2, g3⟩ := hg
  refine ⟨lyM S 0, ?_, fun i => ?_, fun i hi => ?_, fun p hp hq => ?_⟩
  · rw [e14]
    refine gF_eq g1 (fun p hp => ?_) (fun p k hp hk => ?_) (fun p _ => (BM56 hS _).2) (fun i => by have := (BM54 hS (10 * 0 + i)).2; unfold lyM; omega)
    · unfold mnR mnM; rw [hm p hp, show 5 * 0 + p = p by omega]
    · unfold skR skM; rw [hs _ (by omega), show 50 * 0 + 10 * p + k = 10 * p + k by omega]
  · have := BM54 hS (10 * 0 + i); unfold lyM; omega
  · rw [hh i hi]
    have := g2 i hi
    rw [show 10 * 0 + i = i by omega] at this
    exact this
  · rw [ha p hp]
    rw [e13] at hq
    have := g3 p hp hq
    rw [show 6 * 0 + p = p by omega] at this
    exact this
theorem row_eq {S S1 : Tr} {A A1 o o1 : Nat} {how how1 : Nat → Int32} (h : rowOK S A o how) (hb : ∀ p, p < 5 → mnR S A o p ≤ 10) (e : ∀ j, j < 61 → S1 A1 (o1 + j) = S A (o + j)) (e13 : S1 0 13 = S 0 13) (e14 : S1 0 14 = S 0 14) (hh : ∀ i, i < 10 → how1 i = how i) : rowOK S1 A1 o1 how1 := by
  obtain ⟨ly, h1, h2, h3, h4⟩ := h
  refine ⟨ly, ?_, h2, fun i hi => by rw [hh i hi]; exact h3 i hi, fun p hp hq => ?_⟩
  · rw [e14]
    refine gF_eq h1 (fun p hp => ?_) (fun p k hp hk => ?_) hb (fun i => (h2 i).2)
    · unfold mnR; rw [Nat.add_assoc, Nat.add_assoc, e _ (by omega)]
    · unfold skR; rw [e _ (by omega)]
  · rw [Nat.add_assoc, e _ (by omega), ← Nat.add_assoc]
    rw [e13] at hq
    exact h4 p hp hq
-- 35.p
/-! a row comes back -/
def cnM (z : Tr) (n : Nat) : Tr := fun a j => if a = 54 ∧ j < n then -1 else z a j
theorem cnM_0 {z : Tr} : cnM z 0 = z := by
  funext a j
  unfold cnM
  rw [if_neg (by omega)]
theorem cnM_b {z S S1 : Tr} {n n1 i : Nat} (h : S = cnM z n) (e : S1 = st S 54 i (-1)) (hi : i = n) (hn : n1 = n + 1) : S1 = cnM z n1 := by
  subst hi; subst hn
  rw [e]
  funext a j
  by_cases hq : a = 54 ∧ j = i
  · obtain ⟨q1, q2⟩ := hq
    subst q1; subst q2
    rw [st_same]
    unfold cnM
    rw [if_pos (by omega)]
  · rcases st_or (S := S) (a := 54) (i := i) (b := a) (j := j) (v := -1) with q | q
    · rw [q, h]
      unfold cnM
      by_cases h1 : a = 54 ∧ j < i
      · rw [if_pos h1, if_pos (by omega)]
      · rw [if_neg h1, if_neg (by omega)]
    · exact absurd q hq

theorem k_X8_take_84_L82 {Q : Tr → Prop} (z : Tr) (hQ : D (fL_X8_take_84_L103 0 (cnM z 10)) Q) : D (fL_X8_take_84_L82 0 z) Q := by
  unfold fL_X8_take_84_L82
  have go : ∀ (n : Nat) (x3 : Int32) (S : Tr), 0 ≤ x3.toInt → x3.toInt ≤ 10 → S = cnM z x3.toNatClampNeg → 1000 - x3.toInt < (n : Int) → D (lpF (fun _ _ => none) (fB_X8_take_84_L82 ) n x3 S) Q := by
    intro n
    induction n with
    | zero => intro x3 S a1 a2 a3 a4; exfalso; omega
    | succ n ih =>
      intro x3 S a1 a2 a3 a4
      show D (fB_X8_take_84_L82 (lpF (fun _ _ => none) (fB_X8_take_84_L82 ) n) x3 S) Q
      generalize lpF (fun _ _ => none) (fB_X8_take_84_L82 ) n = kk at ih ⊢
      unfold fB_X8_take_84_L82
      refine D_ite (fun c => ?_) (fun c => ?_)
      · have k := tq_le (a := 10) (by decide) rfl c
        have e : x3.toNatClampNeg = 10 := by rw [i_cl]; omega
        rw [a3, e]
        exact hQ
      · have k := tq_len (a := 10) (by decide) rfl c
        refine D_ck (okI_of (by omega) (by omega)) ?_
        refine D_lt (fun S1 e1 => ?_)
        refine D_lt (fun y ey => ?_)
        have h1 : (x3 + 1).toInt = x3.toInt + 1 := i_addK rfl (by decide) (by omega) (by omega)
        exact ih y S1 (by rw [ey]; omega) (by rw [ey]; omega) (by rw [ey]; exact cnM_b a3 e1 rfl (by simp only [i_cl]; omega)) (by rw [ey]; omega)
  exact go 2000 0 z (by decide) (by decide) cnM_0.symm (by decide)

theorem k_X8_take_84_L54 {Q : Tr → Prop} (z : Tr) (x2 : Int32) (hx2 : 0 ≤ x2.toInt ∧ x2.toInt ≤ 1159) (hQ : D (fL_X8_take_84_L82 0 (cpY z 84 (x2.toNatClampNeg + 55) 58 6)) Q) : D (fL_X8_take_84_L54 x2 0 z) Q := by
  unfold fL_X8_take_84_L54
  have go : ∀ (n : Nat) (x3 : Int32) (S : Tr), 0 ≤ x3.toInt → x3.toInt ≤ 6 → S = cpY z 84 (x2.toNatClampNeg + 55) 58 x3.toNatClampNeg → 1000 - x3.toInt < (n : Int) → D (lpF (fun _ _ => none) (fB_X8_take_84_L54 x2 ) n x3 S) Q := by
    intro n
    induction n with
    | zero => intro x3 S a1 a2 a3 a4; exfalso; omega
    | succ n ih =>
      intro x3 S a1 a2 a3 a4
      show D (fB_X8_take_84_L54 x2 (lpF (fun _ _ => none) (fB_X8_take_84_L54 x2 ) n) x3 S) Q
      generalize lpF (fun _ _ => none) (fB_X8_take_84_L54 x2 ) n = kk at ih ⊢
      unfold fB_X8_take_84_L54
      refine D_ite (fun c => ?_) (fun c => ?_)
      · have k := tq_le (a := 6) (by decide) rfl c
        have e : x3.toNatClampNeg = 6 := by rw [i_cl]; omega
        rw [a3, e]
        exact hQ
      · have k := tq_len (a := 6) (by decide) rfl c
        have f0 : (x2 + 55).toInt = x2.toInt + 55 := i_addK rfl (by decide) (by omega) (by omega)
        have f : ((x2 + 55) + x3).toInt = (x2 + 55).toInt + x3.toInt := i_addK rfl rfl (by omega) (by omega)
        refine D_ck (okI_of (by omega) (by omega)) ?_
        refine D_ck (okI_of (by omega) (by omega)) ?_
        refine D_lt (fun S1 e1 => ?_)
        refine D_lt (fun y ey => ?_)
        have h1 : (x3 + 1).toInt = x3.toInt + 1 := i_addK rfl (by decide) (by omega) (by omega)
        exact ih y S1 (by rw [ey]; omega) (by rw [ey]; omega) (by rw [ey]; exact cpY_b a3 e1 rfl (by simp only [i_cl]; omega) (by simp only [i_cl]; omega) (by decide)) (by rw [ey]; omega)
  exact go 2000 0 z (by decide) (by decide) cpY_0.symm (by decide)

theorem k_X8_take_84_L27 {Q : Tr → Prop} (z : Tr) (x2 : Int32) (hx2 : 0 ≤ x2.toInt ∧ x2.toInt ≤ 1159) (hQ : D (fL_X8_take_84_L54 x2 0 (cpY z 84 (x2.toNatClampNeg + 50) 56 5)) Q) : D (fL_X8_take_84_L27 x2 0 z) Q := by
  unfold fL_X8_take_84_L27
  have go : ∀ (n : Nat) (x3 : Int32) (S : Tr), 0 ≤ x3.toInt → x3.toInt ≤ 5 → S = cpY z 84 (x2.toNatClampNeg + 50) 56 x3.toNatClampNeg → 1000 - x3.toInt < (n : Int) → D (lpF (fun _ _ => none) (fB_X8_take_84_L27 x2 ) n x3 S) Q := by
    intro n
    induction n with
    | zero => intro x3 S a1 a2 a3 a4; exfalso; omega
    | succ n ih =>
      intro x3 S a1 a2 a3 a4
      show D (fB_X8_take_84_L27 x2 (lpF (fun _ _ => none) (fB_X8_take_84_L27 x2 ) n) x3 S) Q
      generalize lpF (fun _ _ => none) (fB_X8_take_84_L27 x2 ) n = kk at ih ⊢
      unfold fB_X8_take_84_L27
      refine D_ite (fun c => ?_) (fun c => ?_)
      · have k := tq_le (a := 5) (by decide) rfl c
        have e : x3.toNatClampNeg = 5 := by rw [i_cl]; omega
        rw [a3, e]
        exact hQ
      · have k := tq_len (a := 5) (by decide) rfl c
        have f0 : (x2 + 50).toInt = x2.toInt + 50 := i_addK rfl (by decide) (by omega) (by omega)
        have f : ((x2 + 50) + x3).toInt = (x2 + 50).toInt + x3.toInt := i_addK rfl rfl (by omega) (by omega)
        refine D_ck (okI_of (by omega) (by omega)) ?_
        refine D_ck (okI_of (by omega) (by omega)) ?_
        refine D_lt (fun S1 e1 => ?_)
        refine D_lt (fun y ey => ?_)
        have h1 : (x3 + 1).toInt = x3.toInt + 1 := i_addK rfl (by decide) (by omega) (by omega)
        exact ih y S1 (by rw [ey]; omega) (by rw [ey]; omega) (by rw [ey]; exact cpY_b a3 e1 rfl (by simp only [i_cl]; omega) (by simp only [i_cl]; omega) (by decide)) (by rw [ey]; omega)
  exact go 2000 0 z (by decide) (by decide) cpY_0.symm (by decide)

theorem k_X8_take_84_L2 {Q : Tr → Prop} (z : Tr) (x2 : Int32) (hx2 : 0 ≤ x2.toInt ∧ x2.toInt ≤ 1159) (hQ : D (fL_X8_take_84_L27 x2 0 (cpY z 84 x2.toNatClampNeg 55 50)) Q) : D (fL_X8_take_84_L2 x2 0 z) Q := by
  unfold fL_X8_take_84_L2
  have go : ∀ (n : Nat) (x3 : Int32) (S : Tr), 0 ≤ x3.toInt → x3.toInt ≤ 50 → S = cpY z 84 x2.toNatClampNeg 55 x3.toNatClampNeg → 1000 - x3.toInt < (n : Int) → D (lpF (fun _ _ => none) (fB_X8_take_84_L2 x2 ) n x3 S) Q := by
    intro n
    induction n with
    | zero => intro x3 S a1 a2 a3 a4; exfalso; omega
    | succ n ih =>
      intro x3 S a1 a2 a3 a4
      show D (fB_X8_take_84_L2 x2 (lpF (fun _ _ => none) (fB_X8_take_84_L2 x2 ) n) x3 S) Q
      generalize lpF (fun _ _ => none) (fB_X8_take_84_L2 x2 ) n = kk at ih ⊢
      unfold fB_X8_take_84_L2
      refine D_ite (fun c => ?_) (fun c => ?_)
      · have k := tq_le (a := 50) (by decide) rfl c
        have e : x3.toNatClampNeg = 50 := by rw [i_cl]; omega
        rw [a3, e]
        exact hQ
      · have k := tq_len (a := 50) (by decide) rfl c
        have f : (x2 + x3).toInt = x2.toInt + x3.toInt := i_addK rfl rfl (by omega) (by omega)
        refine D_ck (okI_of (by omega) (by omega)) ?_
        refine D_ck (okI_of (by omega) (by omega)) ?_
        refine D_lt (fun S1 e1 => ?_)
        refine D_lt (fun y ey => ?_)
        have h1 : (x3 + 1).toInt = x3.toInt + 1 := i_addK rfl (by decide) (by omega) (by omega)
        exact ih y S1 (by rw [ey]; omega) (by rw [ey]; omega) (by rw [ey]; exact cpY_b a3 e1 rfl (by simp only [i_cl]; omega) (by simp only [i_cl]; omega) (by decide)) (by rw [ey]; omega)
  exact go 2000 0 z (by decide) (by decide) cpY_0.symm (by decide)

/-- each piece is where its stack is -/
theorem k_X8_take_84_L103 (z : Tr) (hz : iR BM z) (ly : Nat → Int) (hg : gF (mnM z 0) (skM z 0) ly (z 0 14).toInt) (hl : ∀ i, -1 ≤ ly i ∧ ly i < 5) (h0 : ∀ i, i < 10 → z 54 i = -1) : D (fL_X8_take_84_L103 0 z) (fun q => (∀ a j, ¬ (a = 54 ∧ j < 10) → q a j = z a j) ∧ (∀ i, i < 10 → (q 54 i).toInt = ly i)) := by
  unfold fL_X8_take_84_L103
  have go : ∀ (n : Nat) (x3 : Int32) (S : Tr), 0 ≤ x3.toInt → x3.toInt ≤ 50 → (∀ a j, ¬ (a = 54 ∧ j < 10) → S a j = z a j) → (∀ i, i < 10 → (S 54 i).toInt = ly i ∨ ((S 54 i).toInt = -1 ∧ ∀ p k : Nat, p < 5 → k < 10 → (k : Int) < mnM z 0 p → ((10 * p + k : Nat) : Int) < x3.toInt → skM z 0 p k ≠ i)) → 1000 - x3.toInt < (n : Int) → D (lpF (fun _ _ => none) fB_X8_take_84_L103 n x3 S) (fun q => (∀ a j, ¬ (a = 54 ∧ j < 10) → q a j = z a j) ∧ (∀ i, i < 10 → (q 54 i).toInt = ly i)) := by
    intro n
    induction n with
    | zero => intro x3 S a1 a2 a3 a4 a5; exfalso; omega
    | succ n ih =>
      intro x3 S a1 a2 a3 a4 a5
      show D (fB_X8_take_84_L103 (lpF (fun _ _ => none) fB_X8_take_84_L103 n) x3 S) _
      generalize lpF (fun _ _ => none) fB_X8_take_84_L103 n = kk at ih ⊢
      unfold fB_X8_take_84_L103
      refine D_ite (fun c => ?_) (fun c => ?_)
      · have k := tq_le (a := 50) (by decide) rfl c
        refine D_some ⟨a3, fun i hi => ?_⟩
        rcases a4 i hi with q | ⟨q1, q2⟩
        · exact q
        · rw [q1]
          have l1 := hl i
          by_cases hn : 0 ≤ ly i
          · exfalso
            obtain ⟨k1, c1, c2⟩ := hg.2.1 i (ly i).toNat hi (by omega)
            have m10 : mnM z 0 (ly i).toNat ≤ 10 := (BM56 hz _).2
            exact q2 (ly i).toNat k1 (by omega) (by omega) c1 (by omega) c2
          · omega
      · have k := tq_len (a := 50) (by decide) rfl c
        have d1 := i_div (a := x3) (b := (10 : Int32)) 10 (by decide) (by decide) a1
        have d2 := i_rem (a := x3) (b := (10 : Int32)) 10 (by decide) (by decide) a1
        have h1 : (x3 + 1).toInt = x3.toInt + 1 := i_addK rfl (by decide) (by omega) (by omega)
        have cx : x3.toNatClampNeg = x3.toInt.toNat := rfl
        have cd : (x3 / 10).toNatClampNeg = (x3 / 10).toInt.toNat := rfl
        obtain ⟨P, hP⟩ : ∃ P, P = (x3 / 10).toNatClampNeg := ⟨_, rfl⟩
        obtain ⟨K, hK⟩ : ∃ K : Nat, (K : Int) = (x3 - x3 / 10 * 10).toInt := ⟨(x3 - x3 / 10 * 10).toInt.toNat, by omega⟩
        have hx : x3.toNatClampNeg = 10 * P + K := by omega
        refine D_ck (okI_of (by omega) (by omega)) ?_
        rw [a3 56 _ (by omega), ← hP]
        have em : mnM z 0 P = (z 56 P).toInt := by unfold mnM; rw [show 5 * 0 + P = P by omega]
        refine D_ite (fun c2 => ?_) (fun c2 => ?_)
        · have k2 := tq_le rfl rfl c2
          refine D_lt (fun y ey => ?_)
          refine ih y S (by rw [ey]; omega) (by rw [ey]; omega) a3 (fun i hi => ?_) (by rw [ey]; omega)
          rcases a4 i hi with q | ⟨q1, q2⟩
          · exact Or.inl q
          · refine Or.inr ⟨q1, fun p k hp hk hm hj => ?_⟩
            rw [ey, h1] at hj
            by_cases hh : ((10 * p + k : Nat) : Int) < x3.toInt
            · exact q2 p k hp hk hm hh
            · exfalso
              have ep : p = P := by omega
              subst ep
              omega
        · have k2 := tq_len rfl rfl c2
          have es : skM z 0 P K = (z 55 x3.toNatClampNeg).toInt := by unfold skM; rw [show 50 * 0 + 10 * P + K = x3.toNatClampNeg by omega]
          have b5 := BM55 hz x3.toNatClampNeg
          refine D_ck (okI_of (by omega) (by omega)) ?_
          rw [a3 55 _ (by omega)]
          refine D_ck (okI_of (by omega) (by omega)) ?_
          refine D_lt (fun S1 e1 => ?_)
          refine D_lt (fun y ey => ?_)
          have cs : (z 55 x3.toNatClampNeg).toNatClampNeg = (z 55 x3.toNatClampNeg).toInt.toNat := rfl
          have hlp := (hg.1 P K (by omega) (by omega)).1
          refine ih y S1 (by rw [ey]; omega) (by rw [ey]; omega) (fun a j q => ?_) (fun i hi => ?_) (by rw [ey]; omega)
          · rw [e1]
            rcases st_or (S := S) (a := 54) (i := (z 55 x3.toNatClampNeg).toNatClampNeg) (b := a) (j := j) (v := x3 / 10) with w | ⟨w1, w2⟩
            · rw [w]; exact a3 a j q
            · exfalso; omega
          · by_cases hii : i = (z 55 x3.toNatClampNeg).toNatClampNeg
            · refine Or.inl ?_
              rw [e1, hii, st_same]
              rw [es, ← cs] at hlp
              rw [hlp]
              omega
            · rw [e1, st_ne hii]
              rcases a4 i hi with q | ⟨q1, q2⟩
              · exact Or.inl q
              · refine Or.inr ⟨q1, fun p k hp hk hm hj => ?_⟩
                rw [ey, h1] at hj
                by_cases hh : ((10 * p + k : Nat) : Int) < x3.toInt
                · exact q2 p k hp hk hm hh
                · have ep : p = P := by omega
                  have ek : k = K := by omega
                  subst ep; subst ek
                  rw [es]
                  omega
  exact go 2000 0 z (by decide) (by decide) (fun a j _ => rfl) (fun i hi => Or.inr ⟨by rw [h0 i hi]; decide, fun p k _ _ _ hj => absurd hj (by show ¬ ((10 * p + k : Nat) : Int) < 0; omega)⟩) (by decide)

theorem k_X8_take_86_L82 {Q : Tr → Prop} (z : Tr) (hQ : D (fL_X8_take_86_L103 0 (cnM z 10)) Q) : D (fL_X8_take_86_L82 0 z) Q := by
  unfold fL_X8_take_86_L82
  have go : ∀ (n : Nat) (x3 : Int32) (S : Tr), 0 ≤ x3.toInt → x3.toInt ≤ 10 → S = cnM z x3.toNatClampNeg → 1000 - x3.toInt < (n : Int) → D (lpF (fun _ _ => none) (fB_X8_take_86_L82 ) n x3 S) Q := by
    intro n
    induction n with
    | zero => intro x3 S a1 a2 a3 a4; exfalso; omega
    | succ n ih =>
      intro x3 S a1 a2 a3 a4
      show D (fB_X8_take_86_L82 (lpF (fun _ _ => none) (fB_X8_take_86_L82 ) n) x3 S) Q
      generalize lpF (fun _ _ => none) (fB_X8_take_86_L82 ) n = kk at ih ⊢
      unfold fB_X8_take_86_L82
      refine D_ite (fun c => ?_) (fun c => ?_)
      · have k := tq_le (a := 10) (by decide) rfl c
        have e : x3.toNatClampNeg = 10 := by rw [i_cl]; omega
        rw [a3, e]
        exact hQ
      · have k := tq_len (a := 10) (by decide) rfl c
        refine D_ck (okI_of (by omega) (by omega)) ?_
        refine D_lt (fun S1 e1 => ?_)
        refine D_lt (fun y ey => ?_)
        have h1 : (x3 + 1).toInt = x3.toInt + 1 := i_addK rfl (by decide) (by omega) (by omega)
        exact ih y S1 (by rw [ey]; omega) (by rw [ey]; omega) (by rw [ey]; exact cnM_b a3 e1 rfl (by simp only [i_cl]; omega)) (by rw [ey]; omega)
  exact go 2000 0 z (by decide) (by decide) cnM_0.symm (by decide)

theorem k_X8_take_86_L54 {Q : Tr → Prop} (z : Tr) (x2 : Int32) (hx2 : 0 ≤ x2.toInt ∧ x2.toInt ≤ 0) (hQ : D (fL_X8_take_86_L82 0 (cpY z 86 (x2.toNatClampNeg + 55) 58 6)) Q) : D (fL_X8_take_86_L54 x2 0 z) Q := by
  unfold fL_X8_take_86_L54
  have go : ∀ (n : Nat) (x3 : Int32) (S : Tr), 0 ≤ x3.toInt → x3.toInt ≤ 6 → S = cpY z 86 (x2.toNatClampNeg + 55) 58 x3.toNatClampNeg → 1000 - x3.toInt < (n : Int) → D (lpF (fun _ _ => none) (fB_X8_take_86_L54 x2 ) n x3 S) Q := by
    intro n
    induction n with
    | zero => intro x3 S a1 a2 a3 a4; exfalso; omega
    | succ n ih =>
      intro x3 S a1 a2 a3 a4
      show D (fB_X8_take_86_L54 x2 (lpF (fun _ _ => none) (fB_X8_take_86_L54 x2 ) n) x3 S) Q
      generalize lpF (fun _ _ => none) (fB_X8_take_86_L54 x2 ) n = kk at ih ⊢
      unfold fB_X8_take_86_L54
      refine D_ite (fun c => ?_) (fun c => ?_)
      · have k := tq_le (a := 6) (by decide) rfl c
        have e : x3.toNatClampNeg = 6 := by rw [i_cl]; omega
        rw [a3, e]
        exact hQ
      · have k := tq_len (a := 6) (by decide) rfl c
        have f0 : (x2 + 55).toInt = x2.toInt + 55 := i_addK rfl (by decide) (by omega) (by omega)
        have f : ((x2 + 55) + x3).toInt = (x2 + 55).toInt + x3.toInt := i_addK rfl rfl (by omega) (by omega)
        refine D_ck (okI_of (by omega) (by omega)) ?_
        refine D_ck (okI_of (by omega) (by omega)) ?_
        refine D_lt (fun S1 e1 => ?_)
        refine D_lt (fun y ey => ?_)
        have h1 : (x3 + 1).toInt = x3.toInt + 1 := i_addK rfl (by decide) (by omega) (by omega)
        exact ih y S1 (by rw [ey]; omega) (by rw [ey]; omega) (by rw [ey]; exact cpY_b a3 e1 rfl (by simp only [i_cl]; omega) (by simp only [i_cl]; omega) (by decide)) (by rw [ey]; omega)
  exact go 2000 0 z (by decide) (by decide) cpY_0.symm (by decide)

theorem k_X8_take_86_L27 {Q : Tr → Prop} (z : Tr) (x2 : Int32) (hx2 : 0 ≤ x2.toInt ∧ x2.toInt ≤ 0) (hQ : D (fL_X8_take_86_L54 x2 0 (cpY z 86 (x2.toNatClampNeg + 50) 56 5)) Q) : D (fL_X8_take_86_L27 x2 0 z) Q := by
  unfold fL_X8_take_86_L27
  have go : ∀ (n : Nat) (x3 : Int32) (S : Tr), 0 ≤ x3.toInt → x3.toInt ≤ 5 → S = cpY z 86 (x2.toNatClampNeg + 50) 56 x3.toNatClampNeg → 1000 - x3.toInt < (n : Int) → D (lpF (fun _ _ => none) (fB_X8_take_86_L27 x2 ) n x3 S) Q := by
    intro n
    induction n with
    | zero => intro x3 S a1 a2 a3 a4; exfalso; omega
    | succ n ih =>
      intro x3 S a1 a2 a3 a4
      show D (fB_X8_take_86_L27 x2 (lpF (fun _ _ => none) (fB_X8_take_86_L27 x2 ) n) x3 S) Q
      generalize lpF (fun _ _ => none) (fB_X8_take_86_L27 x2 ) n = kk at ih ⊢
      unfold fB_X8_take_86_L27
      refine D_ite (fun c => ?_) (fun c => ?_)
      · have k := tq_le (a := 5) (by decide) rfl c
        have e : x3.toNatClampNeg = 5 := by rw [i_cl]; omega
        rw [a3, e]
        exact hQ
      · have k := tq_len (a := 5) (by decide) rfl c
        have f0 : (x2 + 50).toInt = x2.toInt + 50 := i_addK rfl (by decide) (by omega) (by omega)
        have f : ((x2 + 50) + x3).toInt = (x2 + 50).toInt + x3.toInt := i_addK rfl rfl (by omega) (by omega)
        refine D_ck (okI_of (by omega) (by omega)) ?_
        refine D_ck (okI_of (by omega) (by omega)) ?_
        refine D_lt (fun S1 e1 => ?_)
        refine D_lt (fun y ey => ?_)
        have h1 : (x3 + 1).toInt = x3.toInt + 1 := i_addK rfl (by decide) (by omega) (by omega)
        exact ih y S1 (by rw [ey]; omega) (by rw [ey]; omega) (by rw [ey]; exact cpY_b a3 e1 rfl (by simp only [i_cl]; omega) (by simp only [i_cl]; omega) (by decide)) (by rw [ey]; omega)
  exact go 2000 0 z (by decide) (by decide) cpY_0.symm (by decide)

theorem k_X8_take_86_L2 {Q : Tr → Prop} (z : Tr) (x2 : Int32) (hx2 : 0 ≤ x2.toInt ∧ x2.toInt ≤ 0) (hQ : D (fL_X8_take_86_L27 x2 0 (cpY z 86 x2.toNatClampNeg 55 50)) Q) : D (fL_X8_take_86_L2 x2 0 z) Q := by
  unfold fL_X8_take_86_L2
  have go : ∀ (n : Nat) (x3 : Int32) (S : Tr), 0 ≤ x3.toInt → x3.toInt ≤ 50 → S = cpY z 86 x2.toNatClampNeg 55 x3.toNatClampNeg → 1000 - x3.toInt < (n : Int) → D (lpF (fun _ _ => none) (fB_X8_take_86_L2 x2 ) n x3 S) Q := by
    intro n
    induction n with
    | zero => intro x3 S a1 a2 a3 a4; exfalso; omega
    | succ n ih =>
      intro x3 S a1 a2 a3 a4
      show D (fB_X8_take_86_L2 x2 (lpF (fun _ _ => none) (fB_X8_take_86_L2 x2 ) n) x3 S) Q
      generalize lpF (fun _ _ => none) (fB_X8_take_86_L2 x2 ) n = kk at ih ⊢
      unfold fB_X8_take_86_L2
      refine D_ite (fun c => ?_) (fun c => ?_)
      · have k := tq_le (a := 50) (by decide) rfl c
        have e : x3.toNatClampNeg = 50 := by rw [i_cl]; omega
        rw [a3, e]
        exact hQ
      · have k := tq_len (a := 50) (by decide) rfl c
        have f : (x2 + x3).toInt = x2.toInt + x3.toInt := i_addK rfl rfl (by omega) (by omega)
        refine D_ck (okI_of (by omega) (by omega)) ?_
        refine D_ck (okI_of (by omega) (by omega)) ?_
        refine D_lt (fun S1 e1 => ?_)
        refine D_lt (fun y ey => ?_)
        have h1 : (x3 + 1).toInt = x3.toInt + 1 := i_addK rfl (by decide) (by omega) (by omega)
        exact ih y S1 (by rw [ey]; omega) (by rw [ey]; omega) (by rw [ey]; exact cpY_b a3 e1 rfl (by simp only [i_cl]; omega) (by simp only [i_cl]; omega) (by decide)) (by rw [ey]; omega)
  exact go 2000 0 z (by decide) (by decide) cpY_0.symm (by decide)

/-- each piece is where its stack is -/
theorem k_X8_take_86_L103 (z : Tr) (hz : iR BM z) (ly : Nat → Int) (hg : gF (mnM z 0) (skM z 0) ly (z 0 14).toInt) (hl : ∀ i, -1 ≤ ly i ∧ ly i < 5) (h0 : ∀ i, i < 10 → z 54 i = -1) : D (fL_X8_take_86_L103 0 z) (fun q => (∀ a j, ¬ (a = 54 ∧ j < 10) → q a j = z a j) ∧ (∀ i, i < 10 → (q 54 i).toInt = ly i)) := by
  unfold fL_X8_take_86_L103
  have go : ∀ (n : Nat) (x3 : Int32) (S : Tr), 0 ≤ x3.toInt → x3.toInt ≤ 50 → (∀ a j, ¬ (a = 54 ∧ j < 10) → S a j = z a j) → (∀ i, i < 10 → (S 54 i).toInt = ly i ∨ ((S 54 i).toInt = -1 ∧ ∀ p k : Nat, p < 5 → k < 10 → (k : Int) < mnM z 0 p → ((10 * p + k : Nat) : Int) < x3.toInt → skM z 0 p k ≠ i)) → 1000 - x3.toInt < (n : Int) → D (lpF (fun _ _ => none) fB_X8_take_86_L103 n x3 S) (fun q => (∀ a j, ¬ (a = 54 ∧ j < 10) → q a j = z a j) ∧ (∀ i, i < 10 → (q 54 i).toInt = ly i)) := by
    intro n
    induction n with
    | zero => intro x3 S a1 a2 a3 a4 a5; exfalso; omega
    | succ n ih =>
      intro x3 S a1 a2 a3 a4 a5
      show D (fB_X8_take_86_L103 (lpF (fun _ _ => none) fB_X8_take_86_L103 n) x3 S) _
      generalize lpF (fun _ _ => none) fB_X8_take_86_L103 n = kk at ih ⊢
      unfold fB_X8_take_86_L103
      refine D_ite (fun c => ?_) (fun c => ?_)
      · have k := tq_le (a := 50) (by decide) rfl c
        refine D_some ⟨a3, fun i hi => ?_⟩
        rcases a4 i hi with q | ⟨q1, q2⟩
        · exact q
        · rw [q1]
          have l1 := hl i
          by_cases hn : 0 ≤ ly i
          · exfalso
            obtain ⟨k1, c1, c2⟩ := hg.2.1 i (ly i).toNat hi (by omega)
            have m10 : mnM z 0 (ly i).toNat ≤ 10 := (BM56 hz _).2
            exact q2 (ly i).toNat k1 (by omega) (by omega) c1 (by omega) c2
          · omega
      · have k := tq_len (a := 50) (by decide) rfl c
        have d1 := i_div (a := x3) (b := (10 : Int32)) 10 (by decide) (by decide) a1
        have d2 := i_rem (a := x3) (b := (10 : Int32)) 10 (by decide) (by decide) a1
        have h1 : (x3 + 1).toInt = x3.toInt + 1 := i_addK rfl (by decide) (by omega) (by omega)
        have cx : x3.toNatClampNeg = x3.toInt.toNat := rfl
        have cd : (x3 / 10).toNatClampNeg = (x3 / 10).toInt.toNat := rfl
        obtain ⟨P, hP⟩ : ∃ P, P = (x3 / 10).toNatClampNeg := ⟨_, rfl⟩
        obtain ⟨K, hK⟩ : ∃ K : Nat, (K : Int) = (x3 - x3 / 10 * 10).toInt := ⟨(x3 - x3 / 10 * 10).toInt.toNat, by omega⟩
        have hx : x3.toNatClampNeg = 10 * P + K := by omega
        refine D_ck (okI_of (by omega) (by omega)) ?_
        rw [a3 56 _ (by omega), ← hP]
        have em : mnM z 0 P = (z 56 P).toInt := by unfold mnM; rw [show 5 * 0 + P = P by omega]
        refine D_ite (fun c2 => ?_) (fun c2 => ?_)
        · have k2 := tq_le rfl rfl c2
          refine D_lt (fun y ey => ?_)
          refine ih y S (by rw [ey]; omega) (by rw [ey]; omega) a3 (fun i hi => ?_) (by rw [ey]; omega)
          rcases a4 i hi with q | ⟨q1, q2⟩
          · exact Or.inl q
          · refine Or.inr ⟨q1, fun p k hp hk hm hj => ?_⟩
            rw [ey, h1] at hj
            by_cases hh : ((10 * p + k : Nat) : Int) < x3.toInt
            · exact q2 p k hp hk hm hh
            · exfalso
              have ep : p = P := by omega
              subst ep
              omega
        · have k2 := tq_len rfl rfl c2
          have es : skM z 0 P K = (z 55 x3.toNatClampNeg).toInt := by unfold skM; rw [show 50 * 0 + 10 * P + K = x3.toNatClampNeg by omega]
          have b5 := BM55 hz x3.toNatClampNeg
          refine D_ck (okI_of (by omega) (by omega)) ?_
          rw [a3 55 _ (by omega)]
          refine D_ck (okI_of (by omega) (by omega)) ?_
          refine D_lt (fun S1 e1 => ?_)
          refine D_lt (fun y ey => ?_)
          have cs : (z 55 x3.toNatClampNeg).toNatClampNeg = (z 55 x3.toNatClampNeg).toInt.toNat := rfl
          have hlp := (hg.1 P K (by omega) (by omega)).1
          refine ih y S1 (by rw [ey]; omega) (by rw [ey]; omega) (fun a j q => ?_) (fun i hi => ?_) (by rw [ey]; omega)
          · rw [e1]
            rcases st_or (S := S) (a := 54) (i := (z 55 x3.toNatClampNeg).toNatClampNeg) (b := a) (j := j) (v := x3 / 10) with w | ⟨w1, w2⟩
            · rw [w]; exact a3 a j q
            · exfalso; omega
          · by_cases hii : i = (z 55 x3.toNatClampNeg).toNatClampNeg
            · refine Or.inl ?_
              rw [e1, hii, st_same]
              rw [es, ← cs] at hlp
              rw [hlp]
              omega
            · rw [e1, st_ne hii]
              rcases a4 i hi with q | ⟨q1, q2⟩
              · exact Or.inl q
              · refine Or.inr ⟨q1, fun p k hp hk hm hj => ?_⟩
                rw [ey, h1] at hj
                by_cases hh : ((10 * p + k : Nat) : Int) < x3.toInt
                · exact q2 p k hp hk hm hh
                · have ep : p = P := by omega
                  have ek : k = K := by omega
                  subst ep; subst ek
                  rw [es]
                  omega
  exact go 2000 0 z (by decide) (by decide) (fun a j _ => rfl) (fun i hi => Or.inr ⟨by rw [h0 i hi]; decide, fun p k _ _ _ hj => absurd hj (by show ¬ ((10 * p + k : Nat) : Int) < 0; omega)⟩) (by decide)
-- 35.q
theorem uB_s {m : Nat} (h : m < 50) : uB m = (0, 9) := by
  unfold uB; rw [show Nat.blt m 50 = true from Nat.blt_eq.mpr h]; rfl
theorem uB_m {m : Nat} (h0 : 50 ≤ m) (h : m < 55) : uB m = (0, 10) := by
  rcases (show m = 50 ∨ m = 51 ∨ m = 52 ∨ m = 53 ∨ m = 54 by omega) with rfl | rfl | rfl | rfl | rfl <;> rfl
theorem uB_a {m : Nat} (h0 : 55 ≤ m) (h : m < 61) : uB m = fullB := by
  rcases (show m = 55 ∨ m = 56 ∨ m = 57 ∨ m = 58 ∨ m = 59 ∨ m = 60 by omega) with rfl | rfl | rfl | rfl | rfl | rfl <;> rfl
def tkR (S : Tr) (A o : Nat) : Tr := cnM (cpY (cpY (cpY S A o 55 50) A (o + 50) 56 5) A (o + 55) 58 6) 10
theorem tr_54 {S : Tr} {A o j : Nat} (h : j < 10) : tkR S A o 54 j = -1 := by unfold tkR cnM; rw [if_pos ⟨rfl, h⟩]
theorem tr_55 {S : Tr} {A o j : Nat} (h : j < 50) : tkR S A o 55 j = S A (o + j) := by
  unfold tkR cnM; rw [if_neg (by omega)]
  unfold cpY; rw [if_neg (by omega), if_neg (by omega), if_pos ⟨rfl, h⟩]
theorem tr_56 {S : Tr} {A o j : Nat} (hA : A ≠ 55) (h : j < 5) : tkR S A o 56 j = S A (o + 50 + j) := by
  unfold tkR cnM; rw [if_neg (by omega)]
  unfold cpY; rw [if_neg (by omega), if_pos ⟨rfl, h⟩, if_neg (fun q => hA q.1)]
theorem tr_58 {S : Tr} {A o j : Nat} (hA : A ≠ 55) (hB : A ≠ 56) (h : j < 6) : tkR S A o 58 j = S A (o + 55 + j) := by
  unfold tkR cnM; rw [if_neg (by omega)]
  unfold cpY; rw [if_pos ⟨rfl, h⟩, if_neg (fun q => hB q.1), if_neg (fun q => hA q.1)]
theorem tr_o {S : Tr} {A o a j : Nat} (h : ¬ (a = 54 ∧ j < 10)) (h5 : ¬ (a = 55 ∧ j < 50)) (h6 : ¬ (a = 56 ∧ j < 5)) (h8 : ¬ (a = 58 ∧ j < 6)) : tkR S A o a j = S a j := by
  unfold tkR cnM; rw [if_neg h]
  unfold cpY; rw [if_neg h8, if_neg h6, if_neg h5]
theorem tr_BM {S : Tr} {A o : Nat} (hS : iR BM S) (hA : A = 84 ∨ A = 86) (ho : o % 61 = 0) : iR BM (tkR S A o) := by
  have hu : ∀ j, BM A j = uB (j % 61) := fun j => by rcases hA with e | e <;> subst e <;> rfl
  have e5 : A ≠ 55 := by omega
  have e6 : A ≠ 56 := by omega
  intro a j
  by_cases h4 : a = 54 ∧ j < 10
  · obtain ⟨q1, q2⟩ := h4
    subst q1
    rw [tr_54 q2]
    show (-1 : Int) ≤ _ ∧ _ ≤ (4 : Int)
    decide
  by_cases h5 : a = 55 ∧ j < 50
  · obtain ⟨q1, q2⟩ := h5
    subst q1
    rw [tr_55 q2]
    have h := hS A (o + j)
    rw [hu, uB_s (by omega)] at h
    exact h
  by_cases h6 : a = 56 ∧ j < 5
  · obtain ⟨q1, q2⟩ := h6
    subst q1
    rw [tr_56 e5 q2]
    have h := hS A (o + 50 + j)
    rw [hu, uB_m (by omega) (by omega)] at h
    exact h
  by_cases h8 : a = 58 ∧ j < 6
  · obtain ⟨q1, q2⟩ := h8
    subst q1
    exact full_at _
  rw [tr_o h4 h5 h6 h8]
  exact hS a j

theorem t_X8_take_84 (S : Tr) (x2 : Int32) (H : Nat → Int32) (hS : iR BM S) (hx2 : 0 ≤ x2.toInt ∧ x2.toInt ≤ 1159) (hmod : x2.toNatClampNeg % 61 = 0) (hrow : rowOK S 84 x2.toNatClampNeg H) : D (f_X8_take_84 S x2) (fun q => iR BM q ∧ gS 0 q ∧ (∀ i, i < 10 → (H i = 1 ↔ 0 ≤ lyM q 0 i)) ∧ gA 0 q ∧ (∀ a j, a ≠ 54 → a ≠ 55 → a ≠ 56 → a ≠ 58 → q a j = S a j) ∧ aG 0 S q) := by
  obtain ⟨ly, r1, r2, r3, r4⟩ := hrow
  have hw : iR BM (tkR S 84 x2.toNatClampNeg) := tr_BM hS (by decide) hmod
  have e0 : ∀ j, tkR S 84 x2.toNatClampNeg 0 j = S 0 j := fun j => tr_o (by omega) (by omega) (by omega) (by omega)
  have e6 : ∀ p, p < 5 → mnM (tkR S 84 x2.toNatClampNeg) 0 p = mnR S 84 x2.toNatClampNeg p := fun p hp => by unfold mnM mnR; rw [show 5 * 0 + p = p by omega, tr_56 (by decide) hp]
  have m10 : ∀ p, p < 5 → mnR S 84 x2.toNatClampNeg p ≤ 10 := fun p hp => by rw [← e6 p hp]; exact (BM56 hw _).2
  have gw : gF (mnM (tkR S 84 x2.toNatClampNeg) 0) (skM (tkR S 84 x2.toNatClampNeg) 0) ly (tkR S 84 x2.toNatClampNeg 0 14).toInt := by
    rw [e0]
    obtain ⟨h1, h2, h3⟩ := r1
    have hs : ∀ p k, p < 5 → k < 10 → skM (tkR S 84 x2.toNatClampNeg) 0 p k = skR S 84 x2.toNatClampNeg p k := fun p k hp hk => by unfold skM skR; rw [show 50 * 0 + 10 * p + k = 10 * p + k by omega, tr_55 (by omega)]
    refine ⟨fun p k hp hk => ?_, fun i p hi hl => ?_, fun p k l hp hk hl e => ?_⟩
    · rw [e6 p hp] at hk
      rw [hs p k hp (by have := m10 p hp; omega)]
      exact h1 p k hp hk
    · obtain ⟨k, c1, c2⟩ := h2 i p hi hl
      have := r2 i
      have hp : p < 5 := by omega
      exact ⟨k, by rw [e6 p hp]; exact c1, by rw [hs p k hp (by have := m10 p hp; omega)]; exact c2⟩
    · rw [e6 p hp] at hk hl
      have := m10 p hp
      rw [hs p k hp (by omega), hs p l hp (by omega)] at e
      exact h3 p k l hp hk hl e
  unfold f_X8_take_84
  refine k_X8_take_84_L2 S x2 hx2 (k_X8_take_84_L27 _ x2 hx2 (k_X8_take_84_L54 _ x2 hx2 (k_X8_take_84_L82 _ (D_mono (k_X8_take_84_L103 (tkR S 84 x2.toNatClampNeg) hw ly gw r2 (fun i hi => tr_54 hi)) (fun q hq => ?_)))))
  obtain ⟨q1, q2⟩ := hq
  have qo : ∀ a j, a ≠ 54 → q a j = tkR S 84 x2.toNatClampNeg a j := fun a j h => q1 a j (fun z => h z.1)
  have ql : ∀ i, i < 10 → lyM q 0 i = ly i := fun i hi => by unfold lyM; rw [show 10 * 0 + i = i by omega]; exact q2 i hi
  refine ⟨fun a j => ?_, ?_, fun i hi => by rw [ql i hi]; exact r3 i hi, fun p hp hq => ?_, fun a j h4 h5 h6 h8 => ?_, fun a j hf => ?_⟩
  · by_cases h4 : a = 54 ∧ j < 10
    · obtain ⟨z1, z2⟩ := h4
      subst z1
      show (-1 : Int) ≤ _ ∧ _ ≤ (4 : Int)
      rw [q2 j z2]
      have := r2 j
      omega
    · rw [q1 a j h4]; exact hw a j
  · show gF _ _ _ _
    rw [qo 0 14 (by decide)]
    have hm : mnM q 0 = mnM (tkR S 84 x2.toNatClampNeg) 0 := by funext p; unfold mnM; rw [qo 56 _ (by decide)]
    have hk : skM q 0 = skM (tkR S 84 x2.toNatClampNeg) 0 := by funext p k; unfold skM; rw [qo 55 _ (by decide)]
    rw [hm, hk]
    obtain ⟨h1, h2, h3⟩ := gw
    refine ⟨fun p k hp hk => ?_, fun i p hi hl => h2 i p hi (by rw [← ql i hi]; exact hl), h3⟩
    have b5 : 0 ≤ skM (tkR S 84 x2.toNatClampNeg) 0 p k ∧ skM (tkR S 84 x2.toNatClampNeg) 0 p k ≤ 9 := BM55 hw _
    rw [ql _ (by omega)]
    exact h1 p k hp hk
  · rw [qo 0 13 (by decide), e0] at hq
    rw [qo 58 _ (by decide), show 6 * 0 + p = p by omega, tr_58 (by decide) (by decide) hp]
    exact r4 p hp hq
  · rw [qo a j h4, tr_o (fun z => h4 z.1) (fun z => h5 z.1) (fun z => h6 z.1) (fun z => h8 z.1)]
  · have w5 := Wb_f hf
    have h8 : a = 58 → ¬ j < 6 := fun e hj => by subst e; rw [Wb_58 (inB_of (by omega) (by omega))] at hf; cases hf
    by_cases h4 : a = 54
    · have := w5.2.1 h4
      rw [q1 a j (by omega), tr_o (by omega) (by omega) (by omega) (by omega)]
    · rw [qo a j h4]
      refine tr_o (by omega) (fun z => ?_) (fun z => ?_) (fun z => h8 z.1 z.2)
      · have := w5.2.2.1 z.1; omega
      · have := w5.2.2.2 z.1; omega

theorem t_X8_take_86 (S : Tr) (x2 : Int32) (H : Nat → Int32) (hS : iR BM S) (hx2 : 0 ≤ x2.toInt ∧ x2.toInt ≤ 0) (hmod : x2.toNatClampNeg % 61 = 0) (hrow : rowOK S 86 x2.toNatClampNeg H) : D (f_X8_take_86 S x2) (fun q => iR BM q ∧ gS 0 q ∧ (∀ i, i < 10 → (H i = 1 ↔ 0 ≤ lyM q 0 i)) ∧ gA 0 q ∧ (∀ a j, a ≠ 54 → a ≠ 55 → a ≠ 56 → a ≠ 58 → q a j = S a j) ∧ aG 0 S q) := by
  obtain ⟨ly, r1, r2, r3, r4⟩ := hrow
  have hw : iR BM (tkR S 86 x2.toNatClampNeg) := tr_BM hS (by decide) hmod
  have e0 : ∀ j, tkR S 86 x2.toNatClampNeg 0 j = S 0 j := fun j => tr_o (by omega) (by omega) (by omega) (by omega)
  have e6 : ∀ p, p < 5 → mnM (tkR S 86 x2.toNatClampNeg) 0 p = mnR S 86 x2.toNatClampNeg p := fun p hp => by unfold mnM mnR; rw [show 5 * 0 + p = p by omega, tr_56 (by decide) hp]
  have m10 : ∀ p, p < 5 → mnR S 86 x2.toNatClampNeg p ≤ 10 := fun p hp => by rw [← e6 p hp]; exact (BM56 hw _).2
  have gw : gF (mnM (tkR S 86 x2.toNatClampNeg) 0) (skM (tkR S 86 x2.toNatClampNeg) 0) ly (tkR S 86 x2.toNatClampNeg 0 14).toInt := by
    rw [e0]
    obtain ⟨h1, h2, h3⟩ := r1
    have hs : ∀ p k, p < 5 → k < 10 → skM (tkR S 86 x2.toNatClampNeg) 0 p k = skR S 86 x2.toNatClampNeg p k := fun p k hp hk => by unfold skM skR; rw [show 50 * 0 + 10 * p + k = 10 * p + k by omega, tr_55 (by omega)]
    refine ⟨fun p k hp hk => ?_, fun i p hi hl => ?_, fun p k l hp hk hl e => ?_⟩
    · rw [e6 p hp] at hk
      rw [hs p k hp (by have := m10 p hp; omega)]
      exact h1 p k hp hk
    · obtain ⟨k, c1, c2⟩ := h2 i p hi hl
      have := r2 i
      have hp : p < 5 := by omega
      exact ⟨k, by rw [e6 p hp]; exact c1, by rw [hs p k hp (by have := m10 p hp; omega)]; exact c2⟩
    · rw [e6 p hp] at hk hl
      have := m10 p hp
      rw [hs p k hp (by omega), hs p l hp (by omega)] at e
      exact h3 p k l hp hk hl e
  unfold f_X8_take_86
  refine k_X8_take_86_L2 S x2 hx2 (k_X8_take_86_L27 _ x2 hx2 (k_X8_take_86_L54 _ x2 hx2 (k_X8_take_86_L82 _ (D_mono (k_X8_take_86_L103 (tkR S 86 x2.toNatClampNeg) hw ly gw r2 (fun i hi => tr_54 hi)) (fun q hq => ?_)))))
  obtain ⟨q1, q2⟩ := hq
  have qo : ∀ a j, a ≠ 54 → q a j = tkR S 86 x2.toNatClampNeg a j := fun a j h => q1 a j (fun z => h z.1)
  have ql : ∀ i, i < 10 → lyM q 0 i = ly i := fun i hi => by unfold lyM; rw [show 10 * 0 + i = i by omega]; exact q2 i hi
  refine ⟨fun a j => ?_, ?_, fun i hi => by rw [ql i hi]; exact r3 i hi, fun p hp hq => ?_, fun a j h4 h5 h6 h8 => ?_, fun a j hf => ?_⟩
  · by_cases h4 : a = 54 ∧ j < 10
    · obtain ⟨z1, z2⟩ := h4
      subst z1
      show (-1 : Int) ≤ _ ∧ _ ≤ (4 : Int)
      rw [q2 j z2]
      have := r2 j
      omega
    · rw [q1 a j h4]; exact hw a j
  · show gF _ _ _ _
    rw [qo 0 14 (by decide)]
    have hm : mnM q 0 = mnM (tkR S 86 x2.toNatClampNeg) 0 := by funext p; unfold mnM; rw [qo 56 _ (by decide)]
    have hk : skM q 0 = skM (tkR S 86 x2.toNatClampNeg) 0 := by funext p k; unfold skM; rw [qo 55 _ (by decide)]
    rw [hm, hk]
    obtain ⟨h1, h2, h3⟩ := gw
    refine ⟨fun p k hp hk => ?_, fun i p hi hl => h2 i p hi (by rw [← ql i hi]; exact hl), h3⟩
    have b5 : 0 ≤ skM (tkR S 86 x2.toNatClampNeg) 0 p k ∧ skM (tkR S 86 x2.toNatClampNeg) 0 p k ≤ 9 := BM55 hw _
    rw [ql _ (by omega)]
    exact h1 p k hp hk
  · rw [qo 0 13 (by decide), e0] at hq
    rw [qo 58 _ (by decide), show 6 * 0 + p = p by omega, tr_58 (by decide) (by decide) hp]
    exact r4 p hp hq
  · rw [qo a j h4, tr_o (fun z => h4 z.1) (fun z => h5 z.1) (fun z => h6 z.1) (fun z => h8 z.1)]
  · have w5 := Wb_f hf
    have h8 : a = 58 → ¬ j < 6 := fun e hj => by subst e; rw [Wb_58 (inB_of (by omega) (by omega))] at hf; cases hf
    by_cases h4 : a = 54
    · have := w5.2.1 h4
      rw [q1 a j (by omega), tr_o (by omega) (by omega) (by omega) (by omega)]
    · rw [qo a j h4]
      refine tr_o (by omega) (fun z => ?_) (fun z => ?_) (fun z => h8 z.1 z.2)
      · have := w5.2.2.1 z.1; omega
      · have := w5.2.2.2 z.1; omega
