/-! the reference's bounds -/
def uB (m : Nat) : Int × Int := bif Nat.blt m 50 then (0, 9) else bif Nat.blt m 55 then (0, 10) else fullB
def BM0 (j : Nat) : Int × Int :=
  bif Nat.beq j 1 then (0, 700) else bif Nat.beq j 6 then (0, 700) else bif Nat.beq j 7 then (0, 700) else bif Nat.beq j 8 then (0, 6) else
  bif Nat.beq j 12 then (0, 5) else bif Nat.beq j 13 then (0, 6) else bif Nat.beq j 14 then (0, 10) else bif Nat.beq j 15 then (0, 64) else
  bif Nat.beq j 16 then (0, 5) else bif Nat.beq j 17 then (0, 6) else bif Nat.beq j 18 then (0, 10) else bif Nat.beq j 19 then (0, 64) else bif Nat.beq j 20 then (0, 10) else
  bif Nat.beq j 43 then (0, 96) else bif Nat.beq j 44 then (0, 96) else bif Nat.beq j 45 then (0, 8) else bif Nat.beq j 46 then (0, 64) else
  bif Nat.beq j 47 then (0, 1) else bif Nat.beq j 48 then (0, 1) else bif Nat.beq j 51 then (0, 1) else bif Nat.beq j 65 then (0, 1) else bif Nat.beq j 66 then (0, 1) else bif Nat.beq j 67 then (0, 1) else bif Nat.beq j 68 then (0, 1) else bif Nat.beq j 69 then (0, 1) else bif Nat.beq j 70 then (0, 1) else
  bif Nat.beq j 78 then (0, 24) else bif Nat.beq j 79 then (-1, 24) else bif Nat.beq j 82 then (0, 20) else bif Nat.beq j 89 then (0, 21) else fullB
def BM (a j : Nat) : Int × Int :=
  bif Nat.beq a 0 then BM0 j else
  bif Nat.beq a 28 then (0, 20) else bif Nat.beq a 30 then (0, 5) else bif Nat.beq a 33 then (-1, 4) else
  bif Nat.beq a 37 then (0, 64) else bif Nat.beq a 38 then (0, 64) else bif Nat.beq a 42 then (0, 14) else bif Nat.beq a 43 then (0, 63) else
  bif Nat.beq a 53 then (0, 5) else bif Nat.beq a 54 then (-1, 4) else bif Nat.beq a 55 then (0, 9) else bif Nat.beq a 56 then (0, 10) else
  bif Nat.beq a 62 then (0, 21) else bif Nat.beq a 72 then (-1, 4) else bif Nat.beq a 74 then (0, 9) else bif Nat.beq a 75 then (0, 9) else
  bif Nat.beq a 81 then (bif Nat.beq (j % 4) 1 then (0, 23) else fullB) else
  bif Nat.beq a 84 then uB (j % 61) else bif Nat.beq a 86 then uB (j % 61) else bif Nat.beq a 87 then (0, 5) else fullB
/-! which cells the moves of a train b may change -/
def Wt (a j : Nat) : Bool :=
  bif Nat.beq a 0 then (Nat.beq j 2 || Nat.beq j 51 || Nat.beq j 64 || Nat.beq j 65 || Nat.beq j 66 || Nat.beq j 67 || Nat.beq j 68 || Nat.beq j 69 || Nat.beq j 70 || Nat.beq j 72) else
  (Nat.beq a 72 || Nat.beq a 74 || Nat.beq a 75 || Nat.beq a 76 || Nat.beq a 77 || Nat.beq a 78 || Nat.beq a 82)
def inB (n b j : Nat) : Bool := Nat.ble (n * b) j && Nat.blt j (n * b + n)
def Wb (b a j : Nat) : Bool :=
  Wt a j || ((Nat.beq a 53 || Nat.beq a 54) && inB 10 b j) || (Nat.beq a 55 && inB 50 b j) || (Nat.beq a 56 && inB 5 b j) || ((Nat.beq a 57 || Nat.beq a 58 || Nat.beq a 59 || Nat.beq a 60) && inB 6 b j) || ((Nat.beq a 61 || Nat.beq a 62 || Nat.beq a 63) && inB 1 b j)
/-- but for these cells nothing has changed -/
def aG (b : Nat) (S S1 : Tr) : Prop := ∀ a j, Wb b a j = false → S1 a j = S a j
def aT (S S1 : Tr) : Prop := ∀ a j, Wt a j = false → S1 a j = S a j
theorem aG_rfl {b : Nat} {S : Tr} : aG b S S := fun _ _ _ => rfl
theorem aT_rfl {S : Tr} : aT S S := fun _ _ _ => rfl
theorem aG_tr {b : Nat} {S S1 S2 : Tr} (h1 : aG b S S1) (h2 : aG b S1 S2) : aG b S S2 := fun a j h => (h2 a j h).trans (h1 a j h)
theorem aT_tr {S S1 S2 : Tr} (h1 : aT S S1) (h2 : aT S1 S2) : aT S S2 := fun a j h => (h2 a j h).trans (h1 a j h)
theorem aT_G {b : Nat} {S S1 : Tr} (h : aT S S1) : aG b S S1 := fun a j hw => h a j (by
  cases hq : Wt a j with
  | false => rfl
  | true => unfold Wb at hw; rw [hq] at hw; simp at hw)
theorem st_or {S : Tr} {a i b j : Nat} {v : Int32} : st S a i v b j = S b j ∨ (b = a ∧ j = i) := by
  by_cases hb : b = a
  · by_cases hj : j = i
    · exact Or.inr ⟨hb, hj⟩
    · subst hb; exact Or.inl (st_ne hj)
  · exact Or.inl (by rw [st_oth hb])
theorem aG_set {b : Nat} {z S : Tr} {a i : Nat} {v : Int32} (h : aG b z S) (hw : Wb b a i = true) : aG b z (st S a i v) := fun c j hf => by
  rcases st_or (S := S) (a := a) (i := i) (b := c) (j := j) (v := v) with e | ⟨e1, e2⟩
  · rw [e]; exact h c j hf
  · subst e1; subst e2; rw [hw] at hf; cases hf
theorem aT_set {z S : Tr} {a i : Nat} {v : Int32} (h : aT z S) (hw : Wt a i = true) : aT z (st S a i v) := fun c j hf => by
  rcases st_or (S := S) (a := a) (i := i) (b := c) (j := j) (v := v) with e | ⟨e1, e2⟩
  · rw [e]; exact h c j hf
  · subst e1; subst e2; rw [hw] at hf; cases hf
theorem inB_of {n b j : Nat} (h1 : n * b ≤ j) (h2 : j < n * b + n) : inB n b j = true := by
  unfold inB
  rw [Nat.ble_eq_true_of_le h1, Nat.blt_eq.mpr h2]
  rfl
theorem Wb_t {b a j : Nat} (h : Wt a j = true) : Wb b a j = true := by unfold Wb; rw [h]; rfl
theorem Wb_53 {b j : Nat} (h : inB 10 b j = true) : Wb b 53 j = true := by unfold Wb; rw [h]; simp
theorem Wb_54 {b j : Nat} (h : inB 10 b j = true) : Wb b 54 j = true := by unfold Wb; rw [h]; simp
theorem Wb_55 {b j : Nat} (h : inB 50 b j = true) : Wb b 55 j = true := by unfold Wb; rw [h]; simp
theorem Wb_56 {b j : Nat} (h : inB 5 b j = true) : Wb b 56 j = true := by unfold Wb; rw [h]; simp
theorem Wb_57 {b j : Nat} (h : inB 6 b j = true) : Wb b 57 j = true := by unfold Wb; rw [h]; simp
theorem Wb_58 {b j : Nat} (h : inB 6 b j = true) : Wb b 58 j = true := by unfold Wb; rw [h]; simp
theorem Wb_59 {b j : Nat} (h : inB 6 b j = true) : Wb b 59 j = true := by unfold Wb; rw [h]; simp
theorem Wb_60 {b j : Nat} (h : inB 6 b j = true) : Wb b 60 j = true := by unfold Wb; rw [h]; simp
theorem Wb_61 {b j : Nat} (h : inB 1 b j = true) : Wb b 61 j = true := by unfold Wb; rw [h]; simp
theorem Wb_62 {b j : Nat} (h : inB 1 b j = true) : Wb b 62 j = true := by unfold Wb; rw [h]; simp
theorem Wb_63 {b j : Nat} (h : inB 1 b j = true) : Wb b 63 j = true := by unfold Wb; rw [h]; simp
/-! what a text that is kept has -/
def nodeOK (S : Tr) (k : Nat) : Prop := S 39 k = 0 ∨ (S 39 k = 1 ∧ 0 ≤ (S 40 k).toInt ∧ (S 40 k).toInt ≤ 6) ∨ (S 39 k = 2 ∧ 0 ≤ (S 40 k).toInt ∧ (S 40 k).toInt ≤ 63) ∨ (¬ S 39 k = 1 ∧ 0 ≤ (S 40 k).toInt ∧ (S 40 k).toInt ≤ 63 ∧ 0 ≤ (S 41 k).toInt ∧ (S 41 k).toInt ≤ 63)
def pI (S : Tr) : Prop := (∀ k, nodeOK S k) ∧ (∀ w, w < 3 → ¬ S 36 w = 0 → 1 ≤ (S 38 w).toInt) ∧ (∀ i : Nat, i < 10 → (i : Int) < (S 0 14).toInt → (S 30 i).toInt < (S 0 13).toInt) ∧ (∀ p : Nat, p < 6 → (p : Int) < (S 0 13).toInt → 1 ≤ (S 29 p).toInt)
/-! a train's stacks -/
def lyM (S : Tr) (b i : Nat) : Int := (S 54 (10 * b + i)).toInt
def mnM (S : Tr) (b p : Nat) : Int := (S 56 (5 * b + p)).toInt
def skM (S : Tr) (b p k : Nat) : Int := (S 55 (50 * b + 10 * p + k)).toInt
/-- what lies in a place knows it, what knows a place lies there, nothing lies twice -/
def gF (mn : Nat → Int) (sk : Nat → Nat → Int) (ly : Nat → Int) (pc : Int) : Prop :=
  (∀ p k : Nat, p < 5 → (k : Int) < mn p → ly (sk p k).toNat = p ∧ sk p k < pc) ∧
  (∀ i p : Nat, i < 10 → ly i = p → ∃ k : Nat, (k : Int) < mn p ∧ sk p k = i) ∧
  (∀ p k l : Nat, p < 5 → (k : Int) < mn p → (l : Int) < mn p → sk p k = sk p l → k = l)
def gS (b : Nat) (S : Tr) : Prop := gF (mnM S b) (skM S b) (lyM S b) (S 0 14).toInt
/-- and its state says so, but of one -/
def gJ (b : Nat) (S : Tr) (x : Nat) : Prop := gS b S ∧ (∀ i : Nat, i < 10 → i ≠ x → (S 53 (10 * b + i) = 1 ↔ 0 ≤ lyM S b i))
def gA (b : Nat) (S : Tr) : Prop := ∀ p : Nat, p < 6 → (p : Int) < (S 0 13).toInt → 1 ≤ (S 58 (6 * b + p)).toInt
def gI (b : Nat) (S : Tr) : Prop := gS b S ∧ (∀ i : Nat, i < 10 → (S 53 (10 * b + i) = 1 ↔ 0 ≤ lyM S b i)) ∧ gA b S
/-- what was seen at a stop is a piece -/
def zI (S : Tr) : Prop := ∀ k : Nat, 0 ≤ (S 81 (4 * k)).toInt → (S 81 (4 * k + 1)).toInt ≤ 9
/-! pigeons -/
theorem php : ∀ (n m : Nat) (f : Nat → Nat), (∀ k, k < m → f k < n) → (∀ k l, k < m → l < m → f k = f l → k = l) → m ≤ n
  | 0, m, f, h1, _ => by
    cases m with
    | zero => exact Nat.le_refl _
    | succ m => exact absurd (h1 0 (by omega)) (Nat.not_lt_zero _)
  | n + 1, m, f, h1, h2 => by
    by_cases hk : ∃ k, k < m ∧ f k = n
    · obtain ⟨k0, hk0, e0⟩ := hk
      have := php n (m - 1) (fun k => if k < k0 then f k else f (k + 1)) (fun k hk => by
        split
        · have a1 := h1 k (by omega)
          have a2 : f k ≠ n := fun e => by have := h2 k k0 (by omega) hk0 (by omega); omega
          omega
        · have a1 := h1 (k + 1) (by omega)
          have a2 : f (k + 1) ≠ n := fun e => by have := h2 (k + 1) k0 (by omega) hk0 (by omega); omega
          omega) (fun k l hk hl e => by
        split at e <;> split at e
        · exact h2 k l (by omega) (by omega) e
        · have := h2 k (l + 1) (by omega) (by omega) e; omega
        · have := h2 (k + 1) l (by omega) (by omega) e; omega
        · have := h2 (k + 1) (l + 1) (by omega) (by omega) e; omega)
      omega
    · have := php n m f (fun k hk2 => by
        have a1 := h1 k hk2
        have a2 : f k ≠ n := fun e => hk ⟨k, hk2, e⟩
        omega) h2
      omega
theorem ix1 {c x y : Int32} (k : Nat) (hc : c.toInt = k) (hk : k ≤ 100) (hx : 0 ≤ x.toInt ∧ x.toInt ≤ 1) (hy : 0 ≤ y.toInt ∧ y.toInt ≤ 1000) : ((c * x) + y).toInt = k * x.toInt + y.toInt ∧ ((c * x) + y).toNatClampNeg = k * x.toNatClampNeg + y.toNatClampNeg := by
  have h0 : x.toInt = 0 ∨ x.toInt = 1 := by omega
  have e1 : (c * x).toInt = k * x.toInt := i_mulL (a := c) (b := x) k hc (by rcases h0 with h | h <;> rw [h] <;> omega) (by rcases h0 with h | h <;> rw [h] <;> omega)
  have e2 : ((c * x) + y).toInt = k * x.toInt + y.toInt := by
    rw [← e1]
    exact i_add (by rw [e1]; rcases h0 with h | h <;> rw [h] <;> omega) (by rw [e1]; rcases h0 with h | h <;> rw [h] <;> omega)
  refine ⟨e2, ?_⟩
  rw [i_cl, e2, i_cl, i_cl]
  rcases h0 with h | h
  · have e : x.toInt.toNat = 0 := by omega
    rw [e, h, Int.mul_zero, Nat.mul_zero]
    omega
  · have e : x.toInt.toNat = 1 := by omega
    rw [e, h, Int.mul_one, Nat.mul_one]
    omega
theorem ix2 {x y z : Int32} (hx : 0 ≤ x.toInt ∧ x.toInt ≤ 1) (hy : 0 ≤ y.toInt ∧ y.toInt ≤ 4) (hz : 0 ≤ z.toInt ∧ z.toInt ≤ 1000) : ((((50 : Int32) * x) + ((10 : Int32) * y)) + z).toInt = 50 * x.toInt + 10 * y.toInt + z.toInt ∧ ((((50 : Int32) * x) + ((10 : Int32) * y)) + z).toNatClampNeg = 50 * x.toNatClampNeg + 10 * y.toNatClampNeg + z.toNatClampNeg := by
  have e1 := i_mulL (a := (50 : Int32)) (b := x) 50 (by decide) (by omega) (by omega)
  have e2 := i_mulL (a := (10 : Int32)) (b := y) 10 (by decide) (by omega) (by omega)
  have e3 := i_add (a := (50 : Int32) * x) (b := (10 : Int32) * y) (by omega) (by omega)
  have e4 := i_add (a := (50 : Int32) * x + (10 : Int32) * y) (b := z) (by omega) (by omega)
  refine ⟨by omega, ?_⟩
  rw [i_cl, i_cl, i_cl, i_cl]
  omega
/-! belowOf -/
theorem t_X8_stackAt (S : Tr) (x1 x2 x3 : Int32) (hx1 : 0 ≤ x1.toInt ∧ x1.toInt ≤ 1) (hx2 : 0 ≤ x2.toInt ∧ x2.toInt ≤ 4) (hx3 : 0 ≤ x3.toInt ∧ x3.toInt ≤ 9) : D (f_X8_stackAt S x1 x2 x3) (fun q => q = S 55 (50 * x1.toNatClampNeg + 10 * x2.toNatClampNeg + x3.toNatClampNeg)) := by
  obtain ⟨e1, e2⟩ := ix2 hx1 hx2 (z := x3) ⟨by omega, by omega⟩
  unfold f_X8_stackAt
  refine D_ck (okI_of (by omega) (by omega)) ?_
  exact D_some (by rw [e2])
theorem t_X8_belowOf (S : Tr) (x1 x2 : Int32) (hS : iR BM S) (hx1 : 0 ≤ x1.toInt ∧ x1.toInt ≤ 1) (hx2 : 0 ≤ x2.toInt ∧ x2.toInt ≤ 9) (hg : gS x1.toNatClampNeg S) (hly : 0 ≤ (S 54 (((10 : Int32) * x1) + x2).toNatClampNeg).toInt) : D (f_X8_belowOf S x1 x2) (fun q => (0 ≤ q.toInt ∧ q.toInt ≤ 9) ∧ q.toInt < (S 56 (((5 : Int32) * x1) + (S 54 (((10 : Int32) * x1) + x2).toNatClampNeg)).toNatClampNeg).toInt ∧ S 55 (50 * x1.toNatClampNeg + 10 * (S 54 (((10 : Int32) * x1) + x2).toNatClampNeg).toNatClampNeg + q.toNatClampNeg) = x2) := by
  obtain ⟨e1, e2⟩ := ix1 (c := 10) (x := x1) (y := x2) 10 (by decide) (by decide) hx1 ⟨by omega, by omega⟩
  have hb4 := hS 54 (10 * x1.toNatClampNeg + x2.toNatClampNeg)
  have hb4 : (-1 : Int) ≤ (S 54 (10 * x1.toNatClampNeg + x2.toNatClampNeg)).toInt ∧ (S 54 (10 * x1.toNatClampNeg + x2.toNatClampNeg)).toInt ≤ 4 := hb4
  rw [e2] at hly
  generalize hp : S 54 (10 * x1.toNatClampNeg + x2.toNatClampNeg) = p at hly hb4
  obtain ⟨e3, e4⟩ := ix1 (c := 5) (x := x1) (y := p) 5 (by decide) (by decide) hx1 ⟨by omega, by omega⟩
  have hpn : p.toNatClampNeg = p.toInt.toNat := rfl
  have hxn : x2.toNatClampNeg = x2.toInt.toNat := rfl
  obtain ⟨k0, hk0, hk1⟩ := hg.2.1 x2.toNatClampNeg p.toNatClampNeg (by omega) (by show (S 54 (10 * x1.toNatClampNeg + x2.toNatClampNeg)).toInt = _; rw [hp]; omega)
  have hm : (0 : Int) ≤ (S 56 (5 * x1.toNatClampNeg + p.toNatClampNeg)).toInt ∧ (S 56 (5 * x1.toNatClampNeg + p.toNatClampNeg)).toInt ≤ 10 := hS 56 _
  have hk0 : (k0 : Int) < (S 56 (5 * x1.toNatClampNeg + p.toNatClampNeg)).toInt := hk0
  have hk1 : (S 55 (50 * x1.toNatClampNeg + 10 * p.toNatClampNeg + k0)).toInt = x2.toNatClampNeg := hk1
  unfold f_X8_belowOf fL_X8_belowOf_L2
  refine lp_ind (P := fun (n : Nat) (f : Int32 → Option Int32) => ∀ x3 : Int32, 0 ≤ x3.toInt → x3.toInt ≤ k0 → 100 - x3.toInt < (n : Int) → D (f x3) (fun q => (0 ≤ q.toInt ∧ q.toInt ≤ 9) ∧ q.toInt < (S 56 (((5 : Int32) * x1) + (S 54 (((10 : Int32) * x1) + x2).toNatClampNeg)).toNatClampNeg).toInt ∧ S 55 (50 * x1.toNatClampNeg + 10 * (S 54 (((10 : Int32) * x1) + x2).toNatClampNeg).toNatClampNeg + q.toNatClampNeg) = x2)) ?_ ?_ 2000 0 (by decide) (by show (0 : Int) ≤ _; omega) (by decide)
  · intro x3 a1 a2 a3
    exfalso
    omega
  · intro n f ih x3 a1 a2 a3
    unfold fB_X8_belowOf_L2
    refine D_ck (okI_of (by omega) (by omega)) ?_
    rw [e2, hp] at ih ⊢
    refine D_bd (t_X8_stackAt S x1 p x3 hx1 ⟨hly, hb4.2⟩ ⟨a1, by omega⟩) (fun r er hr => ?_)
    have hx3n : x3.toNatClampNeg = x3.toInt.toNat := rfl
    refine D_ite (fun c => ?_) (fun c => ?_)
    · refine D_some ⟨⟨a1, by omega⟩, ?_, ?_⟩
      · rw [e4]; omega
      · rw [← hr, c]
    · have hne : x3.toInt ≠ k0 := fun e => c (by
        have : x3.toNatClampNeg = k0 := by omega
        rw [hr, this]
        exact Int32.toInt_inj.mp (by omega))
      refine D_lt (fun y ey => ?_)
      have h1 : (x3 + 1).toInt = x3.toInt + 1 := i_addK rfl (by decide) (by omega) (by omega)
      exact ih y (by rw [ey]; omega) (by rw [ey]; omega) (by rw [ey]; push_cast at a3; omega)
/-! one is taken out of a stack -/
theorem gF_take {mn mn' : Nat → Int} {sk sk' : Nat → Nat → Int} {ly ly' : Nat → Int} {pc : Int} {p i pos : Nat} (h : gF mn sk ly pc) (hb : ∀ q k, 0 ≤ sk q k ∧ sk q k ≤ 9) (hm10 : ∀ q, mn q ≤ 10) (hp : p < 5) (hi : i < 10) (hl0 : ly i = p) (hpos : (pos : Int) < mn p) (hsi : sk p pos = i)
    (hm : mn' p = mn p - 1) (hm2 : ∀ q, q < 5 → q ≠ p → mn' q = mn q) (hs1 : ∀ k, k < pos → sk' p k = sk p k) (hs2 : ∀ k, pos ≤ k → (k : Int) < mn p - 1 → sk' p k = sk p (k + 1)) (hs3 : ∀ q k, q < 5 → q ≠ p → k < 10 → sk' q k = sk q k) (hl : ly' i = -1) (hl2 : ∀ x, x < 10 → x ≠ i → ly' x = ly x) (hl5 : ∀ x, x < 10 → ly x < 5) : gF mn' sk' ly' pc := by
  obtain ⟨h1, h2, h3⟩ := h
  have key : ∀ k : Nat, (k : Int) < mn p - 1 → ∃ k2 : Nat, (k2 : Int) < mn p ∧ k2 ≠ pos ∧ sk' p k = sk p k2 ∧ ((k < pos ∧ k2 = k) ∨ (pos ≤ k ∧ k2 = k + 1)) := by
    intro k hk
    by_cases hq : k < pos
    · exact ⟨k, by omega, by omega, hs1 k hq, Or.inl ⟨hq, rfl⟩⟩
    · exact ⟨k + 1, by omega, by omega, hs2 k (by omega) hk, Or.inr ⟨by omega, rfl⟩⟩
  refine ⟨fun q k hq hk => ?_, fun x q hx hlx => ?_, fun q k l hq hk hl' e => ?_⟩
  · by_cases e : q = p
    · subst e
      rw [hm] at hk
      obtain ⟨k2, a1, a2, a3, -⟩ := key k hk
      obtain ⟨b1, b2⟩ := h1 q k2 hq a1
      have hne : (sk q k2).toNat ≠ i := fun e => a2 (h3 q k2 pos hq a1 hpos (by have := hb q k2; omega))
      rw [a3]
      have := hb q k2
      exact ⟨by rw [hl2 _ (by omega) hne]; exact b1, b2⟩
    · rw [hm2 q hq e] at hk
      have hk10 : k < 10 := by have := hm10 q; omega
      obtain ⟨b1, b2⟩ := h1 q k hq hk
      rw [hs3 q k hq e hk10]
      have hne : (sk q k).toNat ≠ i := fun e2 => by rw [e2] at b1; rw [hl0] at b1; omega
      have := hb q k
      exact ⟨by rw [hl2 _ (by omega) hne]; exact b1, b2⟩
  · by_cases hxi : x = i
    · subst hxi; rw [hl] at hlx; omega
    · rw [hl2 x hx hxi] at hlx
      obtain ⟨k, c1, c2⟩ := h2 x q hx hlx
      have hq5 : q < 5 := by have := hl5 x hx; omega
      by_cases e : q = p
      · subst e
        have hkp : k ≠ pos := fun e2 => by subst e2; omega
        by_cases hq : k < pos
        · exact ⟨k, by rw [hm]; omega, by rw [hs1 k hq]; exact c2⟩
        · refine ⟨k - 1, by rw [hm]; omega, ?_⟩
          rw [hs2 (k - 1) (by omega) (by omega), show k - 1 + 1 = k by omega]
          exact c2
      · exact ⟨k, by rw [hm2 q hq5 e]; exact c1, by rw [hs3 q k hq5 e (by have := hm10 q; omega)]; exact c2⟩
  · by_cases e1 : q = p
    · subst e1
      rw [hm] at hk hl'
      obtain ⟨k2, a1, a2, a3, a4⟩ := key k hk
      obtain ⟨l2, b1, b2, b3, b4⟩ := key l hl'
      have := h3 q k2 l2 hq a1 b1 (by rw [← a3, ← b3]; exact e)
      omega
    · rw [hm2 q hq e1] at hk hl'
      have := hm10 q
      rw [hs3 q k hq e1 (by omega), hs3 q l hq e1 (by omega)] at e
      exact h3 q k l hq hk hl' e
/-- one is laid on a stack -/
theorem gF_lay {mn mn' : Nat → Int} {sk sk' : Nat → Nat → Int} {ly ly' : Nat → Int} {pc : Int} {p i : Nat} (h : gF mn sk ly pc) (hb : ∀ q k, 0 ≤ sk q k ∧ sk q k ≤ 9) (hm0 : ∀ q, 0 ≤ mn q) (hm10 : ∀ q, mn q ≤ 10) (hp : p < 5) (hi : i < 10) (hip : (i : Int) < pc) (hl0 : ly i < 0)
    (hm : mn' p = mn p + 1) (hm2 : ∀ q, q < 5 → q ≠ p → mn' q = mn q) (hs1 : ∀ k : Nat, (k : Int) < mn p → sk' p k = sk p k) (hs2 : sk' p (mn p).toNat = i) (hs3 : ∀ q k, q < 5 → q ≠ p → k < 10 → sk' q k = sk q k) (hl : ly' i = p) (hl2 : ∀ x, x < 10 → x ≠ i → ly' x = ly x) (hl5 : ∀ x, x < 10 → ly x < 5) : gF mn' sk' ly' pc := by
  obtain ⟨h1, h2, h3⟩ := h
  have hne : ∀ q k : Nat, q < 5 → (k : Int) < mn q → (sk q k).toNat ≠ i := fun q k hq hk e => by
    have := (h1 q k hq hk).1
    rw [e] at this
    omega
  have m0 := hm0 p
  refine ⟨fun q k hq hk => ?_, fun x q hx hlx => ?_, fun q k l hq hk hl' e => ?_⟩
  · by_cases e : q = p
    · subst e
      rw [hm] at hk
      by_cases hk2 : (k : Int) < mn q
      · obtain ⟨b1, b2⟩ := h1 q k hq hk2
        rw [hs1 k hk2]
        have := hb q k
        exact ⟨by rw [hl2 _ (by omega) (hne q k hq hk2)]; exact b1, b2⟩
      · have ek : k = (mn q).toNat := by omega
        rw [ek, hs2]
        exact ⟨by rw [Int.toNat_natCast]; exact hl, hip⟩
    · rw [hm2 q hq e] at hk
      obtain ⟨b1, b2⟩ := h1 q k hq hk
      have := hm10 q
      rw [hs3 q k hq e (by omega)]
      have := hb q k
      exact ⟨by rw [hl2 _ (by omega) (hne q k hq hk)]; exact b1, b2⟩
  · by_cases hxi : x = i
    · subst hxi
      rw [hl] at hlx
      have : q = p := by omega
      subst this
      exact ⟨(mn q).toNat, by rw [hm]; omega, hs2⟩
    · rw [hl2 x hx hxi] at hlx
      obtain ⟨k, c1, c2⟩ := h2 x q hx hlx
      have hq5 : q < 5 := by have := hl5 x hx; omega
      by_cases e : q = p
      · subst e
        exact ⟨k, by rw [hm]; omega, by rw [hs1 k c1]; exact c2⟩
      · exact ⟨k, by rw [hm2 q hq5 e]; exact c1, by rw [hs3 q k hq5 e (by have := hm10 q; omega)]; exact c2⟩
  · by_cases e1 : q = p
    · subst e1
      rw [hm] at hk hl'
      have nat1 : ∀ j : Nat, (j : Int) < mn q → sk q j ≠ i := fun j hj e2 => hne q j hq hj (by rw [e2, Int.toNat_natCast])
      by_cases hk2 : (k : Int) < mn q <;> by_cases hl2' : (l : Int) < mn q
      · rw [hs1 k hk2, hs1 l hl2'] at e; exact h3 q k l hq hk2 hl2' e
      · have el : l = (mn q).toNat := by omega
        rw [hs1 k hk2, el, hs2] at e
        exact absurd e (nat1 k hk2)
      · have ek : k = (mn q).toNat := by omega
        rw [hs1 l hl2', ek, hs2] at e
        exact absurd e.symm (nat1 l hl2')
      · omega
    · rw [hm2 q hq e1] at hk hl'
      have := hm10 q
      rw [hs3 q k hq e1 (by omega), hs3 q l hq e1 (by omega)] at e
      exact h3 q k l hq hk hl' e
/-- a stack in which one isn't has room for it -/
theorem gF_room {mn : Nat → Int} {sk : Nat → Nat → Int} {ly : Nat → Int} {pc : Int} {p i : Nat} (h : gF mn sk ly pc) (hb : ∀ q k, 0 ≤ sk q k ∧ sk q k ≤ 9) (hp : p < 5) (hi : i < 10) (hl0 : ly i < 0) : mn p ≤ 9 := by
  obtain ⟨h1, -, h3⟩ := h
  by_cases hz : mn p ≤ 0
  · omega
  have := php 10 ((mn p).toNat + 1) (fun k => if (k : Int) < mn p then (sk p k).toNat else i) (fun k hk => by
    split
    · have := hb p k; omega
    · exact hi) (fun k l hk hl e => by
    have hne : ∀ j : Nat, (j : Int) < mn p → (sk p j).toNat ≠ i := fun j hj e2 => by
      have := (h1 p j hp hj).1
      rw [e2] at this
      omega
    split at e <;> split at e
    · rename_i a1 a2
      exact h3 p k l hp a1 a2 (by have b1 := hb p k; have b2 := hb p l; omega)
    · rename_i a1 a2; exact absurd e (hne k a1)
    · rename_i a1 a2; exact absurd e.symm (hne l a2)
    · omega)
  omega
