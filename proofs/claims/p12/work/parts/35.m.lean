/-! cells by places -/
theorem BM54 {S : Tr} (h : iR BM S) (j : Nat) : -1 ≤ (S 54 j).toInt ∧ (S 54 j).toInt ≤ 4 := h 54 j
theorem BM55 {S : Tr} (h : iR BM S) (j : Nat) : 0 ≤ (S 55 j).toInt ∧ (S 55 j).toInt ≤ 9 := h 55 j
theorem BM56 {S : Tr} (h : iR BM S) (j : Nat) : 0 ≤ (S 56 j).toInt ∧ (S 56 j).toInt ≤ 10 := h 56 j
theorem BM53 {S : Tr} (h : iR BM S) (j : Nat) : 0 ≤ (S 53 j).toInt ∧ (S 53 j).toInt ≤ 5 := h 53 j
def shf (z : Tr) (lo hi : Nat) : Tr := fun a j => if a = 55 ∧ lo ≤ j ∧ j < hi then z 55 (j + 1) else z a j
theorem shf_0 {z : Tr} {lo : Nat} : shf z lo lo = z := by
  funext a j
  unfold shf
  rw [if_neg (by omega)]
theorem shf_s {z : Tr} {lo hi : Nat} (h : lo ≤ hi) : st (shf z lo hi) 55 hi (shf z lo hi 55 (hi + 1)) = shf z lo (hi + 1) := by
  funext a j
  rcases st_or (S := shf z lo hi) (a := 55) (i := hi) (b := a) (j := j) (v := shf z lo hi 55 (hi + 1)) with e | ⟨e1, e2⟩
  · by_cases hq : a = 55 ∧ j = hi
    · obtain ⟨q1, q2⟩ := hq
      subst q1; subst q2
      rw [st_same]
      unfold shf
      rw [if_neg (by omega), if_pos (by omega)]
    · rw [e]
      unfold shf
      by_cases h1 : a = 55 ∧ lo ≤ j ∧ j < hi
      · rw [if_pos h1, if_pos (by omega)]
      · rw [if_neg h1, if_neg (by omega)]
  · subst e1; subst e2
    rw [st_same]
    unfold shf
    rw [if_neg (by omega), if_pos (by omega)]
def tkM (S : Tr) (b i p pos : Nat) (c : Int32) : Tr := st (st (shf (st S 56 (5 * b + p) (S 56 (5 * b + p) - 1)) (50 * b + 10 * p + pos) (50 * b + 10 * p + ((S 56 (5 * b + p)).toInt.toNat - 1))) 54 (10 * b + i) (-1)) 53 (10 * b + i) c
theorem tk_54 {S : Tr} {b i p pos : Nat} {c : Int32} {j : Nat} : tkM S b i p pos c 54 j = if j = 10 * b + i then -1 else S 54 j := by
  unfold tkM
  rw [st_oth (by decide)]
  by_cases h : j = 10 * b + i
  · rw [if_pos h, h, st_same]
  · rw [if_neg h, st_ne h]
    unfold shf
    rw [if_neg (by omega), st_oth (by decide)]
theorem tk_53 {S : Tr} {b i p pos : Nat} {c : Int32} {j : Nat} : tkM S b i p pos c 53 j = if j = 10 * b + i then c else S 53 j := by
  unfold tkM
  by_cases h : j = 10 * b + i
  · rw [if_pos h, h, st_same]
  · rw [if_neg h, st_ne h, st_oth (by decide)]
    unfold shf
    rw [if_neg (by omega), st_oth (by decide)]
theorem tk_56 {S : Tr} {b i p pos : Nat} {c : Int32} {j : Nat} : tkM S b i p pos c 56 j = if j = 5 * b + p then S 56 (5 * b + p) - 1 else S 56 j := by
  unfold tkM
  rw [st_oth (by decide), st_oth (by decide)]
  unfold shf
  rw [if_neg (by omega)]
  by_cases h : j = 5 * b + p
  · rw [if_pos h, h, st_same]
  · rw [if_neg h, st_ne h]
theorem tk_55 {S : Tr} {b i p pos : Nat} {c : Int32} {j : Nat} : tkM S b i p pos c 55 j = if 50 * b + 10 * p + pos ≤ j ∧ j < 50 * b + 10 * p + ((S 56 (5 * b + p)).toInt.toNat - 1) then S 55 (j + 1) else S 55 j := by
  unfold tkM
  rw [st_oth (by decide), st_oth (by decide)]
  unfold shf
  by_cases h : 50 * b + 10 * p + pos ≤ j ∧ j < 50 * b + 10 * p + ((S 56 (5 * b + p)).toInt.toNat - 1)
  · rw [if_pos ⟨rfl, h⟩, if_pos h, st_oth (by decide)]
  · rw [if_neg (fun q => h q.2), if_neg h, st_oth (by decide)]
theorem tk_o {S : Tr} {b i p pos : Nat} {c : Int32} {a : Nat} (h3 : a ≠ 53) (h4 : a ≠ 54) (h5 : a ≠ 55) (h6 : a ≠ 56) : tkM S b i p pos c a = S a := by
  funext j
  unfold tkM
  rw [st_oth h3, st_oth h4]
  unfold shf
  rw [if_neg (by omega), st_oth h6]
theorem BM_tk {S : Tr} (h : iR BM S) {b i p pos : Nat} {c : Int32} (hc : 0 ≤ c.toInt ∧ c.toInt ≤ 5) (hm : 1 ≤ (S 56 (5 * b + p)).toInt) : iR BM (tkM S b i p pos c) := by
  intro a j
  by_cases h3 : a = 53
  · subst h3; rw [tk_53]; split
    · exact hc
    · exact h 53 j
  by_cases h4 : a = 54
  · subst h4; rw [tk_54]; split
    · show (-1 : Int) ≤ _ ∧ _ ≤ (4 : Int); decide
    · exact h 54 j
  by_cases h5 : a = 55
  · subst h5; rw [tk_55]; split
    · exact h 55 (j + 1)
    · exact h 55 j
  by_cases h6 : a = 56
  · subst h6; rw [tk_56]; split
    · have := BM56 h (5 * b + p)
      have e : (S 56 (5 * b + p) - 1).toInt = (S 56 (5 * b + p)).toInt - 1 := i_subK rfl (by decide) (by omega) (by omega)
      show (0 : Int) ≤ _ ∧ _ ≤ (10 : Int)
      rw [e]; omega
    · exact h 56 j
  rw [tk_o h3 h4 h5 h6]
  exact h a j
theorem Wb_f {b a j : Nat} (h : Wb b a j = false) : (a = 53 → ¬ (10 * b ≤ j ∧ j < 10 * b + 10)) ∧ (a = 54 → ¬ (10 * b ≤ j ∧ j < 10 * b + 10)) ∧ (a = 55 → ¬ (50 * b ≤ j ∧ j < 50 * b + 50)) ∧ (a = 56 → ¬ (5 * b ≤ j ∧ j < 5 * b + 5)) := by
  refine ⟨fun e q => ?_, fun e q => ?_, fun e q => ?_, fun e q => ?_⟩ <;> subst e
  · rw [Wb_53 (inB_of q.1 q.2)] at h; cases h
  · rw [Wb_54 (inB_of q.1 q.2)] at h; cases h
  · rw [Wb_55 (inB_of q.1 q.2)] at h; cases h
  · rw [Wb_56 (inB_of q.1 q.2)] at h; cases h
theorem tk_aG {S : Tr} (h : iR BM S) {b i p pos : Nat} {c : Int32} (hp : p < 5) (hi : i < 10) : aG b S (tkM S b i p pos c) := by
  intro a j hf
  obtain ⟨w3, w4, w5, w6⟩ := Wb_f hf
  have m := BM56 h (5 * b + p)
  by_cases h3 : a = 53
  · have := w3 h3; subst h3; rw [tk_53, if_neg (by omega)]
  by_cases h4 : a = 54
  · have := w4 h4; subst h4; rw [tk_54, if_neg (by omega)]
  by_cases h5 : a = 55
  · have := w5 h5; subst h5; rw [tk_55, if_neg (by omega)]
  by_cases h6 : a = 56
  · have := w6 h6; subst h6; rw [tk_56, if_neg (by omega)]
  rw [tk_o h3 h4 h5 h6]
theorem tk_gJ {S : Tr} (h : iR BM S) {b i p pos : Nat} {c : Int32} (hp : p < 5) (hi : i < 10) (hg : gI b S) (hl0 : lyM S b i = p) (hpos : (pos : Int) < mnM S b p) (hsi : skM S b p pos = i) : gJ b (tkM S b i p pos c) i ∧ gA b (tkM S b i p pos c) ∧ lyM (tkM S b i p pos c) b i = -1 := by
  obtain ⟨g1, g2, g3⟩ := hg
  have m0 : ∀ q, 0 ≤ mnM S b q := fun q => (BM56 h _).1
  have m1 : ∀ q, mnM S b q ≤ 10 := fun q => (BM56 h _).2
  have hli : lyM (tkM S b i p pos c) b i = -1 := by unfold lyM; rw [tk_54, if_pos rfl]; decide
  have hl2 : ∀ x, x < 10 → x ≠ i → lyM (tkM S b i p pos c) b x = lyM S b x := fun x hx hne => by unfold lyM; rw [tk_54, if_neg (by omega)]
  have mp := m0 p
  have mp1 := m1 p
  have em : (S 56 (5 * b + p)).toInt = mnM S b p := rfl
  refine ⟨⟨?_, fun x hx hne => ?_⟩, fun q hq hq2 => ?_, hli⟩
  · show gF _ _ _ _
    have e14 : (tkM S b i p pos c 0 14).toInt = (S 0 14).toInt := by rw [tk_o (by decide) (by decide) (by decide) (by decide)]
    rw [e14]
    refine gF_take (p := p) (i := i) (pos := pos) g1 (fun q k => BM55 h _) m1 hp hi hl0 hpos hsi ?_ ?_ ?_ ?_ ?_ hli hl2 (fun x hx => by have := BM54 h (10 * b + x); unfold lyM; omega)
    · unfold mnM
      rw [tk_56, if_pos rfl]
      exact i_subK rfl (by decide) (by omega) (by omega)
    · intro q hq hne; unfold mnM; rw [tk_56, if_neg (by omega)]
    · intro k hk; unfold skM; rw [tk_55, if_neg (by omega)]
    · intro k hk1 hk2; unfold skM; rw [tk_55, if_pos (by omega)]; rfl
    · intro q k hq hne hk; unfold skM; rw [tk_55, if_neg (by omega)]
  · rw [hl2 x hx hne, tk_53, if_neg (by omega)]
    exact g2 x hx
  · rw [tk_o (by decide) (by decide) (by decide) (by decide)] at hq2 ⊢
    exact g3 q hq hq2
theorem gI_of {b x : Nat} {S : Tr} (h : gJ b S x) (hA : gA b S) (hl : lyM S b x = -1) (hc : ¬ S 53 (10 * b + x) = 1) : gI b S := by
  refine ⟨h.1, fun i hi => ?_, hA⟩
  by_cases e : i = x
  · subst e
    rw [hl]
    exact ⟨fun q => absurd q hc, fun q => by omega⟩
  · exact h.2 i hi e
theorem t_X8_takes (S : Tr) (x1 x2 x3 : Int32) (hS : iR BM S) (hx1 : 0 ≤ x1.toInt ∧ x1.toInt ≤ 1) (hx2 : 0 ≤ x2.toInt ∧ x2.toInt ≤ 9) (hx3 : 0 ≤ x3.toInt ∧ x3.toInt ≤ 5) (hg : gI x1.toNatClampNeg S) (hly : 0 ≤ (S 54 (((10 : Int32) * x1) + x2).toNatClampNeg).toInt) : D (f_X8_takes S x1 x2 x3) (fun q => ∃ pos : Nat, q = tkM S x1.toNatClampNeg x2.toNatClampNeg (S 54 (((10 : Int32) * x1) + x2).toNatClampNeg).toNatClampNeg pos x3 ∧ iR BM q ∧ gJ x1.toNatClampNeg q x2.toNatClampNeg ∧ gA x1.toNatClampNeg q ∧ lyM q x1.toNatClampNeg x2.toNatClampNeg = -1 ∧ q 53 (10 * x1.toNatClampNeg + x2.toNatClampNeg) = x3 ∧ aG x1.toNatClampNeg S q) := by
  obtain ⟨e1, e2⟩ := ix1 (c := 10) (x := x1) (y := x2) 10 (by decide) (by decide) hx1 ⟨by omega, by omega⟩
  have hbel := t_X8_belowOf S x1 x2 hS hx1 hx2 hg.1 hly
  rw [e2] at hly hbel ⊢
  have hb4 := BM54 hS (10 * x1.toNatClampNeg + x2.toNatClampNeg)
  unfold f_X8_takes
  refine D_ck (okI_of (by omega) (by omega)) ?_
  rw [e2]
  refine D_lte (y := S 54 (10 * x1.toNatClampNeg + x2.toNatClampNeg)) rfl ?_
  have hl0 : lyM S x1.toNatClampNeg x2.toNatClampNeg = (S 54 (10 * x1.toNatClampNeg + x2.toNatClampNeg)).toInt := rfl
  generalize S 54 (10 * x1.toNatClampNeg + x2.toNatClampNeg) = p at *
  obtain ⟨e3, e4⟩ := ix1 (c := 5) (x := x1) (y := p) 5 (by decide) (by decide) hx1 ⟨by omega, by omega⟩
  refine D_bd hbel (fun r er hr => ?_)
  obtain ⟨r9, rm, rs⟩ := hr
  have hm := BM56 hS (5 * x1.toNatClampNeg + p.toNatClampNeg)
  have c1 : x1.toNatClampNeg = x1.toInt.toNat := rfl
  have c2 : x2.toNatClampNeg = x2.toInt.toNat := rfl
  have c4 : p.toNatClampNeg = p.toInt.toNat := rfl
  have c5 : r.toNatClampNeg = r.toInt.toNat := rfl
  rw [e4] at rm
  have hp5 : p.toNatClampNeg < 5 := by omega
  have hi10 : x2.toNatClampNeg < 10 := by omega
  have hpp : lyM S x1.toNatClampNeg x2.toNatClampNeg = p.toNatClampNeg := by rw [hl0]; omega
  have hmp : ((r.toNatClampNeg : Nat) : Int) < mnM S x1.toNatClampNeg p.toNatClampNeg := by show _ < (S 56 (5 * x1.toNatClampNeg + p.toNatClampNeg)).toInt; omega
  have hsi : skM S x1.toNatClampNeg p.toNatClampNeg r.toNatClampNeg = x2.toNatClampNeg := by unfold skM; rw [rs]; omega
  obtain ⟨j1, j2, j3⟩ := tk_gJ (c := x3) hS hp5 hi10 hg hpp hmp hsi
  refine D_ck (okI_of (by omega) (by omega)) ?_
  rw [e4]
  refine D_lt (fun S7 eS7 => ?_)
  unfold fL_X8_takes_L36
  have e56 : ∀ lo hi, shf S7 lo hi 56 (5 * x1.toNatClampNeg + p.toNatClampNeg) = S 56 (5 * x1.toNatClampNeg + p.toNatClampNeg) - 1 := fun lo hi => by
    unfold shf
    rw [if_neg (by omega), eS7, st_same]
  have em1 : (S 56 (5 * x1.toNatClampNeg + p.toNatClampNeg) - 1).toInt = (S 56 (5 * x1.toNatClampNeg + p.toNatClampNeg)).toInt - 1 := i_subK rfl (by decide) (by omega) (by omega)
  have goal : ∀ (x5 : Int32) (T : Tr), r.toInt ≤ x5.toInt → x5.toInt ≤ (S 56 (5 * x1.toNatClampNeg + p.toNatClampNeg)).toInt - 1 → T = shf S7 (50 * x1.toNatClampNeg + 10 * p.toNatClampNeg + r.toNatClampNeg) (50 * x1.toNatClampNeg + 10 * p.toNatClampNeg + x5.toNatClampNeg) → ∀ n : Nat, 100 - x5.toInt < (n : Int) → D (lpF (fun _ _ => none) (fB_X8_takes_L36 x1 x2 x3 p) n x5 T) (fun q => ∃ pos : Nat, q = tkM S x1.toNatClampNeg x2.toNatClampNeg p.toNatClampNeg pos x3 ∧ iR BM q ∧ gJ x1.toNatClampNeg q x2.toNatClampNeg ∧ gA x1.toNatClampNeg q ∧ lyM q x1.toNatClampNeg x2.toNatClampNeg = -1 ∧ q 53 (10 * x1.toNatClampNeg + x2.toNatClampNeg) = x3 ∧ aG x1.toNatClampNeg S q) := by
    intro x5 T a1 a2 a3 n
    revert x5 T
    induction n with
    | zero => intro x5 T a1 a2 a3 a4; exfalso; omega
    | succ n ih =>
      intro x5 T a1 a2 a3 a4
      show D (fB_X8_takes_L36 x1 x2 x3 p (lpF (fun _ _ => none) (fB_X8_takes_L36 x1 x2 x3 p) n) x5 T) _
      generalize lpF (fun _ _ => none) (fB_X8_takes_L36 x1 x2 x3 p) n = k36 at ih ⊢
      unfold fB_X8_takes_L36
      have c6 : x5.toNatClampNeg = x5.toInt.toNat := rfl
      refine D_ck (okI_of (by omega) (by omega)) ?_
      rw [e4]
      have eT : T 56 (5 * x1.toNatClampNeg + p.toNatClampNeg) = S 56 (5 * x1.toNatClampNeg + p.toNatClampNeg) - 1 := by rw [a3]; exact e56 _ _
      rw [eT]
      refine D_ite (fun c => ?_) (fun c => ?_)
      · have k := tq_le rfl rfl c
        unfold fJ_X8_takes_J96
        refine D_ck (okI_of (by omega) (by omega)) ?_
        rw [e2]
        have ex : x5.toNatClampNeg = (S 56 (5 * x1.toNatClampNeg + p.toNatClampNeg)).toInt.toNat - 1 := by omega
        have eq1 : st (st T 54 (10 * x1.toNatClampNeg + x2.toNatClampNeg) (-1)) 53 (10 * x1.toNatClampNeg + x2.toNatClampNeg) x3 = tkM S x1.toNatClampNeg x2.toNatClampNeg p.toNatClampNeg r.toNatClampNeg x3 := by
          rw [a3, ex, eS7]
          rfl
        refine D_lt (fun S11 e11 => ?_)
        refine D_lt (fun S12 e12 => ?_)
        rw [e11] at e12
        rw [eq1] at e12
        subst e12
        refine D_some ⟨r.toNatClampNeg, rfl, BM_tk hS hx3 (by omega), j1, j2, j3, ?_, tk_aG hS hp5 hi10⟩
        rw [tk_53, if_pos rfl]
      · have k := tq_len rfl rfl c
        obtain ⟨f1, f2⟩ := ix2 (x := x1) (y := p) (z := x5) hx1 ⟨hly, hb4.2⟩ ⟨by omega, by omega⟩
        have f3 : ((((50 : Int32) * x1 + (10 : Int32) * p) + x5) + 1).toInt = ((((50 : Int32) * x1 + (10 : Int32) * p) + x5)).toInt + 1 := i_addK rfl (by decide) (by omega) (by omega)
        have f4 : ((((50 : Int32) * x1 + (10 : Int32) * p) + x5) + 1).toNatClampNeg = 50 * x1.toNatClampNeg + 10 * p.toNatClampNeg + x5.toNatClampNeg + 1 := by rw [i_cl]; omega
        refine D_ck (okI_of (by omega) (by omega)) ?_
        refine D_ck (okI_of (by omega) (by omega)) ?_
        rw [f2, f4]
        refine D_lt (fun S15 e15 => ?_)
        refine D_lt (fun y ey => ?_)
        have h1 : (x5 + 1).toInt = x5.toInt + 1 := i_addK rfl (by decide) (by omega) (by omega)
        have hy : y.toNatClampNeg = x5.toNatClampNeg + 1 := by rw [ey, i_cl]; omega
        refine ih y S15 (by rw [ey]; omega) (by rw [ey]; omega) ?_ (by rw [ey]; omega)
        rw [e15, a3, hy, shf_s (by omega)]
        rfl
  refine goal r S7 (Int.le_refl _) (by omega) shf_0.symm 2000 (by omega)
/-! one is laid on a stack -/
def lyS (S : Tr) (b i p : Nat) (v pv : Int32) : Tr := st (st (st (st S 55 (50 * b + 10 * p + (S 56 (5 * b + p)).toInt.toNat) v) 56 (5 * b + p) (S 56 (5 * b + p) + 1)) 54 (10 * b + i) pv) 53 (10 * b + i) 1
theorem ls_55 {S : Tr} {b i p : Nat} {v pv : Int32} {j : Nat} : lyS S b i p v pv 55 j = if j = 50 * b + 10 * p + (S 56 (5 * b + p)).toInt.toNat then v else S 55 j := by
  unfold lyS
  rw [st_oth (by decide), st_oth (by decide), st_oth (by decide)]
  by_cases h : j = 50 * b + 10 * p + (S 56 (5 * b + p)).toInt.toNat
  · rw [if_pos h, h, st_same]
  · rw [if_neg h, st_ne h]
theorem ls_56 {S : Tr} {b i p : Nat} {v pv : Int32} {j : Nat} : lyS S b i p v pv 56 j = if j = 5 * b + p then S 56 (5 * b + p) + 1 else S 56 j := by
  unfold lyS
  rw [st_oth (by decide), st_oth (by decide)]
  by_cases h : j = 5 * b + p
  · rw [if_pos h, h, st_same]
  · rw [if_neg h, st_ne h, st_oth (by decide)]
theorem ls_54 {S : Tr} {b i p : Nat} {v pv : Int32} {j : Nat} : lyS S b i p v pv 54 j = if j = 10 * b + i then pv else S 54 j := by
  unfold lyS
  rw [st_oth (by decide)]
  by_cases h : j = 10 * b + i
  · rw [if_pos h, h, st_same]
  · rw [if_neg h, st_ne h, st_oth (by decide), st_oth (by decide)]
theorem ls_53 {S : Tr} {b i p : Nat} {v pv : Int32} {j : Nat} : lyS S b i p v pv 53 j = if j = 10 * b + i then 1 else S 53 j := by
  unfold lyS
  by_cases h : j = 10 * b + i
  · rw [if_pos h, h, st_same]
  · rw [if_neg h, st_ne h, st_oth (by decide), st_oth (by decide), st_oth (by decide)]
theorem ls_o {S : Tr} {b i p : Nat} {v pv : Int32} {a : Nat} (h3 : a ≠ 53) (h4 : a ≠ 54) (h5 : a ≠ 55) (h6 : a ≠ 56) : lyS S b i p v pv a = S a := by
  unfold lyS
  rw [st_oth h3, st_oth h4, st_oth h6, st_oth h5]
theorem BM_ls {S : Tr} (h : iR BM S) {b i p : Nat} {v pv : Int32} (hv : 0 ≤ v.toInt ∧ v.toInt ≤ 9) (hp : 0 ≤ pv.toInt ∧ pv.toInt ≤ 4) (hm : (S 56 (5 * b + p)).toInt ≤ 9) : iR BM (lyS S b i p v pv) := by
  intro a j
  by_cases h3 : a = 53
  · subst h3; rw [ls_53]; split
    · show (0 : Int) ≤ _ ∧ _ ≤ (5 : Int); decide
    · exact h 53 j
  by_cases h4 : a = 54
  · subst h4; rw [ls_54]; split
    · show (-1 : Int) ≤ _ ∧ _ ≤ (4 : Int); omega
    · exact h 54 j
  by_cases h5 : a = 55
  · subst h5; rw [ls_55]; split
    · exact hv
    · exact h 55 j
  by_cases h6 : a = 56
  · subst h6; rw [ls_56]; split
    · have := BM56 h (5 * b + p)
      have e : (S 56 (5 * b + p) + 1).toInt = (S 56 (5 * b + p)).toInt + 1 := i_addK rfl (by decide) (by omega) (by omega)
      show (0 : Int) ≤ _ ∧ _ ≤ (10 : Int)
      rw [e]; omega
    · exact h 56 j
  rw [ls_o h3 h4 h5 h6]
  exact h a j
theorem ls_aG {S : Tr} (h : iR BM S) {b i p : Nat} {v pv : Int32} (hp : p < 5) (hi : i < 10) (hm : (S 56 (5 * b + p)).toInt ≤ 9) : aG b S (lyS S b i p v pv) := by
  intro a j hf
  obtain ⟨w3, w4, w5, w6⟩ := Wb_f hf
  have m := BM56 h (5 * b + p)
  by_cases h3 : a = 53
  · have := w3 h3; subst h3; rw [ls_53, if_neg (by omega)]
  by_cases h4 : a = 54
  · have := w4 h4; subst h4; rw [ls_54, if_neg (by omega)]
  by_cases h5 : a = 55
  · have := w5 h5; subst h5; rw [ls_55, if_neg (by omega)]
  by_cases h6 : a = 56
  · have := w6 h6; subst h6; rw [ls_56, if_neg (by omega)]
  rw [ls_o h3 h4 h5 h6]
theorem ls_gI {S : Tr} (h : iR BM S) {b i p : Nat} {v pv : Int32} (hp : p < 5) (hi : i < 10) (hg : gJ b S i) (hA : gA b S) (hl0 : lyM S b i < 0) (hip : (i : Int) < (S 0 14).toInt) (hv : v.toInt = i) (hpv : pv.toInt = p) (hm9 : (S 56 (5 * b + p)).toInt ≤ 9) : gI b (lyS S b i p v pv) := by
  obtain ⟨g1, g2⟩ := hg
  have m0 : ∀ q, 0 ≤ mnM S b q := fun q => (BM56 h _).1
  have m1 : ∀ q, mnM S b q ≤ 10 := fun q => (BM56 h _).2
  have mp := m0 p
  have hli : lyM (lyS S b i p v pv) b i = p := by unfold lyM; rw [ls_54, if_pos rfl]; exact hpv
  have hl2 : ∀ x, x < 10 → x ≠ i → lyM (lyS S b i p v pv) b x = lyM S b x := fun x hx hne => by unfold lyM; rw [ls_54, if_neg (by omega)]
  have em : (S 56 (5 * b + p)).toInt = mnM S b p := rfl
  refine ⟨?_, fun x hx => ?_, fun q hq hq2 => ?_⟩
  · show gF _ _ _ _
    have e14 : (lyS S b i p v pv 0 14).toInt = (S 0 14).toInt := by rw [ls_o (by decide) (by decide) (by decide) (by decide)]
    rw [e14]
    refine gF_lay (p := p) (i := i) g1 (fun q k => BM55 h _) m0 m1 hp hi hip hl0 ?_ ?_ ?_ ?_ ?_ hli hl2 (fun x hx => by have := BM54 h (10 * b + x); unfold lyM; omega)
    · unfold mnM
      rw [ls_56, if_pos rfl]
      exact i_addK rfl (by decide) (by omega) (by omega)
    · intro q hq hne; unfold mnM; rw [ls_56, if_neg (by omega)]
    · intro k hk; unfold skM; rw [ls_55, if_neg (by omega)]
    · unfold skM; rw [ls_55, if_pos (by rw [← em])]; exact hv
    · intro q k hq hne hk; unfold skM; rw [ls_55, if_neg (by omega)]
  · by_cases e : x = i
    · subst e
      rw [hli, ls_53, if_pos rfl]
      exact ⟨fun _ => by omega, fun _ => rfl⟩
    · rw [hl2 x hx e, ls_53, if_neg (by omega)]
      exact g2 x hx e
  · rw [ls_o (by decide) (by decide) (by decide) (by decide)] at hq2 ⊢
    exact hA q hq hq2
theorem t_X8_lays (S : Tr) (x1 x2 x3 : Int32) (hS : iR BM S) (hx1 : 0 ≤ x1.toInt ∧ x1.toInt ≤ 1) (hx2 : 0 ≤ x2.toInt ∧ x2.toInt ≤ 4) (hx3 : 0 ≤ x3.toInt ∧ x3.toInt ≤ 9) (hg : gJ x1.toNatClampNeg S x3.toNatClampNeg) (hA : gA x1.toNatClampNeg S) (hl0 : lyM S x1.toNatClampNeg x3.toNatClampNeg < 0) (hip : x3.toInt < (S 0 14).toInt) : D (f_X8_lays S x1 x2 x3) (fun q => q = lyS S x1.toNatClampNeg x3.toNatClampNeg x2.toNatClampNeg x3 x2 ∧ iR BM q ∧ gI x1.toNatClampNeg q ∧ aG x1.toNatClampNeg S q) := by
  obtain ⟨e1, e2⟩ := ix1 (c := 5) (x := x1) (y := x2) 5 (by decide) (by decide) hx1 ⟨by omega, by omega⟩
  obtain ⟨e3, e4⟩ := ix1 (c := 10) (x := x1) (y := x3) 10 (by decide) (by decide) hx1 ⟨by omega, by omega⟩
  have c1 : x1.toNatClampNeg = x1.toInt.toNat := rfl
  have c2 : x2.toNatClampNeg = x2.toInt.toNat := rfl
  have c3 : x3.toNatClampNeg = x3.toInt.toNat := rfl
  have hm9 : (S 56 (5 * x1.toNatClampNeg + x2.toNatClampNeg)).toInt ≤ 9 := gF_room (p := x2.toNatClampNeg) (i := x3.toNatClampNeg) hg.1 (fun q k => BM55 hS _) (by omega) (by omega) hl0
  have hm := BM56 hS (5 * x1.toNatClampNeg + x2.toNatClampNeg)
  obtain ⟨e5, e6⟩ := ix2 (x := x1) (y := x2) (z := S 56 (5 * x1.toNatClampNeg + x2.toNatClampNeg)) hx1 hx2 ⟨by omega, by omega⟩
  unfold f_X8_lays
  refine D_ck (okI_of (by omega) (by omega)) ?_
  rw [e2]
  refine D_ck (okI_of (by omega) (by omega)) ?_
  rw [e6]
  refine D_lt (fun S3 q3 => ?_)
  refine D_lt (fun S4 q4 => ?_)
  refine D_ck (okI_of (by omega) (by omega)) ?_
  rw [e4]
  refine D_lt (fun S6 q6 => ?_)
  refine D_lt (fun S7 q7 => ?_)
  have eq : S7 = lyS S x1.toNatClampNeg x3.toNatClampNeg x2.toNatClampNeg x3 x2 := by
    rw [q7, q6, q4, q3]
    rfl
  rw [eq]
  exact D_some ⟨rfl, BM_ls hS hx3 hx2 hm9, ls_gI hS (by omega) (by omega) hg hA hl0 (by omega) (by omega) (by omega) hm9, ls_aG hS (by omega) (by omega) hm9⟩
theorem t_X8_stackAt2 (S : Tr) (x1 x2 x3 : Int32) (hS : iR BM S) (hx1 : 0 ≤ x1.toInt ∧ x1.toInt ≤ 1) (hx2 : 0 ≤ x2.toInt ∧ x2.toInt ≤ 4) (hx3 : 0 ≤ x3.toInt ∧ x3.toInt ≤ 9) : D (f_X8_stackAt S x1 x2 x3) (fun q => (0 ≤ q.toInt ∧ q.toInt ≤ 9) ∧ q = S 55 (50 * x1.toNatClampNeg + 10 * x2.toNatClampNeg + x3.toNatClampNeg)) :=
  D_mono (t_X8_stackAt S x1 x2 x3 hx1 hx2 hx3) (fun r hr => ⟨by rw [hr]; exact BM55 hS _, hr⟩)
theorem i64_ne {x : Int32} (h : x.toInt ≠ 0) : ¬ x.toInt64 = 0 := fun e => h (by
  have := congrArg Int64.toInt e
  rw [Int32.toInt_toInt64] at this
  exact this)
theorem node_i {S : Tr} {k : Nat} (h : nodeOK S k) : (S 39 k).toInt = 0 ∨ ((S 39 k).toInt = 1 ∧ 0 ≤ (S 40 k).toInt ∧ (S 40 k).toInt ≤ 6) ∨ ((S 39 k).toInt = 2 ∧ 0 ≤ (S 40 k).toInt ∧ (S 40 k).toInt ≤ 63) ∨ (¬ (S 39 k).toInt = 1 ∧ 0 ≤ (S 40 k).toInt ∧ (S 40 k).toInt ≤ 63 ∧ 0 ≤ (S 41 k).toInt ∧ (S 41 k).toInt ≤ 63) := by
  rcases h with e | ⟨e, h⟩ | ⟨e, h⟩ | ⟨e, h⟩
  · exact Or.inl (by rw [e]; decide)
  · exact Or.inr (Or.inl ⟨by rw [e]; decide, h⟩)
  · exact Or.inr (Or.inr (Or.inl ⟨by rw [e]; decide, h⟩))
  · exact Or.inr (Or.inr (Or.inr ⟨fun q => e (Int32.toInt_inj.mp q), h⟩))
theorem gS_fr {b : Nat} {S S1 : Tr} (h : gS b S) (e54 : ∀ j, S1 54 j = S 54 j) (e55 : ∀ j, S1 55 j = S 55 j) (e56 : ∀ j, S1 56 j = S 56 j) (e14 : S1 0 14 = S 0 14) : gS b S1 := by
  have a1 : mnM S1 b = mnM S b := by funext p; unfold mnM; rw [e56]
  have a2 : skM S1 b = skM S b := by funext p k; unfold skM; rw [e55]
  have a3 : lyM S1 b = lyM S b := by funext p; unfold lyM; rw [e54]
  unfold gS
  rw [a1, a2, a3, e14]
  exact h
theorem gI_fr {b : Nat} {S S1 : Tr} (h : gI b S) (e53 : ∀ j, S1 53 j = S 53 j) (e54 : ∀ j, S1 54 j = S 54 j) (e55 : ∀ j, S1 55 j = S 55 j) (e56 : ∀ j, S1 56 j = S 56 j) (e58 : ∀ j, S1 58 j = S 58 j) (e13 : S1 0 13 = S 0 13) (e14 : S1 0 14 = S 0 14) : gI b S1 := by
  refine ⟨gS_fr h.1 e54 e55 e56 e14, fun i hi => ?_, fun p hp hq => ?_⟩
  · unfold lyM
    rw [e53, e54]
    exact h.2.1 i hi
  · rw [e58]
    rw [e13] at hq
    exact h.2.2 p hp hq
theorem gI_aT {b : Nat} {S S1 : Tr} (h : gI b S) (a : aT S S1) : gI b S1 := gI_fr h (fun j => a 53 j rfl) (fun j => a 54 j rfl) (fun j => a 55 j rfl) (fun j => a 56 j rfl) (fun j => a 58 j rfl) (a 0 13 rfl) (a 0 14 rfl)
theorem pI_fr {S S1 : Tr} (h : pI S) (e39 : ∀ j, S1 39 j = S 39 j) (e40 : ∀ j, S1 40 j = S 40 j) (e41 : ∀ j, S1 41 j = S 41 j) (e36 : ∀ j, S1 36 j = S 36 j) (e38 : ∀ j, S1 38 j = S 38 j) (e30 : ∀ j, S1 30 j = S 30 j) (e29 : ∀ j, S1 29 j = S 29 j) (e13 : S1 0 13 = S 0 13) (e14 : S1 0 14 = S 0 14) : pI S1 := by
  obtain ⟨h1, h2, h3, h4⟩ := h
  refine ⟨fun k => ?_, fun w hw q => ?_, fun i hi q => ?_, fun p hp q => ?_⟩
  · unfold nodeOK; rw [e39, e40, e41]; exact h1 k
  · rw [e36] at q; rw [e38]; exact h2 w hw q
  · rw [e14] at q; rw [e30, e13]; exact h3 i hi q
  · rw [e13] at q; rw [e29]; exact h4 p hp q
theorem pI_aT {S S1 : Tr} (h : pI S) (a : aT S S1) : pI S1 := pI_fr h (fun j => a 39 j rfl) (fun j => a 40 j rfl) (fun j => a 41 j rfl) (fun j => a 36 j rfl) (fun j => a 38 j rfl) (fun j => a 30 j rfl) (fun j => a 29 j rfl) (a 0 13 rfl) (a 0 14 rfl)
theorem pI_aG {b : Nat} {S S1 : Tr} (h : pI S) (a : aG b S S1) : pI S1 := pI_fr h (fun j => a 39 j rfl) (fun j => a 40 j rfl) (fun j => a 41 j rfl) (fun j => a 36 j rfl) (fun j => a 38 j rfl) (fun j => a 30 j rfl) (fun j => a 29 j rfl) (a 0 13 rfl) (a 0 14 rfl)
/-- what lies in a stack lies somewhere -/
theorem sk_ly {S : Tr} {x1 p k r : Int32} (hg : gS x1.toNatClampNeg S) (hS : iR BM S) (hx1 : 0 ≤ x1.toInt ∧ x1.toInt ≤ 1) (hp : 0 ≤ p.toInt ∧ p.toInt ≤ 4) (hk : 0 ≤ k.toInt) (hm : k.toInt < (S 56 (((5 : Int32) * x1) + p).toNatClampNeg).toInt) (hr : r = S 55 (50 * x1.toNatClampNeg + 10 * p.toNatClampNeg + k.toNatClampNeg)) : 0 ≤ (S 54 (((10 : Int32) * x1) + r).toNatClampNeg).toInt ∧ r.toInt < (S 0 14).toInt := by
  have b5 := BM55 hS (50 * x1.toNatClampNeg + 10 * p.toNatClampNeg + k.toNatClampNeg)
  rw [← hr] at b5
  obtain ⟨e1, e2⟩ := ix1 (c := 10) (x := x1) (y := r) 10 (by decide) (by decide) hx1 ⟨by omega, by omega⟩
  obtain ⟨e3, e4⟩ := ix1 (c := 5) (x := x1) (y := p) 5 (by decide) (by decide) hx1 ⟨by omega, by omega⟩
  rw [e4] at hm
  have c2 : p.toNatClampNeg = p.toInt.toNat := rfl
  have c3 : k.toNatClampNeg = k.toInt.toNat := rfl
  have h1 := hg.1 p.toNatClampNeg k.toNatClampNeg (by omega) (by unfold mnM; omega)
  unfold skM lyM at h1
  rw [← hr] at h1
  rw [e2, i_cl (i := r)]
  exact ⟨by rw [h1.1]; omega, h1.2⟩
theorem ly_of {S : Tr} {x1 x2 : Int32} (hg : gI x1.toNatClampNeg S) (hx1 : 0 ≤ x1.toInt ∧ x1.toInt ≤ 1) (hx2 : 0 ≤ x2.toInt ∧ x2.toInt ≤ 9) (h : S 53 (((10 : Int32) * x1) + x2).toNatClampNeg = 1) : 0 ≤ (S 54 (((10 : Int32) * x1) + x2).toNatClampNeg).toInt := by
  obtain ⟨e1, e2⟩ := ix1 (c := 10) (x := x1) (y := x2) 10 (by decide) (by decide) hx1 ⟨by omega, by omega⟩
  rw [e2] at h ⊢
  have c2 : x2.toNatClampNeg = x2.toInt.toNat := rfl
  exact (hg.2.1 x2.toNatClampNeg (by omega)).mp h
theorem ab_of {S : Tr} {x1 x2 : Int32} (hS : iR BM S) (hpI : pI S) (hA : gA x1.toNatClampNeg S) (hx1 : 0 ≤ x1.toInt ∧ x1.toInt ≤ 1) (hx2 : 0 ≤ x2.toInt ∧ x2.toInt ≤ 9) (hip : x2.toInt < (S 0 14).toInt) : 1 ≤ (S 58 (((6 : Int32) * x1) + (S 30 x2.toNatClampNeg)).toNatClampNeg).toInt := by
  have hb : (0 : Int) ≤ (S 30 x2.toNatClampNeg).toInt ∧ (S 30 x2.toNatClampNeg).toInt ≤ 5 := hS 30 _
  obtain ⟨e1, e2⟩ := ix1 (c := 6) (x := x1) (y := S 30 x2.toNatClampNeg) 6 (by decide) (by decide) hx1 ⟨by omega, by omega⟩
  have c2 : x2.toNatClampNeg = x2.toInt.toNat := rfl
  have c3 : (S 30 x2.toNatClampNeg).toNatClampNeg = (S 30 x2.toNatClampNeg).toInt.toNat := rfl
  have h3 := hpI.2.2.1 x2.toNatClampNeg (by omega) (by omega)
  rw [e2]
  exact hA _ (by omega) (by omega)
theorem t_X8_takes2 (S : Tr) (x1 x2 x3 : Int32) (hS : iR BM S) (dgI : gI x1.toNatClampNeg S) (hx1 : 0 ≤ x1.toInt ∧ x1.toInt ≤ 1) (hx2 : 0 ≤ x2.toInt ∧ x2.toInt ≤ 9) (hx3 : 0 ≤ x3.toInt ∧ x3.toInt ≤ 5) (hly : 0 ≤ (S 54 (((10 : Int32) * x1) + x2).toNatClampNeg).toInt) (hx31 : ¬ x3.toInt = 1) : D (f_X8_takes S x1 x2 x3) (fun q => iR BM q ∧ gI x1.toNatClampNeg q ∧ aG x1.toNatClampNeg S q ∧ q 62 x1.toNatClampNeg = S 62 x1.toNatClampNeg) :=
  D_mono (t_X8_takes S x1 x2 x3 hS hx1 hx2 hx3 dgI hly) (fun q hq => by
    obtain ⟨pos, e, h1, h2, h3, h4, h5, h6⟩ := hq
    refine ⟨h1, gI_of h2 h3 h4 (by rw [h5]; exact fun z => hx31 (by rw [z]; decide)), h6, ?_⟩
    rw [e, tk_o (by decide) (by decide) (by decide) (by decide)])
theorem t_X8_lays2 (S : Tr) (x1 x2 x3 : Int32) (hS : iR BM S) (dgI : gI x1.toNatClampNeg S) (hx1 : 0 ≤ x1.toInt ∧ x1.toInt ≤ 1) (hx2 : 0 ≤ x2.toInt ∧ x2.toInt ≤ 4) (hx3 : 0 ≤ x3.toInt ∧ x3.toInt ≤ 9) (hc : ¬ S 53 (((10 : Int32) * x1) + x3).toNatClampNeg = 1) (hip : x3.toInt < (S 0 14).toInt) : D (f_X8_lays S x1 x2 x3) (fun q => iR BM q ∧ gI x1.toNatClampNeg q ∧ aG x1.toNatClampNeg S q ∧ q 62 x1.toNatClampNeg = S 62 x1.toNatClampNeg) := by
  obtain ⟨e1, e2⟩ := ix1 (c := 10) (x := x1) (y := x3) 10 (by decide) (by decide) hx1 ⟨by omega, by omega⟩
  rw [e2] at hc
  have c3 : x3.toNatClampNeg = x3.toInt.toNat := rfl
  have hn : lyM S x1.toNatClampNeg x3.toNatClampNeg < 0 := by
    have := (dgI.2.1 x3.toNatClampNeg (by omega)).mpr
    by_cases q : 0 ≤ lyM S x1.toNatClampNeg x3.toNatClampNeg
    · exact absurd (this q) hc
    · omega
  refine D_mono (t_X8_lays S x1 x2 x3 hS hx1 hx2 hx3 ⟨dgI.1, fun i hi _ => dgI.2.1 i hi⟩ dgI.2.2 hn hip) (fun q hq => ?_)
  obtain ⟨e, h1, h2, h3⟩ := hq
  refine ⟨h1, h2, h3, ?_⟩
  rw [e, ls_o (by decide) (by decide) (by decide) (by decide)]
/-- the state of one that lies nowhere -/
theorem gI_53 {S : Tr} {x1 x3 c : Int32} (hg : gI x1.toNatClampNeg S) (hx1 : 0 ≤ x1.toInt ∧ x1.toInt ≤ 1) (hx3 : 0 ≤ x3.toInt ∧ x3.toInt ≤ 9) (h0 : ¬ S 53 (((10 : Int32) * x1) + x3).toNatClampNeg = 1) (hc : ¬ c = 1) : gI x1.toNatClampNeg (st S 53 (((10 : Int32) * x1) + x3).toNatClampNeg c) := by
  obtain ⟨e1, e2⟩ := ix1 (c := 10) (x := x1) (y := x3) 10 (by decide) (by decide) hx1 ⟨by omega, by omega⟩
  rw [e2] at h0 ⊢
  refine ⟨gS_fr hg.1 (fun j => by rw [st_oth (by decide)]) (fun j => by rw [st_oth (by decide)]) (fun j => by rw [st_oth (by decide)]) (by rw [st_oth (by decide)]), fun i hi => ?_, fun p hp hq => ?_⟩
  · have el : lyM (st S 53 (10 * x1.toNatClampNeg + x3.toNatClampNeg) c) x1.toNatClampNeg i = lyM S x1.toNatClampNeg i := by unfold lyM; rw [st_oth (by decide)]
    rw [el]
    by_cases q : i = x3.toNatClampNeg
    · rw [q, st_same]
      exact ⟨fun z => absurd z hc, fun z => absurd ((hg.2.1 x3.toNatClampNeg (by rw [i_cl]; omega)).mpr z) h0⟩
    · rw [st_ne (by omega)]
      exact hg.2.1 i hi
  · rw [st_oth (by decide)] at hq ⊢
    exact hg.2.2 p hp hq
theorem i_mul1 {a b : Int32} (h0 : 0 ≤ a.toInt ∧ a.toInt ≤ 1000000) (h2 : 0 ≤ b.toInt) (h3 : b.toInt ≤ 5) : (1 ≤ a.toInt → 1 ≤ b.toInt → 1 ≤ (a * b).toInt) ∧ (b.toInt = 0 → (a * b).toInt = 0) := by
  have h4 := Int.mul_nonneg h0.1 h2
  have h5 : a.toInt * b.toInt ≤ a.toInt * 5 := Int.mul_le_mul_of_nonneg_left h3 h0.1
  have e : (a * b).toInt = a.toInt * b.toInt := by
    rw [Int32.toInt_mul]
    exact i_bm (by omega) (by omega)
  rw [e]
  refine ⟨fun q1 q2 => ?_, fun q => by rw [q, Int.mul_zero]⟩
  have := Int.mul_le_mul q1 q2 (by omega) (by omega)
  omega
/-! cells that are copied one by one -/
theorem cp_s {S S1 : Tr} {g : Nat → Int32} {a c i : Nat} {x y v : Int32} (h : ∀ j : Nat, (j : Int) < x.toInt → S a (c + j) = g j) (hx : 0 ≤ x.toInt) (hi : i = c + x.toNatClampNeg) (hv : v = g x.toNatClampNeg) (e : S1 a = upd (S a) i v) (hy : y.toInt = x.toInt + 1) : ∀ j : Nat, (j : Int) < y.toInt → S1 a (c + j) = g j := by
  intro j hj
  rw [e]
  unfold upd
  by_cases q : c + j = i
  · rw [if_pos q, hv]
    have : x.toNatClampNeg = j := by omega
    rw [this]
  · rw [if_neg q]
    have hc : x.toNatClampNeg = x.toInt.toNat := rfl
    exact h j (by omega)
theorem Wb_lo {a j n : Nat} (h : (a = 53 ∨ a = 54) ∧ n = 10 ∨ a = 55 ∧ n = 50 ∨ a = 56 ∧ n = 5 ∨ (a = 57 ∨ a = 58 ∨ a = 59 ∨ a = 60) ∧ n = 6 ∨ (a = 61 ∨ a = 62 ∨ a = 63) ∧ n = 1) (hj : j < n) : Wb 1 a j = false := by
  have hb : Nat.ble (n * 1) j = false := by
    cases q : Nat.ble (n * 1) j with
    | false => rfl
    | true => have := Nat.le_of_ble_eq_true q; omega
  rcases h with ⟨e | e, q⟩ | ⟨e, q⟩ | ⟨e, q⟩ | ⟨e | e | e | e, q⟩ | ⟨e | e | e, q⟩ <;> subst e <;> subst q <;> simp [Wb, Wt, inB, hb] <;> decide
/-- what a train has that is laid as the other one -/
theorem gI_lay {S S1 : Tr} (h : gI 0 S) (e53 : ∀ j : Nat, j < 10 → S1 53 (10 + j) = S 53 j) (e54 : ∀ j : Nat, j < 10 → S1 54 (10 + j) = S 54 j) (e55 : ∀ j : Nat, j < 50 → S1 55 (50 + j) = S 55 j) (e56 : ∀ j : Nat, j < 5 → S1 56 (5 + j) = S 56 j) (e58 : ∀ j : Nat, j < 6 → S1 58 (6 + j) = S 58 j) (e13 : S1 0 13 = S 0 13) (e14 : S1 0 14 = S 0 14) (hS : iR BM S) : gI 1 S1 := by
  obtain ⟨⟨h1, h2, h3⟩, h4, h5⟩ := h
  have m10 : ∀ p, mnM S 0 p ≤ 10 := fun p => (BM56 hS _).2
  have a1 : ∀ p, p < 5 → mnM S1 1 p = mnM S 0 p := fun p hp => by unfold mnM; rw [show 5 * 1 + p = 5 + p by omega, e56 p hp, show 5 * 0 + p = p by omega]
  have a2 : ∀ p k, p < 5 → k < 10 → skM S1 1 p k = skM S 0 p k := fun p k hp hk => by unfold skM; rw [show 50 * 1 + 10 * p + k = 50 + (10 * p + k) by omega, e55 _ (by omega), show 50 * 0 + 10 * p + k = 10 * p + k by omega]
  have a3 : ∀ i, i < 10 → lyM S1 1 i = lyM S 0 i := fun i hi => by unfold lyM; rw [show 10 * 1 + i = 10 + i by omega, e54 i hi, show 10 * 0 + i = i by omega]
  have b5 : ∀ p k, 0 ≤ skM S 0 p k ∧ skM S 0 p k ≤ 9 := fun p k => BM55 hS _
  have l5 : ∀ i, lyM S 0 i ≤ 4 := fun i => (BM54 hS _).2
  refine ⟨⟨fun p k hp hk => ?_, fun i p hi hl => ?_, fun p k l hp hk hl e => ?_⟩, fun i hi => ?_, fun p hp hq => ?_⟩
  · rw [a1 p hp] at hk
    have := m10 p
    rw [a2 p k hp (by omega), e14]
    have := b5 p k
    rw [a3 _ (by omega)]
    exact h1 p k hp hk
  · rw [a3 i hi] at hl
    obtain ⟨k, c1, c2⟩ := h2 i p hi hl
    have := l5 i
    have := m10 p
    exact ⟨k, by rw [a1 p (by omega)]; exact c1, by rw [a2 p k (by omega) (by omega)]; exact c2⟩
  · rw [a1 p hp] at hk hl
    have := m10 p
    rw [a2 p k hp (by omega), a2 p l hp (by omega)] at e
    exact h3 p k l hp hk hl e
  · rw [a3 i hi, show 10 * 1 + i = 10 + i by omega, e53 i hi]
    have := h4 i hi
    rw [show 10 * 0 + i = i by omega] at this
    exact this
  · rw [show 6 * 1 + p = 6 + p by omega, e58 p hp]
    rw [e13] at hq
    have := h5 p hp hq
    rw [show 6 * 0 + p = p by omega] at this
    exact this
/-- a train that is empty -/
theorem gI_new {b : Nat} {S : Tr} (e53 : ∀ j : Nat, j < 10 → S 53 (10 * b + j) = 0) (e54 : ∀ j : Nat, j < 10 → S 54 (10 * b + j) = -1) (e56 : ∀ j : Nat, j < 5 → S 56 (5 * b + j) = 0) (e58 : ∀ j : Nat, j < 6 → (j : Int) < (S 0 13).toInt → 1 ≤ (S 58 (6 * b + j)).toInt) : gI b S := by
  refine ⟨⟨fun p k hp hk => ?_, fun i p hi hl => ?_, fun p k l hp hk hl e => ?_⟩, fun i hi => ?_, fun p hp hq => e58 p hp hq⟩
  · unfold mnM at hk; rw [e56 p hp] at hk; exact absurd hk (by show ¬ (k : Int) < 0; omega)
  · unfold lyM at hl; rw [e54 i hi] at hl; exact absurd hl (by show ¬ (-1 : Int) = p; omega)
  · unfold mnM at hk; rw [e56 p hp] at hk; exact absurd hk (by show ¬ (k : Int) < 0; omega)
  · unfold lyM
    rw [e53 i hi, e54 i hi]
    exact ⟨fun q => absurd q (by decide), fun q => absurd q (by decide)⟩
/-! ranks -/
def cG (g : Nat → Int) (v : Int) : Nat → Nat
  | 0 => 0
  | n + 1 => cG g v n + (if v < g n then 1 else 0)
theorem cG_le {g : Nat → Int} {v : Int} : ∀ n, cG g v n ≤ n
  | 0 => Nat.le_refl _
  | n + 1 => by
    have := cG_le (g := g) (v := v) n
    unfold cG
    split <;> omega
theorem cG_lt {g : Nat → Int} {v : Int} {k : Nat} : ∀ n, k < n → g k ≤ v → cG g v n < n
  | 0, h, _ => absurd h (Nat.not_lt_zero _)
  | n + 1, h, hv => by
    unfold cG
    by_cases q : k = n
    · subst q
      rw [if_neg (by omega)]
      have := cG_le (g := g) (v := v) k
      omega
    · have := cG_lt (g := g) (v := v) n (by omega) hv
      split <;> omega
theorem cG_mono {g : Nat → Int} {v w : Int} (h : v ≤ w) : ∀ n, cG g w n ≤ cG g v n
  | 0 => Nat.le_refl _
  | n + 1 => by
    have := cG_mono (g := g) h n
    unfold cG
    split <;> split <;> omega
theorem cG_strict {g : Nat → Int} {v w : Int} {k : Nat} (h : v < w) (hk : g k = w) : ∀ n, k < n → cG g w n < cG g v n
  | 0, q => absurd q (Nat.not_lt_zero _)
  | n + 1, q => by
    unfold cG
    by_cases e : k = n
    · subst e
      have := cG_mono (g := g) (Int.le_of_lt h) k
      rw [if_neg (by omega), if_pos (by omega)]
      omega
    · have := cG_strict h hk n (by omega)
      split <;> split <;> omega
theorem cG_inj {g : Nat → Int} {n k l : Nat} (hk : k < n) (hl : l < n) (e : cG g (g k) n = cG g (g l) n) : g k = g l := by
  rcases Int.lt_trichotomy (g k) (g l) with q | q | q
  · have := cG_strict (k := l) q rfl n hl; omega
  · exact q
  · have := cG_strict (k := k) q rfl n hk; omega
theorem php_on {n : Nat} {f : Nat → Nat} (h1 : ∀ k, k < n → f k < n) (h2 : ∀ k l, k < n → l < n → f k = f l → k = l) : ∀ m, m < n → ∃ k, k < n ∧ f k = m := by
  intro m hm
  by_cases q : ∃ k, k < n ∧ f k = m
  · exact q
  · exfalso
    cases n with
    | zero => omega
    | succ n =>
      have := php n (n + 1) (fun k => if f k < m then f k else f k - 1) (fun k hk => by
        have := h1 k hk
        have : f k ≠ m := fun e => q ⟨k, hk, e⟩
        split <;> omega) (fun k l hk hl e => by
        have a1 : f k ≠ m := fun e => q ⟨k, hk, e⟩
        have a2 : f l ≠ m := fun e => q ⟨l, hl, e⟩
        refine h2 k l hk hl ?_
        split at e <;> split at e <;> omega)
      omega
theorem gI_cong {b b2 : Nat} {S S1 : Tr} (hS : iR BM S) (h : gI b S) (e53 : ∀ j : Nat, j < 10 → S1 53 (10 * b2 + j) = S 53 (10 * b + j)) (e54 : ∀ j : Nat, j < 10 → S1 54 (10 * b2 + j) = S 54 (10 * b + j)) (e55 : ∀ p k : Nat, p < 5 → k < 10 → S1 55 (50 * b2 + 10 * p + k) = S 55 (50 * b + 10 * p + k)) (e56 : ∀ j : Nat, j < 5 → S1 56 (5 * b2 + j) = S 56 (5 * b + j)) (e58 : ∀ j : Nat, j < 6 → S1 58 (6 * b2 + j) = S 58 (6 * b + j)) (e13 : S1 0 13 = S 0 13) (e14 : S1 0 14 = S 0 14) : gI b2 S1 := by
  obtain ⟨⟨h1, h2, h3⟩, h4, h5⟩ := h
  have m10 : ∀ p, mnM S b p ≤ 10 := fun p => (BM56 hS _).2
  have a1 : ∀ p, p < 5 → mnM S1 b2 p = mnM S b p := fun p hp => by unfold mnM; rw [e56 p hp]
  have a2 : ∀ p k, p < 5 → k < 10 → skM S1 b2 p k = skM S b p k := fun p k hp hk => by unfold skM; rw [e55 p k hp hk]
  have a3 : ∀ i, i < 10 → lyM S1 b2 i = lyM S b i := fun i hi => by unfold lyM; rw [e54 i hi]
  have b5 : ∀ p k, 0 ≤ skM S b p k ∧ skM S b p k ≤ 9 := fun p k => BM55 hS _
  have l5 : ∀ i, lyM S b i ≤ 4 := fun i => (BM54 hS _).2
  refine ⟨⟨fun p k hp hk => ?_, fun i p hi hl => ?_, fun p k l hp hk hl e => ?_⟩, fun i hi => ?_, fun p hp hq => ?_⟩
  · rw [a1 p hp] at hk
    have := m10 p
    rw [a2 p k hp (by omega), e14]
    have := b5 p k
    rw [a3 _ (by omega)]
    exact h1 p k hp hk
  · rw [a3 i hi] at hl
    obtain ⟨k, c1, c2⟩ := h2 i p hi hl
    have := l5 i
    have := m10 p
    exact ⟨k, by rw [a1 p (by omega)]; exact c1, by rw [a2 p k (by omega) (by omega)]; exact c2⟩
  · rw [a1 p hp] at hk hl
    have := m10 p
    rw [a2 p k hp (by omega), a2 p l hp (by omega)] at e
    exact h3 p k l hp hk hl e
  · rw [a3 i hi, e53 i hi]
    exact h4 i hi
  · rw [e58 p hp]
    rw [e13] at hq
    exact h5 p hp hq
theorem gI0_G1 {S S1 : Tr} (hS : iR BM S) (h : gI 0 S) (a : aG 1 S S1) : gI 0 S1 := by
  have w : ∀ c j n, ((c = 53 ∨ c = 54) ∧ n = 10 ∨ c = 55 ∧ n = 50 ∨ c = 56 ∧ n = 5 ∨ (c = 57 ∨ c = 58 ∨ c = 59 ∨ c = 60) ∧ n = 6 ∨ (c = 61 ∨ c = 62 ∨ c = 63) ∧ n = 1) → j < n → S1 c j = S c j := fun c j n hc hj => a c j (Wb_lo hc hj)
  exact gI_cong hS h (fun j hj => w 53 _ 10 (by omega) (by omega)) (fun j hj => w 54 _ 10 (by omega) (by omega)) (fun p k hp hk => w 55 _ 50 (by omega) (by omega)) (fun j hj => w 56 _ 5 (by omega) (by omega)) (fun j hj => w 58 _ 6 (by omega) (by omega)) (a 0 13 rfl) (a 0 14 rfl)
theorem ix4 {x c : Int32} {k : Nat} (hx : 0 ≤ x.toInt ∧ x.toInt ≤ 24) (hc : c.toInt = k) (hk : k ≤ 3) : (((4 : Int32) * x) + c).toNatClampNeg = 4 * x.toNatClampNeg + k ∧ ((4 : Int32) * x).toNatClampNeg = 4 * x.toNatClampNeg := by
  have e1 := i_mulL (a := (4 : Int32)) (b := x) 4 (by decide) (by omega) (by omega)
  have e2 := i_add (a := (4 : Int32) * x) (b := c) (by omega) (by omega)
  rw [i_cl, i_cl, i_cl]
  omega
theorem zI_b {S : Tr} {x : Int32} (hS : iR BM S) (hx : 0 ≤ x.toInt ∧ x.toInt ≤ 24) : 0 ≤ (S 81 (((4 : Int32) * x) + 1).toNatClampNeg).toInt ∧ (S 81 (((4 : Int32) * x) + 1).toNatClampNeg).toInt ≤ 23 := by
  rw [(ix4 (c := 1) (k := 1) hx (by decide) (by decide)).1]
  have h := hS 81 (4 * x.toNatClampNeg + 1)
  have e : BM 81 (4 * x.toNatClampNeg + 1) = (0, 23) := by
    show (bif Nat.beq ((4 * x.toNatClampNeg + 1) % 4) 1 then ((0 : Int), (23 : Int)) else fullB) = _
    rw [show (4 * x.toNatClampNeg + 1) % 4 = 1 by omega]
    rfl
  rw [e] at h
  exact h
theorem zI_i {S : Tr} {x : Int32} (h : zI S) (hx : 0 ≤ x.toInt ∧ x.toInt ≤ 24) (h0 : 0 ≤ (S 81 ((4 : Int32) * x).toNatClampNeg).toInt) : (S 81 (((4 : Int32) * x) + 1).toNatClampNeg).toInt ≤ 9 := by
  obtain ⟨e1, e2⟩ := ix4 (c := 1) (k := 1) hx (by decide) (by decide)
  rw [e2] at h0
  rw [e1]
  exact h _ h0
theorem zI_aG {b : Nat} {S S1 : Tr} (h : zI S) (a : aG b S S1) : zI S1 := fun k hk => by
  rw [a 81 _ rfl] at hk ⊢
  exact h k hk
theorem zI_aT {S S1 : Tr} (h : zI S) (a : aT S S1) : zI S1 := fun k hk => by
  rw [a 81 _ rfl] at hk ⊢
  exact h k hk
/-! squares of at most 5 -/
theorem i_sq {a p r : Int32} (ha : 1 ≤ a.toInt ∧ a.toInt ≤ 5) (hp : 0 ≤ p.toInt ∧ p.toInt < a.toInt) (hr : 0 ≤ r.toInt ∧ r.toInt < a.toInt) : 0 ≤ ((a * p) + r).toInt ∧ ((a * p) + r).toInt ≤ 24 ∧ 0 ≤ ((p * a) + r).toInt ∧ ((p * a) + r).toInt ≤ 24 := by
  have e1 : (a * p).toInt = a.toInt * p.toInt ∧ 0 ≤ a.toInt * p.toInt ∧ a.toInt * p.toInt + r.toInt ≤ 24 := by
    rcases (show a.toInt = 1 ∨ a.toInt = 2 ∨ a.toInt = 3 ∨ a.toInt = 4 ∨ a.toInt = 5 by omega) with h | h | h | h | h <;> rw [Int32.toInt_mul, h] <;> refine ⟨i_bm (by omega) (by omega), by omega, by omega⟩
  have e2 : (p * a).toInt = (a * p).toInt := by rw [Int32.mul_comm]
  have e3 := i_add (a := a * p) (b := r) (by omega) (by omega)
  have e4 := i_add (a := p * a) (b := r) (by omega) (by omega)
  omega
theorem i_divsq {g a : Int32} (ha : 1 ≤ a.toInt ∧ a.toInt ≤ 5) (hg : 0 ≤ g.toInt) (h : g.toInt < (a * a).toInt) : 0 ≤ (g / a).toInt ∧ (g / a).toInt < a.toInt ∧ (a * a).toInt ≤ 25 := by
  have e0 := i_div (a := g) (b := a) a.toInt rfl (by omega) hg
  rw [Int32.toInt_mul] at h ⊢
  rw [e0]
  rcases (show a.toInt = 1 ∨ a.toInt = 2 ∨ a.toInt = 3 ∨ a.toInt = 4 ∨ a.toInt = 5 by omega) with q | q | q | q | q <;> rw [q] at h ⊢ <;> rw [i_bm (by omega) (by omega)] at h ⊢ <;> omega
