/-! the table of words: its blanks are counted -/
def cw (T : Tr) : Nat → Nat
  | 0 => 0
  | n + 1 => cw T n + (if T 4 n = 32 then 1 else 0)
def wK (T : Tr) : Prop := cw T 153 = 29 ∧ T 4 152 = 32
theorem cw_mono {T : Tr} {m : Nat} : ∀ {n : Nat}, m ≤ n → cw T m ≤ cw T n := by
  intro n
  induction n with
  | zero => intro h; have : m = 0 := by omega
            subst this; exact Nat.le_refl _
  | succ n ih =>
    intro h
    rcases Nat.lt_or_ge n m with h1 | h1
    · have : m = n + 1 := by omega
      subst this; exact Nat.le_refl _
    · exact Nat.le_trans (ih h1) (Nat.le_add_right _ _)
theorem cw_28 {T : Tr} (h : wK T) {m : Nat} (hm : m ≤ 152) : cw T m ≤ 28 := by
  have h1 := cw_mono (T := T) hm
  have h2 : cw T 153 = cw T 152 + 1 := by
    show cw T 152 + (if T 4 152 = 32 then 1 else 0) = _
    rw [if_pos h.2]
  have := h.1
  omega
theorem wa57 (S : Tr) (x1 x2 x3 x4 x5 : Int32) (k5 : Int32 → Int32 → Option Int32) (Q : Int32 → Prop) (hx : 0 ≤ x1.toInt ∧ x1.toInt ≤ x2.toInt ∧ x2.toInt ≤ 700) (h45 : 0 ≤ x4.toInt ∧ 0 ≤ x5.toInt ∧ x4.toInt + x5.toInt ≤ 152) (hq : Q x3) (hk : D (k5 (x3 + 1) (x4 + (x5 + 1))) Q) (N : Nat) : ∀ x6 x7 : Int32, 0 ≤ x7.toInt ∧ x7.toInt ≤ x5.toInt → (¬ x6 = 0 → x5.toInt = x2.toInt - x1.toInt) → 200 - x7.toInt < (N : Int) → D (lpF (fun _ _ => none) (fB_X8_wordAt_L57 k5 S x1 x2 x3 x4 x5) N x6 x7) Q := by
  induction N with
  | zero => intro x6 x7 h _ hn; omega
  | succ N ih =>
    intro x6 x7 h h6 hn
    have hJ : D (fJ_X8_wordAt_J104 k5 S x1 x2 x3 x4 x5 x6) Q := by
      unfold fJ_X8_wordAt_J104
      exact D_ite (fun _ => hk) (fun _ => D_some hq)
    show D (fB_X8_wordAt_L57 k5 S x1 x2 x3 x4 x5 (lpF (fun _ _ => none) (fB_X8_wordAt_L57 k5 S x1 x2 x3 x4 x5) N) x6 x7) _
    generalize lpF (fun _ _ => none) (fB_X8_wordAt_L57 k5 S x1 x2 x3 x4 x5) N = k at ih ⊢
    unfold fB_X8_wordAt_L57
    refine D_ite (fun _ => hJ) (fun c => D_ite (fun _ => hJ) (fun c6 => ?_))
    have h5 := h6 c6
    have c1 := tq_len (x := x5) (y := x7) rfl rfl c
    have e1 : (x4 + x7).toInt = x4.toInt + x7.toInt := i_add (by omega) (by omega)
    have e2 : (x1 + x7).toInt = x1.toInt + x7.toInt := i_add (by omega) (by omega)
    have e3 : (x7 + 1).toInt = x7.toInt + 1 := i_addK rfl (show (1 : Int32).toInt = 1 by decide) (by omega) (by omega)
    refine D_ck (okI_of (by omega) (by omega)) (D_ck (okI_of (by omega) (by omega)) (D_ite (fun _ => ?_) (fun _ => ?_)))
    · exact ih 1 (x7 + 1) ⟨by omega, by omega⟩ (fun _ => h5) (by omega)
    · exact ih 0 (x7 + 1) ⟨by omega, by omega⟩ (fun hz => absurd rfl hz) (by omega)
theorem wa18 (S : Tr) (hw : wK S) (x1 x2 x3 x4 : Int32) (k5 : Int32 → Int32 → Option Int32) (Q : Int32 → Prop) (hx : 0 ≤ x1.toInt ∧ x1.toInt ≤ x2.toInt ∧ x2.toInt ≤ 700) (h4 : 0 ≤ x4.toInt) (hq : Q x3) (hk : ∀ x5 : Int32, 0 ≤ x5.toInt → x4.toInt + x5.toInt ≤ 152 → (cw S ((x4.toInt + x5.toInt).toNat + 1) : Int) = x3.toInt + 1 → D (k5 (x3 + 1) (x4 + (x5 + 1))) Q) (N : Nat) : ∀ x5 : Int32, 0 ≤ x5.toInt ∧ x4.toInt + x5.toInt ≤ 152 → (cw S (x4.toInt + x5.toInt).toNat : Int) = x3.toInt → 200 - x5.toInt < (N : Int) → D (lpF (fun _ => none) (fB_X8_wordAt_L18 k5 S x1 x2 x3 x4) N x5) Q := by
  induction N with
  | zero => intro x5 h _ hn; omega
  | succ N ih =>
    intro x5 h hc hn
    show D (fB_X8_wordAt_L18 k5 S x1 x2 x3 x4 (lpF (fun _ => none) (fB_X8_wordAt_L18 k5 S x1 x2 x3 x4) N) x5) _
    generalize lpF (fun _ => none) (fB_X8_wordAt_L18 k5 S x1 x2 x3 x4) N = k at ih ⊢
    unfold fB_X8_wordAt_L18
    have e1 : (x4 + x5).toInt = x4.toInt + x5.toInt := i_add (by omega) (by omega)
    have e2 : (x4 + x5).toNatClampNeg = (x4.toInt + x5.toInt).toNat := by rw [i_cl, e1]
    have e3 : (x5 + 1).toInt = x5.toInt + 1 := i_addK rfl (show (1 : Int32).toInt = 1 by decide) (by omega) (by omega)
    refine D_ck (okI_of (by omega) (by omega)) (D_ite (fun c => ?_) (fun c => ?_))
    · rw [e2] at c
      have c1 : cw S ((x4.toInt + x5.toInt).toNat + 1) = cw S (x4.toInt + x5.toInt).toNat + 1 := by
        show cw S (x4.toInt + x5.toInt).toNat + (if S 4 (x4.toInt + x5.toInt).toNat = 32 then 1 else 0) = _
        rw [if_pos c]
      have hk5 := hk x5 h.1 h.2 (by rw [c1]; omega)
      unfold fJ_X8_wordAt_J39
      refine D_ite (fun c => ?_) (fun c => ?_)
      · have e4 : (x2 - x1).toInt = x2.toInt - x1.toInt := i_sub (by omega) (by omega)
        exact wa57 S x1 x2 x3 x4 x5 k5 Q hx ⟨h4, h.1, h.2⟩ hq hk5 2000 1 0 ⟨by decide, h.1⟩ (fun _ => by rw [← e4, c]) (by decide)
      · exact wa57 S x1 x2 x3 x4 x5 k5 Q hx ⟨h4, h.1, h.2⟩ hq hk5 2000 0 0 ⟨by decide, h.1⟩ (fun hz => absurd rfl hz) (by decide)
    · rw [e2] at c
      have c1 : cw S ((x4.toInt + x5.toInt).toNat + 1) = cw S (x4.toInt + x5.toInt).toNat := by
        show cw S (x4.toInt + x5.toInt).toNat + (if S 4 (x4.toInt + x5.toInt).toNat = 32 then 1 else 0) = _
        rw [if_neg c]; rfl
      have c2 : ¬ x4.toInt + x5.toInt = 152 := fun hz => c (by rw [hz]; exact hw.2)
      exact ih (x5 + 1) ⟨by omega, by omega⟩ (by rw [e3, show (x4.toInt + (x5.toInt + 1)).toNat = (x4.toInt + x5.toInt).toNat + 1 by omega, c1]; exact hc) (by omega)
theorem wa5 (S : Tr) (hw : wK S) (x1 x2 : Int32) (hx : 0 ≤ x1.toInt ∧ x1.toInt ≤ x2.toInt ∧ x2.toInt ≤ 700) (N : Nat) : ∀ x3 x4 : Int32, 0 ≤ x4.toInt ∧ x4.toInt ≤ 153 → (cw S x4.toInt.toNat : Int) = x3.toInt → 200 - x4.toInt < (N : Int) → D (lpF (fun _ _ => none) (fB_X8_wordAt_L5 S x1 x2) N x3 x4) (fun q => -1 ≤ q.toInt ∧ q.toInt ≤ 28) := by
  induction N with
  | zero => intro x3 x4 h _ hn; omega
  | succ N ih =>
    intro x3 x4 h hc hn
    show D (fB_X8_wordAt_L5 S x1 x2 (lpF (fun _ _ => none) (fB_X8_wordAt_L5 S x1 x2) N) x3 x4) _
    generalize lpF (fun _ _ => none) (fB_X8_wordAt_L5 S x1 x2) N = k at ih ⊢
    unfold fB_X8_wordAt_L5
    refine D_ite (fun _ => D_some (by decide)) (fun c => ?_)
    have c1 := tq_len (x := (153 : Int32)) (y := x4) rfl rfl c
    have l1 : (153 : Int32).toInt = 153 := by decide
    rw [l1] at c1
    have c2 := cw_28 hw (m := x4.toInt.toNat) (by omega)
    refine wa18 S hw x1 x2 x3 x4 k _ hx h.1 ⟨by omega, by omega⟩ (fun x5 h5 h45 hc5 => ?_) 2000 0 ⟨by decide, by rw [show (0 : Int32).toInt = 0 by decide]; omega⟩ (by rw [show (0 : Int32).toInt = 0 by decide, Int.add_zero]; exact hc) (by decide)
    have e3 : (x5 + 1).toInt = x5.toInt + 1 := i_addK rfl (show (1 : Int32).toInt = 1 by decide) (by omega) (by omega)
    have e4 : (x4 + (x5 + 1)).toInt = x4.toInt + (x5.toInt + 1) := i_addK rfl e3 (by omega) (by omega)
    have e5 : (x3 + 1).toInt = x3.toInt + 1 := i_addK rfl (show (1 : Int32).toInt = 1 by decide) (by omega) (by omega)
    exact ih (x3 + 1) (x4 + (x5 + 1)) ⟨by omega, by omega⟩ (by rw [e4, e5, show (x4.toInt + (x5.toInt + 1)).toNat = (x4.toInt + x5.toInt).toNat + 1 by omega]; exact hc5) (by omega)
theorem t_X8_wordAt (S : Tr) (x1 x2 : Int32) (hw : wK S) (hx : 0 ≤ x1.toInt ∧ x1.toInt ≤ x2.toInt ∧ x2.toInt ≤ 700) : D (f_X8_wordAt S x1 x2) (fun q => -1 ≤ q.toInt ∧ q.toInt ≤ 28) :=
  wa5 S hw x1 x2 hx 2000 0 0 ⟨by decide, by decide⟩ (by rfl) (by decide)
