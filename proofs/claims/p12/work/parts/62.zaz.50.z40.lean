/-! an image kept, brought back: the reference's rows, exactly -/
def kpF (S : Tr) (L : Lo) (q : Int32 × Tr × Lo) : Prop := (∀ j, j < 50 → q.2.1 86 j = S 55 j) ∧ (∀ j, j < 5 → q.2.1 86 (50 + j) = S 56 j) ∧ (∀ j, j < 6 → q.2.1 86 (55 + j) = S 58 j) ∧ (∀ j, j < 10 → q.2.1 87 j = S 53 j) ∧ (∀ j, j < 6 → q.2.1 88 j = S 59 j ∧ q.2.1 88 (6 + j) = S 60 j) ∧ (q.2.1 0 88 = S 61 0 ∧ q.2.1 0 89 = S 62 0 ∧ ¬ q.2.1 0 84 = 0) ∧ (q.2.2 0 90 = L 0 63 ∧ q.2.2 0 63 = L 0 63) ∧ q.1 = S 62 0 ∧ ∀ a j, ¬ (86 ≤ a ∧ a ≤ 88) → ¬ (a = 0 ∧ (j = 2 ∨ j = 84 ∨ j = 88 ∨ j = 89)) → q.2.1 a j = S a j
theorem k_kp (S : Tr) (L : Lo) : Ep (f_X8_keep S L) (kpF S L) := by
  unfold f_X8_keep
  refine Ep_lt (fun S1 e1 => Ep_lt (fun S2 e2 => Ep_bd (D_to (t_X8_put_86 S2 0 (by decide))) (fun S3 h3 => ?_)))
  rw [show (0 : Int32).toNatClampNeg = 0 by decide] at h3
  have f2 : ∀ a j, ¬ (a = 0 ∧ (j = 2 ∨ j = 84)) → S2 a j = S a j := fun a j n => by rw [e2, st_no (by omega), e1, st_no (by omega)]
  have n84 : S2 0 84 = 1 := by rw [e2, st_same]
  have f3 : ∀ a j, ¬ a = 86 → S3 a j = S2 a j := fun a j n => by rw [h3, put_o (by omega)]
  have p1 : ∀ j, j < 50 → S3 86 j = S 55 j := fun j hj => by
    have := put_s (z := S2) (A := 86) (o := 0) hj
    rw [Nat.zero_add] at this
    rw [h3, this, f2 55 j (by omega)]
  have p2 : ∀ j, j < 5 → S3 86 (50 + j) = S 56 j := fun j hj => by
    have := put_m (z := S2) (A := 86) (o := 0) (by decide) hj
    rw [Nat.zero_add] at this
    rw [h3, this, f2 56 j (by omega)]
  have p3 : ∀ j, j < 6 → S3 86 (55 + j) = S 58 j := fun j hj => by
    have := put_a (z := S2) (A := 86) (o := 0) (by decide) hj
    rw [Nat.zero_add] at this
    rw [h3, this, f2 58 j (by omega)]
  have l47 : ∀ (N n : Nat) (x : Int32) (S4 : Tr), x.toInt = n → n ≤ 6 → (∀ j, j < 10 → S4 87 j = S 53 j) → (∀ j, j < n → S4 88 j = S 59 j ∧ S4 88 (6 + j) = S 60 j) → (∀ a j, ¬ (a = 87 ∨ a = 88) → S4 a j = S3 a j) → Ep (lpF (fun _ _ => none) (fB_X8_keep_L47 L) N x S4) (kpF S L) := by
    intro N
    induction N with
    | zero => intro n x S4 _ _ _ _ _; exact Ep_none
    | succ N ih =>
      intro n x S4 hx hn h1 h2 h4
      show Ep (fB_X8_keep_L47 L (lpF (fun _ _ => none) (fB_X8_keep_L47 L) N) x S4) _
      generalize lpF (fun _ _ => none) (fB_X8_keep_L47 L) N = k at ih ⊢
      unfold fB_X8_keep_L47
      refine Ep_ite (fun c => ?_) (fun c => ?_)
      · have := tq_le (a := 6) (by decide) hx c
        unfold fJ_X8_keep_J86
        refine Ep_lt (fun S8 e8 => Ep_lt (fun S9 e9 => Ep_lt (fun L10 e10 => Ep_some ?_)))
        have g : ∀ a j, ¬ (a = 0 ∧ (j = 88 ∨ j = 89)) → S9 a j = S4 a j := fun a j n => by rw [e9, st_no (by omega), e8, st_no (by omega)]
        have s61 : S4 61 0 = S 61 0 := by rw [h4 61 0 (by omega), f3 61 0 (by omega), f2 61 0 (by omega)]
        have s62 : S4 62 0 = S 62 0 := by rw [h4 62 0 (by omega), f3 62 0 (by omega), f2 62 0 (by omega)]
        refine ⟨fun j hj => ?_, fun j hj => ?_, fun j hj => ?_, fun j hj => ?_, fun j hj => ?_, ⟨?_, ?_, ?_⟩, ⟨?_, ?_⟩, ?_, fun a j n1 n2 => ?_⟩
        · show S9 86 j = _
          rw [g 86 j (by omega), h4 86 j (by omega)]; exact p1 j hj
        · show S9 86 (50 + j) = _
          rw [g 86 _ (by omega), h4 86 _ (by omega)]; exact p2 j hj
        · show S9 86 (55 + j) = _
          rw [g 86 _ (by omega), h4 86 _ (by omega)]; exact p3 j hj
        · show S9 87 j = _
          rw [g 87 j (by omega)]; exact h1 j hj
        · show S9 88 j = _ ∧ S9 88 (6 + j) = _
          rw [g 88 j (by omega), g 88 (6 + j) (by omega)]; exact h2 j (by omega)
        · show S9 0 88 = _
          rw [e9, st_ne (by decide), e8, st_same, s61]
        · show S9 0 89 = _
          rw [e9, st_same, e8, st_oth (by decide), s62]
        · show ¬ S9 0 84 = 0
          rw [g 0 84 (by omega), h4 0 84 (by omega), f3 0 84 (by omega), n84]; decide
        · show L10 0 90 = _
          rw [e10, stL_same]
        · show L10 0 63 = _
          rw [e10, stL_ne (by decide)]
        · show S9 62 0 = _
          rw [g 62 0 (by omega), s62]
        · show S9 a j = _
          rw [g a j (by omega), h4 a j (by omega), f3 a j (by omega), f2 a j (by omega)]
      · have := tq_len (b := n) (a := 6) (by decide) hx c
        have j6 : ((6 : Int32) + x).toNatClampNeg = 6 + n := jh (by decide) hx (by omega)
        rw [j6, i_cn hx]
        refine Ep_ck (Ep_lt (fun S12 e12 => Ep_ck (Ep_lt (fun S14 e14 => Ep_lt (fun y ey => ?_)))))
        have s59 : S4 59 n = S 59 n := by rw [h4 59 n (by omega), f3 59 n (by omega), f2 59 n (by omega)]
        have s60 : S12 60 n = S 60 n := by rw [e12, st_oth (by omega), h4 60 n (by omega), f3 60 n (by omega), f2 60 n (by omega)]
        refine ih (n + 1) y S14 (by rw [ey]; exact i_p1 hx (by omega)) (by omega) (fun j hj => ?_) (fun j hj => ?_) (fun a j na => ?_)
        · rw [e14, st_oth (by omega), e12, st_oth (by omega)]; exact h1 j hj
        · rcases (by omega : j < n ∨ j = n) with q | rfl
          · rw [e14, st_ne (by omega), st_ne (by omega), e12, st_ne (by omega), st_ne (by omega)]; exact h2 j q
          · refine ⟨?_, ?_⟩
            · rw [e14, st_ne (by omega), e12, st_same, s59]
            · rw [e14, st_same, s60]
        · rw [e14, st_no (by omega), e12, st_no (by omega)]; exact h4 a j na
  have l21 : ∀ (N n : Nat) (x : Int32) (S4 : Tr), x.toInt = n → n ≤ 10 → (∀ j, j < n → S4 87 j = S 53 j) → (∀ a j, ¬ a = 87 → S4 a j = S3 a j) → Ep (lpF (fun _ _ => none) (fB_X8_keep_L21 L) N x S4) (kpF S L) := by
    intro N
    induction N with
    | zero => intro n x S4 _ _ _ _; exact Ep_none
    | succ N ih =>
      intro n x S4 hx hn h1 h4
      show Ep (fB_X8_keep_L21 L (lpF (fun _ _ => none) (fB_X8_keep_L21 L) N) x S4) _
      generalize lpF (fun _ _ => none) (fB_X8_keep_L21 L) N = k at ih ⊢
      unfold fB_X8_keep_L21
      refine Ep_ite (fun c => ?_) (fun c => ?_)
      · have := tq_le (a := 10) (by decide) hx c
        unfold fL_X8_keep_L47
        exact l47 2000 0 0 S4 (by decide) (by omega) (fun j hj => h1 j (by omega)) (fun j hj => absurd hj (by omega)) (fun a j na => h4 a j (by omega))
      · have := tq_len (b := n) (a := 10) (by decide) hx c
        rw [i_cn hx]
        refine Ep_ck (Ep_ck (Ep_lt (fun S18 e18 => Ep_lt (fun y ey => ?_))))
        have s53 : S4 53 n = S 53 n := by rw [h4 53 n (by omega), f3 53 n (by omega), f2 53 n (by omega)]
        refine ih (n + 1) y S18 (by rw [ey]; exact i_p1 hx (by omega)) (by omega) (fun j hj => ?_) (fun a j na => by rw [e18, st_oth na]; exact h4 a j na)
        rcases (by omega : j < n ∨ j = n) with q | rfl
        · rw [e18, st_ne (by omega)]; exact h1 j q
        · rw [e18, st_same, s53]
  unfold fL_X8_keep_L21
  exact l21 2000 0 0 S3 (by decide) (by omega) (fun j hj => absurd hj (by omega)) (fun _ _ _ => rfl)
/-- brought back -/
def bkF (S : Tr) (L : Lo) (q : Int32 × Tr × Lo) : Prop := (∀ j, j < 50 → q.2.1 55 j = S 86 j) ∧ (∀ j, j < 5 → q.2.1 56 j = S 86 (50 + j)) ∧ (∀ j, j < 6 → q.2.1 58 j = S 86 (55 + j)) ∧ (∀ j, j < 10 → q.2.1 53 j = S 87 j) ∧ (∀ j, j < 6 → q.2.1 59 j = S 88 j ∧ q.2.1 60 j = S 88 (6 + j)) ∧ (q.2.1 61 0 = S 0 88 ∧ q.2.1 62 0 = S 0 89 ∧ q.2.1 0 82 = 0) ∧ (q.2.2 0 63 = L 0 90 ∧ q.2.2 0 90 = L 0 90) ∧ q.1 = S 0 89 ∧ ∀ a j, ¬ (53 ≤ a ∧ a ≤ 62) → ¬ (a = 0 ∧ (j = 2 ∨ j = 82)) → q.2.1 a j = S a j
theorem k_bk {S : Tr} {L : Lo} (hj : jR S) (h84 : ¬ S 0 84 = 0) : Ep (f_X8_back S L) (fun q => bkF S L q ∧ ∀ a j, a = 57 → q.2.1 a j = S a j) := by
  unfold f_X8_back
  refine Ep_lt (fun S1 e1 => ?_)
  have f1 : ∀ a j, ¬ (a = 0 ∧ j = 2) → S1 a j = S a j := fun a j n => by rw [e1, st_no n]
  have hj1 : jR S1 := by rw [e1]; exact jR_thr hj
  have g84 : ¬ S1 0 84 = 0 := by rw [f1 0 84 (by omega)]; exact h84
  rw [if_neg g84]
  have ro := hj1.2.2.2.2.1 g84
  have tk := D_to (t_X8_take_86 S1 0 (fun i => S1 87 i) hj1.1 (by decide) (by decide) (by rw [show (0 : Int32).toNatClampNeg = 0 by decide]; exact ro))
  refine Ep_bd (Ep_and (k_tk86 (S := S1) (x := 0) (o := 0) (by decide) (by omega)) tk) (fun S3 h3 => ?_)
  obtain ⟨⟨p1, p2, p3⟩, _, _, _, _, f3, _⟩ := h3
  have f3' : ∀ a j, ¬ (54 ≤ a ∧ a ≤ 58) → S3 a j = S1 a j := fun a j n => f3 a j (by omega) (by omega) (by omega) (by omega)
  have f57 : ∀ j, S3 57 j = S1 57 j := fun j => f3 57 j (by omega) (by omega) (by omega) (by omega)
  have l51 : ∀ (N n : Nat) (x : Int32) (S4 : Tr), x.toInt = n → n ≤ 6 → (∀ j, j < 10 → S4 53 j = S 87 j) → (∀ j, j < n → S4 59 j = S 88 j ∧ S4 60 j = S 88 (6 + j)) → (∀ a j, ¬ (a = 53 ∨ a = 59 ∨ a = 60) → S4 a j = S3 a j) → Ep (lpF (fun _ _ => none) (fB_X8_back_L51 L) N x S4) (fun q => bkF S L q ∧ ∀ a j, a = 57 → q.2.1 a j = S a j) := by
    intro N
    induction N with
    | zero => intro n x S4 _ _ _ _ _; exact Ep_none
    | succ N ih =>
      intro n x S4 hx hn h1 h2 h4
      show Ep (fB_X8_back_L51 L (lpF (fun _ _ => none) (fB_X8_back_L51 L) N) x S4) _
      generalize lpF (fun _ _ => none) (fB_X8_back_L51 L) N = k at ih ⊢
      unfold fB_X8_back_L51
      refine Ep_ite (fun c => ?_) (fun c => ?_)
      · have := tq_le (a := 6) (by decide) hx c
        unfold fJ_X8_back_J90
        refine Ep_lt (fun S8 e8 => Ep_lt (fun S9 e9 => Ep_lt (fun L10 e10 => Ep_lt (fun S11 e11 => Ep_some ?_))))
        have g : ∀ a j, ¬ (a = 0 ∧ j = 82) → ¬ (a = 61 ∧ j = 0) → ¬ (a = 62 ∧ j = 0) → S11 a j = S4 a j := fun a j n1 n2 n3 => by rw [e11, st_no n1, e9, st_no n3, e8, st_no n2]
        have o : ∀ a j, ¬ (a = 53 ∨ a = 59 ∨ a = 60) → ¬ (54 ≤ a ∧ a ≤ 58) → ¬ (a = 0 ∧ j = 2) → S4 a j = S a j := fun a j n1 n2 n3 => by rw [h4 a j n1, f3' a j n2, f1 a j n3]
        have e88 : S4 0 88 = S 0 88 := o 0 88 (by omega) (by omega) (by omega)
        have e89 : S8 0 89 = S 0 89 := by rw [e8, st_oth (by decide)]; exact o 0 89 (by omega) (by omega) (by omega)
        have e62 : S11 62 0 = S 0 89 := by rw [e11, st_oth (by decide), e9, st_same, e89]
        refine ⟨⟨fun j hj => ?_, fun j hj => ?_, fun j hj => ?_, fun j hj => ?_, fun j hj => ?_, ⟨?_, e62, ?_⟩, ⟨?_, ?_⟩, e62, fun a j n1 n2 => ?_⟩, fun a j ha => ?_⟩
        · show S11 55 j = _
          have := p1 j hj
          rw [Nat.zero_add] at this
          rw [g 55 j (by omega) (by omega) (by omega), h4 55 j (by omega), this, f1 86 _ (by omega)]
        · show S11 56 j = _
          have := p2 j hj
          rw [Nat.zero_add] at this
          rw [g 56 j (by omega) (by omega) (by omega), h4 56 j (by omega), this, f1 86 _ (by omega)]
        · show S11 58 j = _
          have := p3 j hj
          rw [Nat.zero_add] at this
          rw [g 58 j (by omega) (by omega) (by omega), h4 58 j (by omega), this, f1 86 _ (by omega)]
        · show S11 53 j = _
          rw [g 53 j (by omega) (by omega) (by omega)]; exact h1 j hj
        · show S11 59 j = _ ∧ S11 60 j = _
          rw [g 59 j (by omega) (by omega) (by omega), g 60 j (by omega) (by omega) (by omega)]; exact h2 j (by omega)
        · show S11 61 0 = _
          rw [e11, st_oth (by decide), e9, st_oth (by decide), e8, st_same, e88]
        · show S11 0 82 = 0
          rw [e11, st_same]
        · show L10 0 63 = _
          rw [e10, stL_same]
        · show L10 0 90 = _
          rw [e10, stL_ne (by decide)]
        · show S11 a j = _
          rw [g a j (by omega) (by omega) (by omega), o a j (by omega) (by omega) (by omega)]
        · show S11 a j = _
          subst ha
          rw [g 57 j (by omega) (by omega) (by omega), h4 57 j (by omega), f57, f1 57 j (by omega)]
      · have := tq_len (b := n) (a := 6) (by decide) hx c
        have j6 : ((6 : Int32) + x).toNatClampNeg = 6 + n := jh (by decide) hx (by omega)
        rw [j6, i_cn hx]
        refine Ep_ck (Ep_lt (fun S13 e13 => Ep_ck (Ep_lt (fun S15 e15 => Ep_lt (fun y ey => ?_)))))
        have s88 : S4 88 n = S 88 n := by rw [h4 88 n (by omega), f3' 88 n (by omega), f1 88 n (by omega)]
        have s88' : S13 88 (6 + n) = S 88 (6 + n) := by rw [e13, st_oth (by omega), h4 88 _ (by omega), f3' 88 _ (by omega), f1 88 _ (by omega)]
        refine ih (n + 1) y S15 (by rw [ey]; exact i_p1 hx (by omega)) (by omega) (fun j hj => ?_) (fun j hj => ?_) (fun a j na => ?_)
        · rw [e15, st_oth (by omega), e13, st_oth (by omega)]; exact h1 j hj
        · rcases (by omega : j < n ∨ j = n) with q | rfl
          · rw [e15, st_oth (by omega), st_ne (by omega), e13, st_ne (by omega), st_oth (by omega)]; exact h2 j q
          · refine ⟨?_, ?_⟩
            · rw [e15, st_oth (by omega), e13, st_same, s88]
            · rw [e15, st_same, s88']
        · rw [e15, st_no (by omega), e13, st_no (by omega)]; exact h4 a j na
  have l25 : ∀ (N n : Nat) (x : Int32) (S4 : Tr), x.toInt = n → n ≤ 10 → (∀ j, j < n → S4 53 j = S 87 j) → (∀ a j, ¬ a = 53 → S4 a j = S3 a j) → Ep (lpF (fun _ _ => none) (fB_X8_back_L25 L) N x S4) (fun q => bkF S L q ∧ ∀ a j, a = 57 → q.2.1 a j = S a j) := by
    intro N
    induction N with
    | zero => intro n x S4 _ _ _ _; exact Ep_none
    | succ N ih =>
      intro n x S4 hx hn h1 h4
      show Ep (fB_X8_back_L25 L (lpF (fun _ _ => none) (fB_X8_back_L25 L) N) x S4) _
      generalize lpF (fun _ _ => none) (fB_X8_back_L25 L) N = k at ih ⊢
      unfold fB_X8_back_L25
      refine Ep_ite (fun c => ?_) (fun c => ?_)
      · have := tq_le (a := 10) (by decide) hx c
        unfold fL_X8_back_L51
        exact l51 2000 0 0 S4 (by decide) (by omega) (fun j hj => h1 j (by omega)) (fun j hj => absurd hj (by omega)) (fun a j na => h4 a j (by omega))
      · have := tq_len (b := n) (a := 10) (by decide) hx c
        rw [i_cn hx]
        refine Ep_ck (Ep_ck (Ep_lt (fun S18 e18 => Ep_lt (fun y ey => ?_))))
        have s87 : S4 87 n = S 87 n := by rw [h4 87 n (by omega), f3' 87 n (by omega), f1 87 n (by omega)]
        refine ih (n + 1) y S18 (by rw [ey]; exact i_p1 hx (by omega)) (by omega) (fun j hj => ?_) (fun a j na => by rw [e18, st_oth na]; exact h4 a j na)
        rcases (by omega : j < n ∨ j = n) with q | rfl
        · rw [e18, st_ne (by omega)]; exact h1 j q
        · rw [e18, st_same, s87]
  unfold fL_X8_back_L25
  exact l25 2000 0 0 S3 (by decide) (by omega) (fun j hj => absurd hj (by omega)) (fun _ _ _ => rfl)
