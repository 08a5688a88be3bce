/-! a text read: the train that is now begins -/
def bgQ (P A : Tr) : Prop := (A 0 0 = 0 ∧ A 0 1 = 0 ∧ A 0 2 = P 0 6 ∧ A 0 3 = P 0 4 ∧ A 0 4 = P 0 5) ∧ (∀ p, p < 6 → A 9 p = P 11 p ∧ A 10 p = P 13 p ∧ A 11 p = 0 ∧ A 12 p = 0) ∧ (∀ i, i < 10 → A 13 i = P 17 i ∧ A 14 i = 0 ∧ A 15 i = -1) ∧ (∀ p, p < 5 → A 17 p = 0 ∧ A 18 p = 0)
theorem e_bgn2 (pa : Nat → Nat) (T P : Tr) (q : Nat) : Ep (f_X6_begin pa T P q) (fun r => bgQ P r.1 ∧ ∀ j, 5 ≤ j → r.1 0 j = T 0 j) := by
  unfold f_X6_begin
  refine Ep_lt (fun T1 e1 => Ep_lt (fun T2 e2 => Ep_lt (fun T3 e3 => Ep_lt (fun T4 e4 => Ep_lt (fun T5 e5 => ?_)))))
  have c0 : T5 0 0 = 0 ∧ T5 0 1 = 0 ∧ T5 0 2 = P 0 6 ∧ T5 0 3 = P 0 4 ∧ T5 0 4 = P 0 5 := ⟨by rw [e5, st_ne (by decide), e4, st_ne (by decide), e3, st_ne (by decide), e2, st_ne (by decide), e1, st_same], by rw [e5, st_ne (by decide), e4, st_ne (by decide), e3, st_ne (by decide), e2, st_same], by rw [e5, st_ne (by decide), e4, st_ne (by decide), e3, st_same], by rw [e5, st_ne (by decide), e4, st_same], by rw [e5, st_same]⟩
  have c5 : ∀ j, 5 ≤ j → T5 0 j = T 0 j := fun j hj => by rw [e5, st_ne (by omega), e4, st_ne (by omega), e3, st_ne (by omega), e2, st_ne (by omega), e1, st_ne (by omega)]
  have l133 : ∀ (N n : Nat) (x : Int32) (A : Tr), x.toInt = n → n ≤ 5 → (∀ j, A 0 j = T5 0 j) → (∀ p, p < 6 → A 9 p = P 11 p ∧ A 10 p = P 13 p ∧ A 11 p = 0 ∧ A 12 p = 0) → (∀ i, i < 10 → A 13 i = P 17 i ∧ A 14 i = 0 ∧ A 15 i = -1) → (∀ p, p < n → A 17 p = 0 ∧ A 18 p = 0) → Ep (lpF (fun _ _ => none) (fB_X6_begin_L133 pa P (pa 0)) N x A) (fun r => bgQ P r.1 ∧ ∀ j, 5 ≤ j → r.1 0 j = T 0 j) := by
    intro N
    induction N with
    | zero => intro n x A _ _ _ _ _ _; exact Ep_none
    | succ N ih =>
      intro n x A hx hn h0 h1 h2 h3
      show Ep (fB_X6_begin_L133 pa P (pa 0) (lpF (fun _ _ => none) (fB_X6_begin_L133 pa P (pa 0)) N) x A) _
      generalize lpF (fun _ _ => none) (fB_X6_begin_L133 pa P (pa 0)) N = k at ih ⊢
      unfold fB_X6_begin_L133
      refine Ep_ite (fun c => ?_) (fun c => ?_)
      · have := tq_le (a := 5) (by decide) hx c
        refine Ep_some ⟨⟨?_, h1, h2, fun p hp => h3 p (by omega)⟩, fun j hj => by show A 0 j = _; rw [h0, c5 j hj]⟩
        show A 0 0 = 0 ∧ A 0 1 = 0 ∧ A 0 2 = P 0 6 ∧ A 0 3 = P 0 4 ∧ A 0 4 = P 0 5
        rw [h0, h0, h0, h0, h0]; exact c0
      · have := tq_len (b := n) (a := 5) (by decide) hx c
        rw [i_cn hx]
        refine Ep_ck (Ep_lt (fun A1 a1 => Ep_lt (fun A2 a2 => Ep_lt (fun y ey => ?_))))
        have z : ∀ a j, ¬ (a = 17 ∨ a = 18) → A2 a j = A a j := fun a j n => by rw [a2, st_no (by omega), a1, st_no (by omega)]
        refine ih (n + 1) y A2 (by rw [ey]; exact i_p1 hx (by omega)) (by omega) (fun j => by rw [z 0 j (by omega)]; exact h0 j) (fun p hp => by rw [z 9 p (by omega), z 10 p (by omega), z 11 p (by omega), z 12 p (by omega)]; exact h1 p hp) (fun i hi => by rw [z 13 i (by omega), z 14 i (by omega), z 15 i (by omega)]; exact h2 i hi) (fun p hp => ?_)
        rcases (by omega : p < n ∨ p = n) with g | rfl
        · rw [a2, st_oth (by omega), st_ne (by omega), a1, st_ne (by omega), st_oth (by omega)]; exact h3 p g
        · exact ⟨by rw [a2, st_oth (by omega), a1, st_same], by rw [a2, st_same]⟩
  have l93 : ∀ (N n : Nat) (x : Int32) (A : Tr), x.toInt = n → n ≤ 10 → (∀ j, A 0 j = T5 0 j) → (∀ p, p < 6 → A 9 p = P 11 p ∧ A 10 p = P 13 p ∧ A 11 p = 0 ∧ A 12 p = 0) → (∀ i, i < n → A 13 i = P 17 i ∧ A 14 i = 0 ∧ A 15 i = -1) → Ep (lpF (fun _ _ => none) (fB_X6_begin_L93 pa P (pa 0)) N x A) (fun r => bgQ P r.1 ∧ ∀ j, 5 ≤ j → r.1 0 j = T 0 j) := by
    intro N
    induction N with
    | zero => intro n x A _ _ _ _ _; exact Ep_none
    | succ N ih =>
      intro n x A hx hn h0 h1 h2
      show Ep (fB_X6_begin_L93 pa P (pa 0) (lpF (fun _ _ => none) (fB_X6_begin_L93 pa P (pa 0)) N) x A) _
      generalize lpF (fun _ _ => none) (fB_X6_begin_L93 pa P (pa 0)) N = k at ih ⊢
      unfold fB_X6_begin_L93
      refine Ep_ite (fun c => ?_) (fun c => ?_)
      · have := tq_le (a := 10) (by decide) hx c
        unfold fL_X6_begin_L133
        exact l133 2000 0 0 A (by decide) (by omega) h0 h1 (fun i hi => h2 i (by omega)) (fun p hp => absurd hp (by omega))
      · have := tq_len (b := n) (a := 10) (by decide) hx c
        rw [i_cn hx]
        refine Ep_ck (Ep_lt (fun A1 a1 => Ep_lt (fun A2 a2 => Ep_lt (fun A3 a3 => Ep_lt (fun y ey => ?_)))))
        have z : ∀ a j, ¬ (13 ≤ a ∧ a ≤ 15) → A3 a j = A a j := fun a j n => by rw [a3, st_no (by omega), a2, st_no (by omega), a1, st_no (by omega)]
        refine ih (n + 1) y A3 (by rw [ey]; exact i_p1 hx (by omega)) (by omega) (fun j => by rw [z 0 j (by omega)]; exact h0 j) (fun p hp => by rw [z 9 p (by omega), z 10 p (by omega), z 11 p (by omega), z 12 p (by omega)]; exact h1 p hp) (fun p hp => ?_)
        rcases (by omega : p < n ∨ p = n) with g | rfl
        · rw [a3, st_oth (by omega), st_oth (by omega), st_ne (by omega), a2, st_oth (by omega), st_ne (by omega), st_oth (by omega), a1, st_ne (by omega), st_oth (by omega), st_oth (by omega)]; exact h2 p g
        · exact ⟨by rw [a3, st_oth (by omega), a2, st_oth (by omega), a1, st_same], by rw [a3, st_oth (by omega), a2, st_same], by rw [a3, st_same]⟩
  have l41 : ∀ (N n : Nat) (x : Int32) (A : Tr), x.toInt = n → n ≤ 6 → (∀ j, A 0 j = T5 0 j) → (∀ p, p < n → A 9 p = P 11 p ∧ A 10 p = P 13 p ∧ A 11 p = 0 ∧ A 12 p = 0) → Ep (lpF (fun _ _ => none) (fB_X6_begin_L41 pa P (pa 0)) N x A) (fun r => bgQ P r.1 ∧ ∀ j, 5 ≤ j → r.1 0 j = T 0 j) := by
    intro N
    induction N with
    | zero => intro n x A _ _ _ _; exact Ep_none
    | succ N ih =>
      intro n x A hx hn h0 h1
      show Ep (fB_X6_begin_L41 pa P (pa 0) (lpF (fun _ _ => none) (fB_X6_begin_L41 pa P (pa 0)) N) x A) _
      generalize lpF (fun _ _ => none) (fB_X6_begin_L41 pa P (pa 0)) N = k at ih ⊢
      unfold fB_X6_begin_L41
      refine Ep_ite (fun c => ?_) (fun c => ?_)
      · have := tq_le (a := 6) (by decide) hx c
        unfold fL_X6_begin_L93
        exact l93 2000 0 0 A (by decide) (by omega) h0 (fun i hi => h1 i (by omega)) (fun p hp => absurd hp (by omega))
      · have := tq_len (b := n) (a := 6) (by decide) hx c
        rw [i_cn hx]
        refine Ep_ck (Ep_lt (fun A1 a1 => Ep_lt (fun A2 a2 => Ep_lt (fun A3 a3 => Ep_lt (fun A4 a4 => Ep_lt (fun y ey => ?_))))))
        have z : ∀ a j, ¬ (9 ≤ a ∧ a ≤ 12) → A4 a j = A a j := fun a j n => by rw [a4, st_no (by omega), a3, st_no (by omega), a2, st_no (by omega), a1, st_no (by omega)]
        refine ih (n + 1) y A4 (by rw [ey]; exact i_p1 hx (by omega)) (by omega) (fun j => by rw [z 0 j (by omega)]; exact h0 j) (fun p hp => ?_)
        rcases (by omega : p < n ∨ p = n) with g | rfl
        · have w : ∀ a, 9 ≤ a → a ≤ 12 → A4 a p = A a p := fun a _ _ => by rw [a4, st_no (by omega), a3, st_no (by omega), a2, st_no (by omega), a1, st_no (by omega)]
          rw [w 9 (by omega) (by omega), w 10 (by omega) (by omega), w 11 (by omega) (by omega), w 12 (by omega) (by omega)]; exact h1 p g
        · exact ⟨by rw [a4, st_oth (by omega), a3, st_oth (by omega), a2, st_oth (by omega), a1, st_same], by rw [a4, st_oth (by omega), a3, st_oth (by omega), a2, st_same], by rw [a4, st_oth (by omega), a3, st_same], by rw [a4, st_same]⟩
  unfold fL_X6_begin_L41
  exact l41 2000 0 0 T5 (by decide) (by omega) (fun _ => rfl) (fun p hp => absurd hp (by omega))
def atQ (b : Nat) (S q : Tr) : Prop := (∀ i, i < 10 → q 53 (10 * b + i) = 0 ∧ q 54 (10 * b + i) = -1) ∧ (∀ p, p < 5 → q 56 (5 * b + p) = 0) ∧ (∀ p, p < 6 → q 57 (6 * b + p) = S 27 p ∧ q 58 (6 * b + p) = S 29 p ∧ q 59 (6 * b + p) = 0 ∧ q 60 (6 * b + p) = 0) ∧ (q 61 b = 0 ∧ q 62 b = 0 ∧ q 63 b = 0) ∧ ∀ a j, ¬ (53 ≤ a ∧ a ≤ 63) → q a j = S a j
theorem e_atF {b : Nat} {S : Tr} {xb : Int32} (hb : xb.toNatClampNeg = b) (hxb : 0 ≤ xb.toInt ∧ xb.toInt ≤ 1) : Ep (f_X8_atFirst S xb) (atQ b S) := by
  have l64 : ∀ (N n : Nat) (x : Int32) (A : Tr), x.toInt = n → n ≤ 6 → (∀ i, i < 10 → A 53 (10 * b + i) = 0 ∧ A 54 (10 * b + i) = -1) → (∀ p, p < 5 → A 56 (5 * b + p) = 0) → (∀ p, p < n → A 57 (6 * b + p) = S 27 p ∧ A 58 (6 * b + p) = S 29 p ∧ A 59 (6 * b + p) = 0 ∧ A 60 (6 * b + p) = 0) → (∀ a j, ¬ (53 ≤ a ∧ a ≤ 63) → A a j = S a j) → Ep (lpF (fun _ _ => none) (fB_X8_atFirst_L64 xb) N x A) (atQ b S) := by
    intro N
    induction N with
    | zero => intro n x A _ _ _ _ _ _; exact Ep_none
    | succ N ih =>
      intro n x A hx hn h1 h2 h3 h4
      show Ep (fB_X8_atFirst_L64 xb (lpF (fun _ _ => none) (fB_X8_atFirst_L64 xb) N) x A) _
      generalize lpF (fun _ _ => none) (fB_X8_atFirst_L64 xb) N = k at ih ⊢
      unfold fB_X8_atFirst_L64
      refine Ep_ite (fun c => ?_) (fun c => ?_)
      · have := tq_le (a := 6) (by decide) hx c
        unfold fJ_X8_atFirst_J134
        rw [hb]
        refine Ep_ck (Ep_lt (fun S5 e5 => Ep_lt (fun S6 e6 => Ep_lt (fun S7 e7 => Ep_some ?_))))
        have z : ∀ a j, ¬ (61 ≤ a ∧ a ≤ 63) → S7 a j = A a j := fun a j n => by rw [e7, st_no (by omega), e6, st_no (by omega), e5, st_no (by omega)]
        refine ⟨fun i hi => by rw [z 53 _ (by omega), z 54 _ (by omega)]; exact h1 i hi, fun p hp => by rw [z 56 _ (by omega)]; exact h2 p hp, fun p hp => by rw [z 57 _ (by omega), z 58 _ (by omega), z 59 _ (by omega), z 60 _ (by omega)]; exact h3 p (by omega), ⟨?_, ?_, ?_⟩, fun a j n => by rw [z a j (by omega)]; exact h4 a j n⟩
        · rw [e7, st_oth (by omega), e6, st_oth (by omega), e5, st_same]
        · rw [e7, st_oth (by omega), e6, st_same]
        · rw [e7, st_same]
      · have := tq_len (b := n) (a := 6) (by decide) hx c
        have j6 : (((6 : Int32) * xb) + x).toNatClampNeg = 6 * b + n := by rw [jx 6 (by decide) (by omega) hxb hx (by omega), hb]
        rw [j6, i_cn hx]
        refine Ep_ck (Ep_ck (Ep_lt (fun S10 e10 => Ep_lt (fun S11 e11 => Ep_lt (fun S12 e12 => Ep_lt (fun S13 e13 => Ep_lt (fun y ey => ?_)))))))
        have z : ∀ a j, ¬ (57 ≤ a ∧ a ≤ 60) → S13 a j = A a j := fun a j n => by rw [e13, st_no (by omega), e12, st_no (by omega), e11, st_no (by omega), e10, st_no (by omega)]
        refine ih (n + 1) y S13 (by rw [ey]; exact i_p1 hx (by omega)) (by omega) (fun i hi => by rw [z 53 _ (by omega), z 54 _ (by omega)]; exact h1 i hi) (fun p hp => by rw [z 56 _ (by omega)]; exact h2 p hp) (fun p hp => ?_) (fun a j n => by rw [z a j (by omega)]; exact h4 a j n)
        rcases (by omega : p < n ∨ p = n) with g | rfl
        · have w : ∀ a, 57 ≤ a → a ≤ 60 → S13 a (6 * b + p) = A a (6 * b + p) := fun a _ _ => by rw [e13, st_no (by omega), e12, st_no (by omega), e11, st_no (by omega), e10, st_no (by omega)]
          rw [w 57 (by omega) (by omega), w 58 (by omega) (by omega), w 59 (by omega) (by omega), w 60 (by omega) (by omega)]; exact h3 p g
        · refine ⟨?_, ?_, ?_, ?_⟩
          · rw [e13, st_oth (by omega), e12, st_oth (by omega), e11, st_oth (by omega), e10, st_same]; exact h4 27 p (by omega)
          · rw [e13, st_oth (by omega), e12, st_oth (by omega), e11, st_same, e10, st_oth (by omega)]; exact h4 29 p (by omega)
          · rw [e13, st_oth (by omega), e12, st_same]
          · rw [e13, st_same]
  have l40 : ∀ (N n : Nat) (x : Int32) (A : Tr), x.toInt = n → n ≤ 5 → (∀ i, i < 10 → A 53 (10 * b + i) = 0 ∧ A 54 (10 * b + i) = -1) → (∀ p, p < n → A 56 (5 * b + p) = 0) → (∀ a j, ¬ (53 ≤ a ∧ a ≤ 63) → A a j = S a j) → Ep (lpF (fun _ _ => none) (fB_X8_atFirst_L40 xb) N x A) (atQ b S) := by
    intro N
    induction N with
    | zero => intro n x A _ _ _ _ _; exact Ep_none
    | succ N ih =>
      intro n x A hx hn h1 h2 h4
      show Ep (fB_X8_atFirst_L40 xb (lpF (fun _ _ => none) (fB_X8_atFirst_L40 xb) N) x A) _
      generalize lpF (fun _ _ => none) (fB_X8_atFirst_L40 xb) N = k at ih ⊢
      unfold fB_X8_atFirst_L40
      refine Ep_ite (fun c => ?_) (fun c => ?_)
      · have := tq_le (a := 5) (by decide) hx c
        unfold fL_X8_atFirst_L64
        exact l64 2000 0 0 A (by decide) (by omega) h1 (fun p hp => h2 p (by omega)) (fun p hp => absurd hp (by omega)) h4
      · have := tq_len (b := n) (a := 5) (by decide) hx c
        have j5 : (((5 : Int32) * xb) + x).toNatClampNeg = 5 * b + n := by rw [jx 5 (by decide) (by omega) hxb hx (by omega), hb]
        rw [j5]
        refine Ep_ck (Ep_lt (fun S16 e16 => Ep_lt (fun y ey => ih (n + 1) y S16 (by rw [ey]; exact i_p1 hx (by omega)) (by omega) (fun i hi => by rw [e16, st_oth (by omega), st_oth (by omega)]; exact h1 i hi) (fun p hp => ?_) (fun a j n => by rw [e16, st_no (by omega)]; exact h4 a j n))))
        rcases (by omega : p < n ∨ p = n) with g | rfl
        · rw [e16, st_ne (by omega)]; exact h2 p g
        · rw [e16, st_same]
  have l2 : ∀ (N n : Nat) (x : Int32) (A : Tr), x.toInt = n → n ≤ 10 → (∀ i, i < n → A 53 (10 * b + i) = 0 ∧ A 54 (10 * b + i) = -1) → (∀ a j, ¬ (53 ≤ a ∧ a ≤ 63) → A a j = S a j) → Ep (lpF (fun _ _ => none) (fB_X8_atFirst_L2 xb) N x A) (atQ b S) := by
    intro N
    induction N with
    | zero => intro n x A _ _ _ _; exact Ep_none
    | succ N ih =>
      intro n x A hx hn h1 h4
      show Ep (fB_X8_atFirst_L2 xb (lpF (fun _ _ => none) (fB_X8_atFirst_L2 xb) N) x A) _
      generalize lpF (fun _ _ => none) (fB_X8_atFirst_L2 xb) N = k at ih ⊢
      unfold fB_X8_atFirst_L2
      refine Ep_ite (fun c => ?_) (fun c => ?_)
      · have := tq_le (a := 10) (by decide) hx c
        unfold fL_X8_atFirst_L40
        exact l40 2000 0 0 A (by decide) (by omega) (fun i hi => h1 i (by omega)) (fun p hp => absurd hp (by omega)) h4
      · have := tq_len (b := n) (a := 10) (by decide) hx c
        have j10 : (((10 : Int32) * xb) + x).toNatClampNeg = 10 * b + n := by rw [jx 10 (by decide) (by omega) hxb hx (by omega), hb]
        rw [j10]
        refine Ep_ck (Ep_lt (fun S19 e19 => Ep_lt (fun S20 e20 => Ep_lt (fun y ey => ih (n + 1) y S20 (by rw [ey]; exact i_p1 hx (by omega)) (by omega) (fun i hi => ?_) (fun a j n => by rw [e20, st_no (by omega), e19, st_no (by omega)]; exact h4 a j n)))))
        rcases (by omega : i < n ∨ i = n) with g | rfl
        · rw [e20, st_oth (by omega), st_ne (by omega), e19, st_ne (by omega), st_oth (by omega)]; exact h1 i g
        · exact ⟨by rw [e20, st_oth (by omega), e19, st_same], by rw [e20, st_same]⟩
  unfold f_X8_atFirst fL_X8_atFirst_L2
  exact l2 2000 0 0 S (by decide) (by omega) (fun i hi => absurd hi (by omega)) (fun _ _ _ => rfl)
/-- a text's first state, in its own rows -/
def bgR (q : Tr × Lo) : Prop := (∀ i, i < 10 → q.1 53 i = 0 ∧ q.1 54 i = -1) ∧ (∀ p, p < 5 → q.1 56 p = 0) ∧ (∀ p, p < 6 → q.1 57 p = q.1 27 p ∧ q.1 58 p = q.1 29 p ∧ q.1 59 p = 0 ∧ q.1 60 p = 0) ∧ (q.1 61 0 = 0 ∧ q.1 62 0 = 0) ∧ (q.1 0 65 = 0 ∧ q.1 0 82 = 0 ∧ q.1 0 84 = 0) ∧ q.2 0 63 = (q.1 23 2).toInt64
theorem k_beg (S : Tr) (L : Lo) : Ep (f_X8_begin S L) bgR := by
  unfold f_X8_begin
  refine Ep_bd (e_atF (b := 0) (xb := 0) (by decide) (by decide)) (fun S1 h1 => Ep_lt (fun L4 e4 => Ep_bd (e_plnT S1) (fun S5 h5 => Ep_lt (fun S8 e8 => Ep_lt (fun S9 e9 => Ep_lt (fun S10 e10 => Ep_lt (fun S11 e11 => Ep_some ?_)))))))
  obtain ⟨a1, a2, a3, ⟨a4, a5, _⟩, a6⟩ := h1
  obtain ⟨p1, p2⟩ := h5
  have g : ∀ a j, ¬ (a = 0 ∧ (78 ≤ j ∧ j ≤ 84)) → S11 a j = S5 a j := fun a j n => by rw [e11, st_no (by omega), e10, st_no (by omega), e9, st_no (by omega), e8, st_no (by omega)]
  have f : ∀ a j, ¬ (a = 0) → ¬ a = 72 → S11 a j = S1 a j := fun a j n1 n2 => (g a j (by omega)).trans (p2 a j (by omega) n2)
  refine ⟨fun i hi => ?_, fun p hp => ?_, fun p hp => ?_, ⟨?_, ?_⟩, ⟨?_, ?_, ?_⟩, ?_⟩
  · show S11 53 i = 0 ∧ S11 54 i = -1
    have x := a1 i hi
    rw [show 10 * 0 + i = i by omega] at x
    rw [f 53 i (by omega) (by omega), f 54 i (by omega) (by omega)]; exact x
  · show S11 56 p = 0
    have x := a2 p hp
    rw [show 5 * 0 + p = p by omega] at x
    rw [f 56 p (by omega) (by omega)]; exact x
  · show S11 57 p = S11 27 p ∧ S11 58 p = S11 29 p ∧ S11 59 p = 0 ∧ S11 60 p = 0
    have x := a3 p hp
    rw [show 6 * 0 + p = p by omega] at x
    rw [f 57 p (by omega) (by omega), f 58 p (by omega) (by omega), f 59 p (by omega) (by omega), f 60 p (by omega) (by omega), f 27 p (by omega) (by omega), f 29 p (by omega) (by omega), a6 27 p (by omega), a6 29 p (by omega)]; exact x
  · show S11 61 0 = 0
    rw [f 61 0 (by omega) (by omega)]; exact a4
  · show S11 62 0 = 0
    rw [f 62 0 (by omega) (by omega)]; exact a5
  · show S11 0 65 = 0
    rw [g 0 65 (by omega)]; exact p1.2.1 65 (by omega) (by omega)
  · show S11 0 82 = 0
    rw [e11, st_ne (by decide), e10, st_same]
  · show S11 0 84 = 0
    rw [e11, st_same]
  · show L4 0 63 = (S11 23 2).toInt64
    rw [f 23 2 (by omega) (by omega), e4, stL_same]
theorem k_kpB (T : Tr) (L : Lo) : Ep (f_X8_keepText T L) bgR := by
  have j164 : ∀ S : Tr, Ep (fJ_X8_keepText_J164 S L) bgR := fun S => by
    unfold fJ_X8_keepText_J164
    exact Ep_any (fun _ => Ep_any (fun _ => Ep_any (fun _ => Ep_any (fun _ => Ep_any (fun S54 => Ep_bd (k_beg S54 L) (fun q hq => Ep_lt (fun S57 e57 => Ep_lt (fun L58 e58 => Ep_some (by rw [e57, e58]; exact hq)))))))))
  have l139 : ∀ (N : Nat) (x : Int32) (S : Tr), Ep (lpF (fun _ _ => none) (fB_X8_keepText_L139 L) N x S) bgR := by
    intro N
    induction N with
    | zero => intro x S; exact Ep_none
    | succ N ih =>
      intro x S
      show Ep (fB_X8_keepText_L139 L (lpF (fun _ _ => none) (fB_X8_keepText_L139 L) N) x S) _
      generalize lpF (fun _ _ => none) (fB_X8_keepText_L139 L) N = k at ih ⊢
      unfold fB_X8_keepText_L139
      exact Ep_ite (fun _ => j164 S) (fun _ => Ep_ck (Ep_ck (Ep_lt (fun S63 _ => Ep_lt (fun y _ => ih y S63)))))
  unfold f_X8_keepText fL_X8_keepText_L139
  exact Ep_lt (fun _ _ => Ep_lt (fun _ _ => Ep_lt (fun _ _ => Ep_lt (fun _ _ => Ep_any (fun _ => Ep_any (fun _ => Ep_any (fun _ => Ep_any (fun _ => Ep_any (fun _ => Ep_any (fun _ => Ep_any (fun _ => Ep_any (fun _ => Ep_any (fun _ => Ep_any (fun _ => Ep_any (fun _ => Ep_any (fun S38 => l139 2000 0 S38))))))))))))))))
