/-! taken back by the reference: its rows -/
def tkRw (A : Nat) (S q : Tr) (o : Nat) : Prop := (∀ j, j < 50 → q 55 j = S A (o + j)) ∧ (∀ j, j < 5 → q 56 j = S A (o + 50 + j)) ∧ ∀ j, j < 6 → q 58 j = S A (o + 55 + j)
theorem k_tk84 {S : Tr} {x : Int32} {o : Nat} (hx : x.toInt = o) (ho : o ≤ 10000) : Ep (f_X8_take_84 S x) (fun q => tkRw 84 S q o) := by
  have x50 : (x + 50).toInt = ((o + 50 : Nat) : Int) := by rw [i_addK hx (y := 50) (by decide) (by omega) (by omega)]; omega
  have x55 : (x + 55).toInt = ((o + 55 : Nat) : Int) := by rw [i_addK hx (y := 55) (by decide) (by omega) (by omega)]; omega
  have l103 : ∀ (N : Nat) (y : Int32) (S1 : Tr), tkRw 84 S S1 o → Ep (lpF (fun _ _ => none) (fB_X8_take_84_L103) N y S1) (fun q => tkRw 84 S q o) := by
    intro N
    induction N with
    | zero => intro y S1 _; exact Ep_none
    | succ N ih =>
      intro y S1 h
      show Ep (fB_X8_take_84_L103 (lpF (fun _ _ => none) (fB_X8_take_84_L103) N) y S1) _
      generalize lpF (fun _ _ => none) (fB_X8_take_84_L103) N = k at ih ⊢
      unfold fB_X8_take_84_L103
      refine Ep_ite (fun _ => Ep_some h) (fun _ => Ep_ck (Ep_ite (fun _ => Ep_lt (fun y2 _ => ih y2 S1 h)) (fun _ => Ep_ck (Ep_ck (Ep_lt (fun S2 e2 => Ep_lt (fun y2 _ => ih y2 S2 ?_)))))))
      exact ⟨fun j hj => by rw [e2, st_oth (by omega)]; exact h.1 j hj, fun j hj => by rw [e2, st_oth (by omega)]; exact h.2.1 j hj, fun j hj => by rw [e2, st_oth (by omega)]; exact h.2.2 j hj⟩
  have l82 : ∀ (N : Nat) (y : Int32) (S1 : Tr), tkRw 84 S S1 o → Ep (lpF (fun _ _ => none) (fB_X8_take_84_L82) N y S1) (fun q => tkRw 84 S q o) := by
    intro N
    induction N with
    | zero => intro y S1 _; exact Ep_none
    | succ N ih =>
      intro y S1 h
      show Ep (fB_X8_take_84_L82 (lpF (fun _ _ => none) (fB_X8_take_84_L82) N) y S1) _
      generalize lpF (fun _ _ => none) (fB_X8_take_84_L82) N = k at ih ⊢
      unfold fB_X8_take_84_L82
      refine Ep_ite (fun _ => ?_) (fun _ => Ep_ck (Ep_lt (fun S2 e2 => Ep_lt (fun y2 _ => ih y2 S2 ?_))))
      · unfold fL_X8_take_84_L103
        exact l103 2000 0 S1 h
      · exact ⟨fun j hj => by rw [e2, st_oth (by omega)]; exact h.1 j hj, fun j hj => by rw [e2, st_oth (by omega)]; exact h.2.1 j hj, fun j hj => by rw [e2, st_oth (by omega)]; exact h.2.2 j hj⟩
  have l54 : ∀ (N n : Nat) (y : Int32) (S1 : Tr), y.toInt = n → n ≤ 6 → (∀ j, S1 84 j = S 84 j) → (∀ j, j < 50 → S1 55 j = S 84 (o + j)) → (∀ j, j < 5 → S1 56 j = S 84 (o + 50 + j)) → (∀ j, j < n → S1 58 j = S 84 (o + 55 + j)) → Ep (lpF (fun _ _ => none) (fB_X8_take_84_L54 x) N y S1) (fun q => tkRw 84 S q o) := by
    intro N
    induction N with
    | zero => intro n y S1 _ _ _ _ _ _; exact Ep_none
    | succ N ih =>
      intro n y S1 hy hn hA h1 h2 h3
      show Ep (fB_X8_take_84_L54 x (lpF (fun _ _ => none) (fB_X8_take_84_L54 x) N) y S1) _
      generalize lpF (fun _ _ => none) (fB_X8_take_84_L54 x) N = k at ih ⊢
      unfold fB_X8_take_84_L54
      refine Ep_ite (fun c => ?_) (fun c => Ep_ck (Ep_ck (Ep_lt (fun S2 e2 => Ep_lt (fun y2 ey => ?_)))))
      · have := tq_le (a := 6) (by decide) hy c
        unfold fL_X8_take_84_L82
        exact l82 2000 0 S1 ⟨h1, h2, fun j hj => h3 j (by omega)⟩
      · have := tq_len (b := n) (a := 6) (by decide) hy c
        rw [i_cn hy, jh x55 hy (by omega), hA] at e2
        refine ih (n + 1) y2 S2 (by rw [ey]; exact i_p1 hy (by omega)) (by omega) (fun j => by rw [e2, st_oth (by omega)]; exact hA j) (fun j hj => by rw [e2, st_oth (by omega)]; exact h1 j hj) (fun j hj => by rw [e2, st_oth (by omega)]; exact h2 j hj) (fun j hj => ?_)
        rcases (by omega : j < n ∨ j = n) with g | rfl
        · rw [e2, st_ne (by omega)]; exact h3 j g
        · rw [e2, st_same]
  have l27 : ∀ (N n : Nat) (y : Int32) (S1 : Tr), y.toInt = n → n ≤ 5 → (∀ j, S1 84 j = S 84 j) → (∀ j, j < 50 → S1 55 j = S 84 (o + j)) → (∀ j, j < n → S1 56 j = S 84 (o + 50 + j)) → Ep (lpF (fun _ _ => none) (fB_X8_take_84_L27 x) N y S1) (fun q => tkRw 84 S q o) := by
    intro N
    induction N with
    | zero => intro n y S1 _ _ _ _ _; exact Ep_none
    | succ N ih =>
      intro n y S1 hy hn hA h1 h2
      show Ep (fB_X8_take_84_L27 x (lpF (fun _ _ => none) (fB_X8_take_84_L27 x) N) y S1) _
      generalize lpF (fun _ _ => none) (fB_X8_take_84_L27 x) N = k at ih ⊢
      unfold fB_X8_take_84_L27
      refine Ep_ite (fun c => ?_) (fun c => Ep_ck (Ep_ck (Ep_lt (fun S2 e2 => Ep_lt (fun y2 ey => ?_)))))
      · have := tq_le (a := 5) (by decide) hy c
        unfold fL_X8_take_84_L54
        exact l54 2000 0 0 S1 (by decide) (by omega) hA h1 (fun j hj => h2 j (by omega)) (fun j hj => absurd hj (by omega))
      · have := tq_len (b := n) (a := 5) (by decide) hy c
        rw [i_cn hy, jh x50 hy (by omega), hA] at e2
        refine ih (n + 1) y2 S2 (by rw [ey]; exact i_p1 hy (by omega)) (by omega) (fun j => by rw [e2, st_oth (by omega)]; exact hA j) (fun j hj => by rw [e2, st_oth (by omega)]; exact h1 j hj) (fun j hj => ?_)
        rcases (by omega : j < n ∨ j = n) with g | rfl
        · rw [e2, st_ne (by omega)]; exact h2 j g
        · rw [e2, st_same]
  have l2 : ∀ (N n : Nat) (y : Int32) (S1 : Tr), y.toInt = n → n ≤ 50 → (∀ j, S1 84 j = S 84 j) → (∀ j, j < n → S1 55 j = S 84 (o + j)) → Ep (lpF (fun _ _ => none) (fB_X8_take_84_L2 x) N y S1) (fun q => tkRw 84 S q o) := by
    intro N
    induction N with
    | zero => intro n y S1 _ _ _ _; exact Ep_none
    | succ N ih =>
      intro n y S1 hy hn hA h1
      show Ep (fB_X8_take_84_L2 x (lpF (fun _ _ => none) (fB_X8_take_84_L2 x) N) y S1) _
      generalize lpF (fun _ _ => none) (fB_X8_take_84_L2 x) N = k at ih ⊢
      unfold fB_X8_take_84_L2
      refine Ep_ite (fun c => ?_) (fun c => Ep_ck (Ep_ck (Ep_lt (fun S2 e2 => Ep_lt (fun y2 ey => ?_)))))
      · have := tq_le (a := 50) (by decide) hy c
        unfold fL_X8_take_84_L27
        exact l27 2000 0 0 S1 (by decide) (by omega) hA (fun j hj => h1 j (by omega)) (fun j hj => absurd hj (by omega))
      · have := tq_len (b := n) (a := 50) (by decide) hy c
        rw [i_cn hy, jh hx hy (by omega), hA] at e2
        refine ih (n + 1) y2 S2 (by rw [ey]; exact i_p1 hy (by omega)) (by omega) (fun j => by rw [e2, st_oth (by omega)]; exact hA j) (fun j hj => ?_)
        rcases (by omega : j < n ∨ j = n) with g | rfl
        · rw [e2, st_ne (by omega)]; exact h1 j g
        · rw [e2, st_same]
  unfold f_X8_take_84 fL_X8_take_84_L2
  exact l2 2000 0 0 S (by decide) (by omega) (fun _ => rfl) (fun j hj => absurd hj (by omega))
theorem k_tk86 {S : Tr} {x : Int32} {o : Nat} (hx : x.toInt = o) (ho : o ≤ 10000) : Ep (f_X8_take_86 S x) (fun q => tkRw 86 S q o) := by
  have x50 : (x + 50).toInt = ((o + 50 : Nat) : Int) := by rw [i_addK hx (y := 50) (by decide) (by omega) (by omega)]; omega
  have x55 : (x + 55).toInt = ((o + 55 : Nat) : Int) := by rw [i_addK hx (y := 55) (by decide) (by omega) (by omega)]; omega
  have l103 : ∀ (N : Nat) (y : Int32) (S1 : Tr), tkRw 86 S S1 o → Ep (lpF (fun _ _ => none) (fB_X8_take_86_L103) N y S1) (fun q => tkRw 86 S q o) := by
    intro N
    induction N with
    | zero => intro y S1 _; exact Ep_none
    | succ N ih =>
      intro y S1 h
      show Ep (fB_X8_take_86_L103 (lpF (fun _ _ => none) (fB_X8_take_86_L103) N) y S1) _
      generalize lpF (fun _ _ => none) (fB_X8_take_86_L103) N = k at ih ⊢
      unfold fB_X8_take_86_L103
      refine Ep_ite (fun _ => Ep_some h) (fun _ => Ep_ck (Ep_ite (fun _ => Ep_lt (fun y2 _ => ih y2 S1 h)) (fun _ => Ep_ck (Ep_ck (Ep_lt (fun S2 e2 => Ep_lt (fun y2 _ => ih y2 S2 ?_)))))))
      exact ⟨fun j hj => by rw [e2, st_oth (by omega)]; exact h.1 j hj, fun j hj => by rw [e2, st_oth (by omega)]; exact h.2.1 j hj, fun j hj => by rw [e2, st_oth (by omega)]; exact h.2.2 j hj⟩
  have l82 : ∀ (N : Nat) (y : Int32) (S1 : Tr), tkRw 86 S S1 o → Ep (lpF (fun _ _ => none) (fB_X8_take_86_L82) N y S1) (fun q => tkRw 86 S q o) := by
    intro N
    induction N with
    | zero => intro y S1 _; exact Ep_none
    | succ N ih =>
      intro y S1 h
      show Ep (fB_X8_take_86_L82 (lpF (fun _ _ => none) (fB_X8_take_86_L82) N) y S1) _
      generalize lpF (fun _ _ => none) (fB_X8_take_86_L82) N = k at ih ⊢
      unfold fB_X8_take_86_L82
      refine Ep_ite (fun _ => ?_) (fun _ => Ep_ck (Ep_lt (fun S2 e2 => Ep_lt (fun y2 _ => ih y2 S2 ?_))))
      · unfold fL_X8_take_86_L103
        exact l103 2000 0 S1 h
      · exact ⟨fun j hj => by rw [e2, st_oth (by omega)]; exact h.1 j hj, fun j hj => by rw [e2, st_oth (by omega)]; exact h.2.1 j hj, fun j hj => by rw [e2, st_oth (by omega)]; exact h.2.2 j hj⟩
  have l54 : ∀ (N n : Nat) (y : Int32) (S1 : Tr), y.toInt = n → n ≤ 6 → (∀ j, S1 86 j = S 86 j) → (∀ j, j < 50 → S1 55 j = S 86 (o + j)) → (∀ j, j < 5 → S1 56 j = S 86 (o + 50 + j)) → (∀ j, j < n → S1 58 j = S 86 (o + 55 + j)) → Ep (lpF (fun _ _ => none) (fB_X8_take_86_L54 x) N y S1) (fun q => tkRw 86 S q o) := by
    intro N
    induction N with
    | zero => intro n y S1 _ _ _ _ _ _; exact Ep_none
    | succ N ih =>
      intro n y S1 hy hn hA h1 h2 h3
      show Ep (fB_X8_take_86_L54 x (lpF (fun _ _ => none) (fB_X8_take_86_L54 x) N) y S1) _
      generalize lpF (fun _ _ => none) (fB_X8_take_86_L54 x) N = k at ih ⊢
      unfold fB_X8_take_86_L54
      refine Ep_ite (fun c => ?_) (fun c => Ep_ck (Ep_ck (Ep_lt (fun S2 e2 => Ep_lt (fun y2 ey => ?_)))))
      · have := tq_le (a := 6) (by decide) hy c
        unfold fL_X8_take_86_L82
        exact l82 2000 0 S1 ⟨h1, h2, fun j hj => h3 j (by omega)⟩
      · have := tq_len (b := n) (a := 6) (by decide) hy c
        rw [i_cn hy, jh x55 hy (by omega), hA] at e2
        refine ih (n + 1) y2 S2 (by rw [ey]; exact i_p1 hy (by omega)) (by omega) (fun j => by rw [e2, st_oth (by omega)]; exact hA j) (fun j hj => by rw [e2, st_oth (by omega)]; exact h1 j hj) (fun j hj => by rw [e2, st_oth (by omega)]; exact h2 j hj) (fun j hj => ?_)
        rcases (by omega : j < n ∨ j = n) with g | rfl
        · rw [e2, st_ne (by omega)]; exact h3 j g
        · rw [e2, st_same]
  have l27 : ∀ (N n : Nat) (y : Int32) (S1 : Tr), y.toInt = n → n ≤ 5 → (∀ j, S1 86 j = S 86 j) → (∀ j, j < 50 → S1 55 j = S 86 (o + j)) → (∀ j, j < n → S1 56 j = S 86 (o + 50 + j)) → Ep (lpF (fun _ _ => none) (fB_X8_take_86_L27 x) N y S1) (fun q => tkRw 86 S q o) := by
    intro N
    induction N with
    | zero => intro n y S1 _ _ _ _ _; exact Ep_none
    | succ N ih =>
      intro n y S1 hy hn hA h1 h2
      show Ep (fB_X8_take_86_L27 x (lpF (fun _ _ => none) (fB_X8_take_86_L27 x) N) y S1) _
      generalize lpF (fun _ _ => none) (fB_X8_take_86_L27 x) N = k at ih ⊢
      unfold fB_X8_take_86_L27
      refine Ep_ite (fun c => ?_) (fun c => Ep_ck (Ep_ck (Ep_lt (fun S2 e2 => Ep_lt (fun y2 ey => ?_)))))
      · have := tq_le (a := 5) (by decide) hy c
        unfold fL_X8_take_86_L54
        exact l54 2000 0 0 S1 (by decide) (by omega) hA h1 (fun j hj => h2 j (by omega)) (fun j hj => absurd hj (by omega))
      · have := tq_len (b := n) (a := 5) (by decide) hy c
        rw [i_cn hy, jh x50 hy (by omega), hA] at e2
        refine ih (n + 1) y2 S2 (by rw [ey]; exact i_p1 hy (by omega)) (by omega) (fun j => by rw [e2, st_oth (by omega)]; exact hA j) (fun j hj => by rw [e2, st_oth (by omega)]; exact h1 j hj) (fun j hj => ?_)
        rcases (by omega : j < n ∨ j = n) with g | rfl
        · rw [e2, st_ne (by omega)]; exact h2 j g
        · rw [e2, st_same]
  have l2 : ∀ (N n : Nat) (y : Int32) (S1 : Tr), y.toInt = n → n ≤ 50 → (∀ j, S1 86 j = S 86 j) → (∀ j, j < n → S1 55 j = S 86 (o + j)) → Ep (lpF (fun _ _ => none) (fB_X8_take_86_L2 x) N y S1) (fun q => tkRw 86 S q o) := by
    intro N
    induction N with
    | zero => intro n y S1 _ _ _ _; exact Ep_none
    | succ N ih =>
      intro n y S1 hy hn hA h1
      show Ep (fB_X8_take_86_L2 x (lpF (fun _ _ => none) (fB_X8_take_86_L2 x) N) y S1) _
      generalize lpF (fun _ _ => none) (fB_X8_take_86_L2 x) N = k at ih ⊢
      unfold fB_X8_take_86_L2
      refine Ep_ite (fun c => ?_) (fun c => Ep_ck (Ep_ck (Ep_lt (fun S2 e2 => Ep_lt (fun y2 ey => ?_)))))
      · have := tq_le (a := 50) (by decide) hy c
        unfold fL_X8_take_86_L27
        exact l27 2000 0 0 S1 (by decide) (by omega) hA (fun j hj => h1 j (by omega)) (fun j hj => absurd hj (by omega))
      · have := tq_len (b := n) (a := 50) (by decide) hy c
        rw [i_cn hy, jh hx hy (by omega), hA] at e2
        refine ih (n + 1) y2 S2 (by rw [ey]; exact i_p1 hy (by omega)) (by omega) (fun j => by rw [e2, st_oth (by omega)]; exact hA j) (fun j hj => ?_)
        rcases (by omega : j < n ∨ j = n) with g | rfl
        · rw [e2, st_ne (by omega)]; exact h1 j g
        · rw [e2, st_same]
  unfold f_X8_take_86 fL_X8_take_86_L2
  exact l2 2000 0 0 S (by decide) (by omega) (fun _ => rfl) (fun j hj => absurd hj (by omega))
/-- a row brought back on both sides -/
theorem rw_back {P T1 q : Tr} {n12 n13 n14 : Int32} {c s : Nat → Int32} (h : rwR P n12 n13 n14 c s) (hS : iR BM q) (hg : gS 0 q) (e14 : q 0 14 = n14) (h12 : 0 ≤ n12.toInt) (h13 : n13.toInt ≤ 6) (h14 : n14.toInt ≤ 10) (t16 : ∀ j, j < 50 → T1 16 j = c j) (t17 : ∀ j, j < 5 → T1 17 j = c (50 + j)) (t18 : ∀ j, j < 5 → T1 18 j = c (55 + j)) (t15 : ∀ j, j < 10 → T1 15 j = c (60 + j)) (t10 : ∀ j, j < 6 → T1 10 j = c (70 + j)) (s55 : ∀ j, j < 50 → q 55 j = s j) (s56 : ∀ j, j < 5 → q 56 j = s (50 + j)) (s58 : ∀ j, j < 6 → q 58 j = s (55 + j)) : stk 0 P T1 q ∧ (∀ i : Nat, (i : Int) < n14.toInt → T1 15 i = q 54 i ∧ (q 54 i).toInt < n12.toInt) ∧ ∀ p : Nat, (p : Int) < n13.toInt → T1 10 p = q 58 p := by
  obtain ⟨h1, h2, h3, h4, h5⟩ := h
  refine ⟨fun p hp => ⟨?_, fun k hk => ?_, ?_⟩, fun i hi => ?_, fun p hp => ?_⟩
  · rw [show 5 * 0 + p = p by omega, t17 p hp, s56 p hp]; exact (h1 p hp).1
  · rw [show 5 * 0 + p = p by omega, s56 p hp] at hk
    have := h1 p hp
    rw [show 50 * 0 + 10 * p + k = 10 * p + k by omega, t16 _ (by omega), s55 _ (by omega)]
    exact h2 p hp k hk
  · have := h1 p hp
    rw [t18 p hp, h3 p hp, t17 p hp]
    refine wsm_cg (fun k hk => ?_)
    rw [this.1, i_cl] at hk
    unfold wgt
    rw [t16 _ (by omega)]
  · have b54 : -1 ≤ (q 54 i).toInt ∧ (q 54 i).toInt ≤ 4 := hS 54 i
    have lt12 : 0 ≤ (q 54 i).toInt → (q 54 i).toInt < n12.toInt := fun c0 => by
      obtain ⟨p, pos, w1, w2, w3, w4, _, _⟩ := wh (b := 0) (i := i) hS hg (by omega) (by rw [show 10 * 0 + i = i by omega]; exact c0)
      rw [show 10 * 0 + i = i by omega] at w2
      rw [show 5 * 0 + p = p by omega, s56 p w1] at w3
      have := (h1 p w1).2.2.2 (by omega)
      omega
    rw [t15 i (by omega)]
    rcases h4 i hi with ⟨a1, a2⟩ | ⟨p, k, a1, a2, a3, a4⟩
    · have neg : ¬ 0 ≤ (q 54 i).toInt := fun c0 => by
        obtain ⟨p, pos, w1, w2, w3, w4, _, w6⟩ := wh (b := 0) (i := i) hS hg (by omega) (by rw [show 10 * 0 + i = i by omega]; exact c0)
        rw [show 5 * 0 + p = p by omega, s56 p w1] at w3
        rw [show 50 * 0 + 10 * p + pos = 10 * p + pos by omega, s55 _ (by omega)] at w4
        exact a2 p w1 pos w3 w4
      have e : q 54 i = -1 := Int32.toInt_inj.mp (by rw [show (-1 : Int32).toInt = -1 by decide]; omega)
      refine ⟨a1.trans e.symm, ?_⟩
      rw [e, show (-1 : Int32).toInt = -1 by decide]
      omega
    · have b := h1 p a1
      obtain ⟨t, t1, t2, t3, t4⟩ := sk_at (b := 0) (p := p) (k := k) hS hg a1 (by rw [show 5 * 0 + p = p by omega, s56 p a1]; exact a2)
      rw [show 50 * 0 + 10 * p + k = 10 * p + k by omega, s55 _ (by omega), a3] at t2
      have ti : t = i := by omega
      subst ti
      rw [show 10 * 0 + t = t by omega] at t4
      have e : c (60 + t) = q 54 t := Int32.toInt_inj.mp (by rw [a4, t4])
      exact ⟨e, lt12 (by omega)⟩
  · rw [t10 p (by omega), s58 p (by omega)]; exact h5 p hp
/-- moved, turned, brought back: what else holds of the train that is now -/
theorem Nw_mv {P T S T1 S1 : Tr} {L : Lo} (h : Nw P T S L) (hI : rI 0 S1) (fT : ∀ a j, ¬ (a = 10 ∨ (15 ≤ a ∧ a ≤ 18)) → T1 a j = T a j) (fS : ∀ a j, a ≠ 54 → a ≠ 55 → a ≠ 56 → a ≠ 58 → a ≠ 74 → a ≠ 84 → ¬ (a = 0 ∧ (j = 2 ∨ j = 82)) → S1 a j = S a j) (h10 : ∀ p : Nat, (p : Int) < (S 0 13).toInt → T1 10 p = S1 58 p) (h15 : ∀ i : Nat, (i : Int) < (S 0 14).toInt → T1 15 i = S1 54 i ∧ (S1 54 i).toInt < (S 0 12).toInt) (hst : stk 0 P T1 S1) : Nw P T1 S1 L := by
  obtain ⟨hS, hK, ⟨d1, d2, d3, d4, d5⟩, hv, n9, n13, nr, nl, na⟩ := h
  have f0 : ∀ j, ¬ (j = 2 ∨ j = 82) → S1 0 j = S 0 j := fun j n => fS 0 j (by omega) (by omega) (by omega) (by omega) (by omega) (by omega) (by omega)
  have f : ∀ a j, a ≠ 0 → a ≠ 54 → a ≠ 55 → a ≠ 56 → a ≠ 58 → a ≠ 74 → a ≠ 84 → S1 a j = S a j := fun a j n0 n1 n2 n3 n4 n5 n6 => fS a j n1 n2 n3 n4 n5 n6 (by omega)
  refine ⟨hI, pK_o hK (fun j h1 h2 => f0 j (by omega)) (fun a j h1 h2 => f a j (by omega) (by omega) (by omega) (by omega) (by omega) (by omega) (by omega)), ⟨?_, ?_, fun p hp => ?_, fun i hi => ?_, hst⟩, ⟨fun i hi => ?_, fun p hp => ?_⟩, fun p hp => ?_, fun i hi => ?_, ?_, ⟨?_, ?_, ?_⟩, fun p hp hq => ?_⟩
  · rw [fT 0 0 (by omega), f 62 0 (by omega) (by omega) (by omega) (by omega) (by omega) (by omega) (by omega)]; exact d1
  · rw [fT 0 1 (by omega), f 61 0 (by omega) (by omega) (by omega) (by omega) (by omega) (by omega) (by omega)]; exact d2
  · rw [f0 13 (by omega)] at hp
    rw [fT 11 p (by omega), fT 12 p (by omega), f 59 _ (by omega) (by omega) (by omega) (by omega) (by omega) (by omega) (by omega), f 60 _ (by omega) (by omega) (by omega) (by omega) (by omega) (by omega) (by omega)]; exact d3 p hp
  · rw [f0 14 (by omega)] at hi
    rw [show 10 * 0 + i = i by omega, fT 14 i (by omega), f 53 i (by omega) (by omega) (by omega) (by omega) (by omega) (by omega) (by omega)]
    have x := d4 i hi
    rw [show 10 * 0 + i = i by omega] at x
    exact ⟨x.1, (h15 i hi).1⟩
  · rw [f0 14 (by omega)] at hi
    have x := hv.1 i hi
    rw [show 10 * 0 + i = i by omega] at x ⊢
    rw [f 53 i (by omega) (by omega) (by omega) (by omega) (by omega) (by omega) (by omega), f 30 i (by omega) (by omega) (by omega) (by omega) (by omega) (by omega) (by omega), f 59 _ (by omega) (by omega) (by omega) (by omega) (by omega) (by omega) (by omega), f0 12 (by omega)]
    exact ⟨x.1, x.2.1, (h15 i hi).2⟩
  · rw [f0 13 (by omega)] at hp
    rw [f 59 _ (by omega) (by omega) (by omega) (by omega) (by omega) (by omega) (by omega), f 57 _ (by omega) (by omega) (by omega) (by omega) (by omega) (by omega) (by omega)]; exact hv.2 p hp
  · rw [f0 13 (by omega)] at hp
    rw [fT 9 p (by omega), f 57 p (by omega) (by omega) (by omega) (by omega) (by omega) (by omega) (by omega)]; exact ⟨(n9 p hp).1, h10 p hp⟩
  · rw [f0 14 (by omega)] at hi
    rw [fT 13 i (by omega), f 33 i (by omega) (by omega) (by omega) (by omega) (by omega) (by omega) (by omega)]; exact n13 i hi
  · rw [fT 0 3 (by omega), fT 0 4 (by omega), fT 0 6 (by omega), fT 0 7 (by omega), f 23 0 (by omega) (by omega) (by omega) (by omega) (by omega) (by omega) (by omega), f 23 1 (by omega) (by omega) (by omega) (by omega) (by omega) (by omega) (by omega)]; exact nr
  · rw [fT 0 2 (by omega)]; exact nl.1
  · rw [fT 0 2 (by omega)]; exact nl.2.1
  · rw [f0 65 (by omega)]; exact nl.2.2
  · rw [f0 13 (by omega)] at hp
    rw [f 62 0 (by omega) (by omega) (by omega) (by omega) (by omega) (by omega) (by omega), f 57 p (by omega) (by omega) (by omega) (by omega) (by omega) (by omega) (by omega)] at hq
    rw [f 59 p (by omega) (by omega) (by omega) (by omega) (by omega) (by omega) (by omega)]; exact na p hp hq
/-! undo -/
def udQ (P : Tr) (L : Lo) (q : Int32 × Tr × Tr) (q' : Int32 × Tr) : Prop := q.1 = q'.1 ∧ Nw P q.2.1 q'.2 L ∧ uR P q.2.2 q'.2
theorem e_X7undo {P Tn C S : Tr} {L : Lo} {pa qa : Nat → Nat} (h : Nw P Tn S L) (hu : uR P C S) (hj : jR S) : E2 (f_X7_undo pa qa Tn C) (f_X8_undo S) (udQ P L) := by
  have h12 : 0 ≤ (S 0 12).toInt ∧ (S 0 12).toInt ≤ 5 := h.1.1 0 12
  have h13 : 0 ≤ (S 0 13).toInt ∧ (S 0 13).toInt ≤ 6 := h.1.1 0 13
  have h14 : 0 ≤ (S 0 14).toInt ∧ (S 0 14).toInt ≤ 10 := h.1.1 0 14
  have hD := D_to (R_undo S hj)
  intro u v eu ev
  have jv := (hD v ev).1
  unfold f_X7_undo at eu
  unfold f_X8_undo at ev
  obtain ⟨h0, m, n, m20, n20, hm, hn, hr⟩ := id hu
  obtain ⟨S1, e1, ev⟩ := tx_lt ev
  have z82 : S1 0 82 = S 0 82 := by rw [← e1, st_ne (by decide)]
  rw [z82] at ev
  by_cases c : C 0 0 = 0
  · rw [if_pos c] at eu
    rw [if_pos (h0.symm.trans c)] at ev
    have eu := tx_1 eu
    have ev := tx_1 ev
    rw [← eu, ← ev]
    refine ⟨rfl, by show Nw P Tn S1 L; rw [← e1]; exact Nw_2 h, ?_⟩
    show uR P C S1
    rw [← e1]
    exact uR_o hu (by rw [st_ne (by decide)]) (fun j h1 h2 => by rw [st_ne (by omega)]) (fun j => by rw [st_oth (by decide)])
  · rw [if_neg c] at eu
    rw [if_neg (fun g => c (h0.trans g))] at ev
    obtain ⟨S3, e3, ev⟩ := tx_lt ev
    obtain ⟨S4, e4, ev⟩ := tx_bd ev
    obtain ⟨w, ew, eu⟩ := tx_bd eu
    have ev := tx_1 ev
    have eu : (w.2 0 0, w.1, w.2) = u := tx_1 eu
    obtain ⟨b1, b2, b3, b4, b5, b6, b7, b8, b9⟩ := k_bb pa qa Tn C hm (by omega) c w ew
    have npos : 1 ≤ n := by
      by_cases g : n = 0
      · exfalso
        exact c (by rw [h0]; exact Int32.toInt_inj.mp (by rw [hn, g]; decide))
      · omega
    have f3 : ∀ a j, ¬ (a = 0 ∧ (j = 2 ∨ j = 82)) → S3 a j = S a j := fun a j q => by rw [← e3, st_no (by omega), ← e1, st_no (by omega)]
    have n3 : (S3 0 82).toInt = ((n - 1 : Nat) : Int) := by
      rw [← e3, st_same, i_subK hn (y := 1) (by decide) (by omega) (by omega)]; omega
    have o3 : ((61 : Int32) * (S3 0 82)).toInt = ((61 * (n - 1) : Nat) : Int) := by
      rw [i_mulL (a := (61 : Int32)) 61 (by decide) (by omega) (by omega), n3]; omega
    obtain ⟨k1, k2, k3⟩ := k_tk84 (S := S3) o3 (by omega) S4 e4
    have hj1 : jR S1 := by rw [← e1]; exact jR_thr hj
    have hB3 : iR BM S3 := by rw [← e3]; exact iR_set hj1.1 (by show (0 : Int) ≤ _; rw [i_subK hn (y := 1) (by decide) (by omega) (by omega)]; omega) (by show _ ≤ (20 : Int); rw [i_subK hn (y := 1) (by decide) (by omega) (by omega)]; omega)
    have ro : rowOK S3 84 (61 * (n - 1)) (fun i => S 53 i) := row_eq (hj.2.2.2.1 (n - 1) (by omega)) (fun p hp => row_b hj.1 (Or.inl rfl) (by omega) hp) (fun j hj2 => f3 84 _ (by omega)) (f3 0 13 (by omega)) (f3 0 14 (by omega)) (fun i hi => rfl)
    have ecl : ((61 : Int32) * (S3 0 82)).toNatClampNeg = 61 * (n - 1) := i_cn o3
    have t4 := D_to (t_X8_take_84 S3 ((61 : Int32) * (S3 0 82)) (fun i => S 53 i) hB3 ⟨by omega, by omega⟩ (by rw [ecl]; omega) (by rw [ecl]; exact ro)) S4 e4
    obtain ⟨t1, t2, _, _, t5, _⟩ := t4
    have f4 : ∀ a j, a ≠ 54 → a ≠ 55 → a ≠ 56 → a ≠ 58 → a ≠ 74 → a ≠ 84 → ¬ (a = 0 ∧ (j = 2 ∨ j = 82)) → S4 a j = S a j := fun a j n1 n2 n3 n4 _ _ n6 => (t5 a j n1 n2 n3 n4).trans (f3 a j n6)
    have row := hr (n - 1) (by omega)
    rw [show (m + 20 - n + (n - 1)) % 20 = (m + 19) % 20 by omega] at row
    obtain ⟨w1, w2, w3⟩ := rw_back (T1 := w.1) (q := S4) row t1 t2 (f4 0 14 (by omega) (by omega) (by omega) (by omega) (by omega) (by omega) (by omega)) h12.1 h13.2 h14.2 (fun j hj => b1 j hj) (fun j hj => (b2 j hj).trans (by show C 3 _ = C 3 _; rw [Nat.add_assoc])) (fun j hj => (b3 j hj).trans (by show C 3 _ = C 3 _; rw [Nat.add_assoc])) (fun j hj => (b4 j hj).trans (by show C 3 _ = C 3 _; rw [Nat.add_assoc])) (fun j hj => (b5 j hj).trans (by show C 3 _ = C 3 _; rw [Nat.add_assoc])) (fun j hj => (k1 j hj).trans (f3 84 _ (by omega))) (fun j hj => (k2 j hj).trans (by rw [f3 84 _ (by omega), Nat.add_assoc])) (fun j hj => (k3 j hj).trans (by rw [f3 84 _ (by omega), Nat.add_assoc]))
    have e82 : S4 0 82 = S3 0 82 := t5 0 82 (by decide) (by decide) (by decide) (by decide)
    have e82' : S3 0 82 = S 0 82 - 1 := by rw [← e3, st_same]
    rw [← ev] at jv
    rw [← eu, ← ev]
    refine ⟨by show w.2 0 0 = S4 0 82; rw [b9, e82, e82', h0], Nw_mv h ⟨jv.1, jv.2.1, jv.2.2.1⟩ (fun a j q => b6 a j q) f4 w3 w2 w1, ?_⟩
    show uR P w.2 S4
    unfold uR
    rw [f4 0 12 (by omega) (by omega) (by omega) (by omega) (by omega) (by omega) (by omega), f4 0 13 (by omega) (by omega) (by omega) (by omega) (by omega) (by omega) (by omega), f4 0 14 (by omega) (by omega) (by omega) (by omega) (by omega) (by omega) (by omega)]
    refine ⟨by rw [b9, e82, e82', h0], (m + 19) % 20, n - 1, by omega, by omega, b8, by rw [e82]; exact n3, fun r q => ?_⟩
    refine rwR_cg (hr r (by omega)) (fun k hk => ?_) (fun k hk => ?_) h13.2 h14.2
    · show w.2 3 (76 * (((m + 19) % 20 + 20 - (n - 1) + r) % 20) + k) = C 3 (76 * ((m + 20 - n + r) % 20) + k)
      rw [b7, show ((m + 19) % 20 + 20 - (n - 1) + r) % 20 = (m + 20 - n + r) % 20 by omega]
    · show S4 84 _ = S 84 _
      rw [t5 84 _ (by decide) (by decide) (by decide) (by decide), f3 84 _ (by omega)]
/-! help -/
theorem e_isPs {P S : Tr} {pa qa : Nat → Nat} {q4 : Nat} {x : Int32} (h : P 0 1 = S 0 13) : E2 (f_X7_isPerson pa qa P q4 x) (f_X8_isPerson S x) (fun r r' => r = r' ∧ (r' = 0 ∨ (r' = 1 ∧ 0 ≤ x.toInt ∧ x.toInt < (S 0 13).toInt))) := by
  unfold f_X7_isPerson f_X8_isPerson
  rw [h]
  refine E2_it Iff.rfl (fun _ _ => E2_some ⟨rfl, Or.inl rfl⟩) (fun c _ => E2_ckl (fun _ => E2_it Iff.rfl (fun _ _ => E2_some ⟨rfl, Or.inl rfl⟩) (fun d _ => E2_some ⟨rfl, Or.inr ⟨rfl, tq_ltn (x := x) (y := 0) (b := 0) rfl (by decide) c, tq_len rfl rfl d⟩⟩)))
theorem e_isPc {P S : Tr} {pa qa : Nat → Nat} {q4 : Nat} {x : Int32} (h : P 0 2 = S 0 14) : E2 (f_X7_isPiece pa qa P q4 x) (f_X8_isPiece S x) (fun r r' => r = r' ∧ (r' = 0 ∨ (r' = 1 ∧ 0 ≤ x.toInt ∧ x.toInt < (S 0 14).toInt))) := by
  unfold f_X7_isPiece f_X8_isPiece
  rw [h]
  refine E2_it Iff.rfl (fun _ _ => E2_some ⟨rfl, Or.inl rfl⟩) (fun c _ => E2_ckl (fun _ => E2_it Iff.rfl (fun _ _ => E2_some ⟨rfl, Or.inl rfl⟩) (fun d _ => E2_some ⟨rfl, Or.inr ⟨rfl, tq_ltn (x := x) (y := 0) (b := 0) rfl (by decide) c, tq_len rfl rfl d⟩⟩)))
theorem e_isPl {P S : Tr} {pa qa : Nat → Nat} {q4 : Nat} {x : Int32} (h : P 0 0 = S 0 12) : E2 (f_X7_isPlace pa qa P q4 x) (f_X8_isPlace S x) (fun r r' => r = r' ∧ (r' = 0 ∨ (r' = 1 ∧ 0 ≤ x.toInt ∧ x.toInt < (S 0 12).toInt))) := by
  unfold f_X7_isPlace f_X8_isPlace
  rw [h]
  refine E2_it Iff.rfl (fun _ _ => E2_some ⟨rfl, Or.inl rfl⟩) (fun c _ => E2_ckl (fun _ => E2_it Iff.rfl (fun _ _ => E2_some ⟨rfl, Or.inl rfl⟩) (fun d _ => E2_some ⟨rfl, Or.inr ⟨rfl, tq_ltn (x := x) (y := 0) (b := 0) rfl (by decide) c, tq_len rfl rfl d⟩⟩)))
theorem uR_2 {P C S : Tr} {v : Int32} (h : uR P C S) : uR P C (st S 0 2 v) := uR_o h (by rw [st_ne (by decide)]) (fun j h1 h2 => by rw [st_ne (by omega)]) (fun j => by rw [st_oth (by decide)])
theorem Nw_rem {P T S q : Tr} {L : Lo} {n : Nat} (h : Nw P T S L) (hq : remQ S q n) (hI : rI 0 q) : Nw P T q L := Nw_of h hI (fun a j c => hq.2.2 a j (fun e => by subst e; unfold h0c at c; omega) (fun e => by obtain ⟨e1, e2⟩ := e; subst e1 e2; unfold h0c at c; omega)) ((hq.2.2 0 65 (by decide) (by omega)).trans h.2.2.2.2.2.2.2.1.2.2) rfl
theorem e_X7help {P Tn C S : Tr} {L : Lo} {pa qa : Nat → Nat} {q4 : Nat} {x1 x2 : Int32} (h : Nw P Tn S L) (hu : uR P C S) (hj : jR S) : E2 (f_X7_help pa qa P Tn C q4 x1 x2) (f_X8_help S x1 x2) (udQ P L) := by
  have hD := D_to (R_help S x1 x2 hj)
  intro u v eu ev
  have jv := (hD v ev).1
  have main : jR v.2 → E2 (f_X7_help pa qa P Tn C q4 x1 x2) (f_X8_help S x1 x2) (fun q q' => q' = v → udQ P L q q') := fun jv => by
    unfold f_X7_help f_X8_help
    refine E2_ltr (fun S1 e1 => ?_)
    have hN : Nw P Tn S1 L := by rw [e1]; exact Nw_2 h
    have hU : uR P C S1 := by rw [e1]; exact uR_2 hu
    have hj1 : jR S1 := by rw [e1]; exact jR_thr hj
    have b13 : 0 ≤ (S1 0 13).toInt ∧ (S1 0 13).toInt ≤ 6 := hN.1.1 0 13
    have no : udQ P L (0, Tn, C) (0, S1) := ⟨rfl, hN, hU⟩
    refine E2_bd (e_isPs hN.2.1.1.2.1) (fun r r' hr => ?_)
    obtain ⟨rfl, hr⟩ := hr
    refine E2_it Iff.rfl (fun _ _ => E2_some (fun _ => no)) (fun n _ => ?_)
    obtain ⟨_, x0, x13⟩ := hr.resolve_left n
    obtain ⟨p, hp⟩ : ∃ p : Nat, x1.toInt = p := ⟨x1.toInt.toNat, by omega⟩
    by_cases c1 : x2 < 1
    · rw [if_pos c1, isIn_0 (Or.inl c1)]
      exact E2_sr (E2_pr rfl (E2_some (fun _ => no)))
    rw [if_neg c1]
    by_cases c2 : (99 : Int32) < x2
    · rw [if_pos c2, isIn_0 (Or.inr c2)]
      exact E2_sr (E2_pr rfl (E2_some (fun _ => no)))
    rw [if_neg c2, isIn_1 c1 c2]
    refine E2_sr (E2_qr (by decide) (E2_ckl (fun _ => E2_ckr (fun _ => ?_))))
    rw [i_cn hp, (hN.2.2.2.2.1 p (by omega)).2]
    refine E2_it Iff.rfl (fun _ _ => E2_some (fun _ => no)) (fun _ _ => ?_)
    obtain ⟨h0, m, n, m20, n20, hm, hn, hr⟩ := id hU
    refine E2_bl (k_sav_na pa qa Tn C hm (by omega)) (fun C9 h9 => E2_br (Ep_and (k_rem hn n20) (D_to (jR_rem hj1))) (fun S12 h12 => E2_ltl (fun T12 e12 => E2_ltr (fun S15 e15 => E2_some (fun ev => ?_)))))
    obtain ⟨hq, jq, _, _⟩ := h12
    have N2 : Nw P Tn S12 L := Nw_rem hN hq ⟨jq.1, jq.2.1, jq.2.2.1⟩
    have U2 : uR P C9 S12 := uR_rem hU hN hm hn h9 hq
    rw [← ev] at jv
    have f13 : S12 0 13 = S1 0 13 := hq.2.2 0 13 (by decide) (by omega)
    refine ⟨rfl, Nw_mv N2 ⟨jv.1, jv.2.1, jv.2.2.1⟩ (fun a j q => by show T12 a j = _; rw [e12, st_no (by omega)]) (fun a j _ _ _ n4 _ _ _ => by show S15 a j = _; rw [e15, st_no (by omega)]) (fun p' hp' => ?_) (fun i hi => ?_) ?_, uR_o U2 (by show S15 0 82 = _; rw [e15, st_oth (by decide)]) (fun j _ _ => by show S15 0 j = _; rw [e15, st_oth (by decide)]) (fun j => by show S15 84 j = _; rw [e15, st_oth (by decide)])⟩
    · show T12 10 p' = S15 58 p'
      rw [e12, e15]
      by_cases g : p' = p
      · rw [g, st_same, st_same]
      · rw [st_ne g, st_ne g]; exact (N2.2.2.2.2.1 p' hp').2
    · show T12 15 i = S15 54 i ∧ (S15 54 i).toInt < (S12 0 12).toInt
      rw [e12, e15, st_oth (by decide), st_oth (by decide)]
      have x := (N2.2.2.1.2.2.2.1 i hi).2
      have y := (N2.2.2.2.1.1 i hi).2.2
      rw [show 10 * 0 + i = i by omega] at x y
      exact ⟨x, y⟩
    · refine stk_e N2.2.2.1.2.2.2.2 (fun j => ?_) (fun j => ?_) (fun j => ?_) (fun j => ?_) (fun j => ?_) N2.1.1
      · show T12 16 j = _; rw [e12, st_oth (by decide)]
      · show T12 17 j = _; rw [e12, st_oth (by decide)]
      · show T12 18 j = _; rw [e12, st_oth (by decide)]
      · show S15 55 j = _; rw [e15, st_oth (by decide)]
      · show S15 56 j = _; rw [e15, st_oth (by decide)]
  exact main jv u v eu ev rfl
