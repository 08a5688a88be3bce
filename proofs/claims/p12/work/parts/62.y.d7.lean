/-! each token but the end takes a byte at least -/
def pBd (T : Tr) : Prop := 0 ≤ (T 0 7).toInt ∧ (T 0 7).toInt ≤ (T 0 6).toInt ∧ (T 0 6).toInt ≤ 700
theorem pr_114 {T : Tr} : Ep (fJ_X8_token_J114 T) (fun q => q 0 7 = T 0 7 ∧ q 0 10 = T 0 10) := by
  have h162 : ∀ (v : Int32) (S : Tr), S 0 7 = T 0 7 → S 0 10 = T 0 10 → Ep (fJ_X8_token_J162 v S) (fun q => q 0 7 = T 0 7 ∧ q 0 10 = T 0 10) := fun v S a1 a2 => by
    unfold fJ_X8_token_J162
    refine Ep_lt (fun z e => ?_)
    have h7 : z 0 7 = T 0 7 := by rw [e, st_ne (by decide)]; exact a1
    have h10 : z 0 10 = T 0 10 := by rw [e, st_ne (by decide)]; exact a2
    exact Ep_ite (fun _ => Ep_any (fun _ => Ep_lt (fun y f => Ep_some ⟨by rw [f, st_ne (by decide)]; exact h7, by rw [f, st_ne (by decide)]; exact h10⟩))) (fun _ => Ep_some ⟨h7, h10⟩)
  unfold fJ_X8_token_J114
  refine Ep_any (fun r => Ep_lt (fun z e => ?_))
  have h7 : z 0 7 = T 0 7 := by rw [e, st_ne (by decide)]
  have h10 : z 0 10 = T 0 10 := by rw [e, st_ne (by decide)]
  exact Ep_ite (fun _ => Ep_ite (fun _ => h162 _ _ h7 h10) (fun _ => h162 _ _ h7 h10)) (fun _ => h162 _ _ h7 h10)
theorem small_lt {T : Tr} {x r : Int32} (h : f_X8_isSmall T x = some r) (hr : ¬ r = 0) : x.toInt < (T 0 6).toInt := by
  unfold f_X8_isSmall at h
  by_cases c : (T 0 6) ≤ x
  · rw [if_pos c] at h
    exact absurd (tx_1 h).symm hr
  · exact tq_len rfl rfl c
theorem digit_lt {T : Tr} {x r : Int32} (h : f_X8_isDigit T x = some r) (hr : ¬ r = 0) : x.toInt < (T 0 6).toInt := by
  unfold f_X8_isDigit at h
  by_cases c : (T 0 6) ≤ x
  · rw [if_pos c] at h
    exact absurd (tx_1 h).symm hr
  · exact tq_len rfl rfl c
theorem pr_90 (N : Nat) : ∀ T : Tr, pBd T → Ep (lpF (fun _ => none) fB_X8_token_L90 N T) (fun q => (T 0 7).toInt ≤ (q 0 7).toInt ∧ q 0 10 = T 0 10) := by
  induction N with
  | zero => intro T _; exact Ep_none
  | succ N ih =>
    intro T b
    show Ep (fB_X8_token_L90 (lpF (fun _ => none) fB_X8_token_L90 N) T) _
    unfold fB_X8_token_L90
    refine Ep_bd (Q1 := fun r => f_X8_isSmall T (T 0 7) = some r) (fun r e => e) (fun r hr => Ep_ite (fun _ => Ep_mono pr_114 (fun q h => ⟨by rw [h.1]; exact Int.le_refl _, h.2⟩)) (fun c => Ep_lt (fun z e => ?_)))
    have hl := small_lt hr c
    have b1 := b.1
    have b2 := b.2.2
    have z7 : (z 0 7).toInt = (T 0 7).toInt + 1 := by rw [e, st_same]; exact i_addK rfl (by decide) (by omega) (by omega)
    have z6 : z 0 6 = T 0 6 := by rw [e, st_ne (by decide)]
    refine Ep_mono (ih z ⟨by omega, by rw [z6]; omega, by rw [z6]; exact b2⟩) (fun q h => ⟨by omega, by rw [h.2, e, st_ne (by decide)]⟩)
theorem pr_90s {N : Nat} {T : Tr} (b : pBd T) {r : Int32} (hr : f_X8_isSmall T (T 0 7) = some r) (c : ¬ r = 0) : Ep (lpF (fun _ => none) fB_X8_token_L90 N T) (fun q => (T 0 7).toInt < (q 0 7).toInt ∧ q 0 10 = T 0 10) := by
  cases N with
  | zero => exact Ep_none
  | succ N =>
    show Ep (fB_X8_token_L90 (lpF (fun _ => none) fB_X8_token_L90 N) T) _
    unfold fB_X8_token_L90
    rw [hr]
    show Ep (if r = 0 then _ else lt (st T 0 7 ((T 0 7) + 1)) fun S_41 => (lpF (fun _ => none) fB_X8_token_L90 N) S_41) _
    rw [if_neg c]
    refine Ep_lt (fun z e => ?_)
    have hl := small_lt hr c
    have b1 := b.1
    have b2 := b.2.2
    have z7 : (z 0 7).toInt = (T 0 7).toInt + 1 := by rw [e, st_same]; exact i_addK rfl (by decide) (by omega) (by omega)
    have z6 : z 0 6 = T 0 6 := by rw [e, st_ne (by decide)]
    refine Ep_mono (pr_90 N z ⟨by omega, by rw [z6]; omega, by rw [z6]; exact b2⟩) (fun q h => ⟨by omega, by rw [h.2, e, st_ne (by decide)]⟩)
theorem pr_213 (N : Nat) : ∀ T : Tr, pBd T → Ep (lpF (fun _ => none) fB_X8_token_L213 N T) (fun q => (T 0 7).toInt ≤ (q 0 7).toInt ∧ q 0 10 = T 0 10) ∧ (∀ r, f_X8_isDigit T (T 0 7) = some r → ¬ r = 0 → Ep (lpF (fun _ => none) fB_X8_token_L213 N T) (fun q => (T 0 7).toInt < (q 0 7).toInt ∧ q 0 10 = T 0 10)) := by
  induction N with
  | zero => intro T _; exact ⟨Ep_none, fun _ _ _ => Ep_none⟩
  | succ N ih =>
    intro T b
    have b1 := b.1
    have b2 := b.2.2
    have step : ∀ r, f_X8_isDigit T (T 0 7) = some r → ¬ r = 0 → ∀ v, Ep (fJ_X8_token_J261 (lpF (fun _ => none) fB_X8_token_L213 N) v T) (fun q => (T 0 7).toInt < (q 0 7).toInt ∧ q 0 10 = T 0 10) := by
      intro r hr c v
      have hl := digit_lt hr c
      unfold fJ_X8_token_J261
      refine Ep_lt (fun y f => Ep_lt (fun z e => ?_))
      have z7 : (z 0 7).toInt = (T 0 7).toInt + 1 := by rw [e, st_same, f, st_ne (by decide)]; exact i_addK rfl (by decide) (by omega) (by omega)
      have z6 : z 0 6 = T 0 6 := by rw [e, st_ne (by decide), f, st_ne (by decide)]
      refine Ep_mono (ih z ⟨by omega, by rw [z6]; omega, by rw [z6]; exact b2⟩).1 (fun q h => ⟨by omega, by rw [h.2, e, st_ne (by decide), f, st_ne (by decide)]⟩)
    constructor
    · show Ep (fB_X8_token_L213 (lpF (fun _ => none) fB_X8_token_L213 N) T) _
      unfold fB_X8_token_L213
      exact Ep_bd (Q1 := fun r => f_X8_isDigit T (T 0 7) = some r) (fun r e => e) (fun r hr => Ep_ite (fun _ => Ep_some ⟨Int.le_refl _, rfl⟩) (fun c => Ep_ite (fun _ => Ep_ck (Ep_mono (step r hr c _) (fun q h => ⟨Int.le_of_lt h.1, h.2⟩))) (fun _ => Ep_mono (step r hr c _) (fun q h => ⟨Int.le_of_lt h.1, h.2⟩))))
    · intro r0 hr0 c0
      show Ep (fB_X8_token_L213 (lpF (fun _ => none) fB_X8_token_L213 N) T) _
      unfold fB_X8_token_L213
      exact Ep_bd (Q1 := fun r => f_X8_isDigit T (T 0 7) = some r) (fun r e => e) (fun r hr => Ep_ite (fun c => by rw [hr0] at hr; exact absurd ((tx_1 hr).trans c) c0) (fun c => Ep_ite (fun _ => Ep_ck (step r hr c _)) (fun _ => step r hr c _)))
def tkP (T q : Tr) : Prop := (T 0 7).toInt ≤ (q 0 10).toInt ∧ ((q 0 8 = 0 ∧ (q 0 10).toInt = (q 0 7).toInt) ∨ (q 0 10).toInt < (q 0 7).toInt)
theorem pr_52 {T : Tr} (b : pBd T) : Ep (fJ_X8_token_J52 T) (tkP T) := by
  unfold fJ_X8_token_J52
  refine Ep_lt (fun S e => ?_)
  have s7 : S 0 7 = T 0 7 := by rw [e, st_ne (by decide)]
  have s6 : S 0 6 = T 0 6 := by rw [e, st_ne (by decide)]
  have s10 : S 0 10 = T 0 7 := by rw [e, st_same]
  have bS : pBd S := by unfold pBd; rw [s7, s6]; exact b
  have b1 := bS.1
  have b2 := bS.2.1
  have b3 := bS.2.2
  have use : ∀ q : Tr, (S 0 7).toInt < (q 0 7).toInt → q 0 10 = S 0 10 → tkP T q := fun q h1 h2 => by
    unfold tkP
    rw [h2, s10, ← s7]
    exact ⟨Int.le_refl _, Or.inr h1⟩
  refine Ep_ite (fun c => Ep_lt (fun z f => Ep_some ?_)) (fun c => Ep_bd (Q1 := fun r => f_X8_isSmall S (S 0 7) = some r) (fun r e => e) (fun r hr => Ep_ite (fun c2 => Ep_bd (Q1 := fun r => f_X8_isDigit S (S 0 7) = some r) (fun r e => e) (fun r2 hr2 => Ep_ite (fun c3 => ?_) (fun c3 => ?_))) (fun c2 => ?_)))
  · unfold tkP
    rw [f, st_same, st_ne (by decide), st_ne (by decide), s10, s7]
    exact ⟨Int.le_refl _, Or.inl ⟨rfl, rfl⟩⟩
  · have hl : ((S 0 7).toInt.toNat : Int) < (S 0 6).toInt := by
      have : ¬ (S 0 7).toInt = (S 0 6).toInt := fun q => c (Int32.toInt_inj.mp q)
      omega
    refine Ep_bd (Ep_and (e_signT (S := S) (n := (S 0 7).toInt.toNat) (by omega) hl b3) (e10_sg (T := S))) (fun q h => Ep_some ?_)
    obtain ⟨⟨m, d, h1, h2, _⟩, h4⟩ := h
    have hm : 1 ≤ m := by
      unfold sgR at h1
      rcases h1 with ⟨_, _, h1⟩ | ⟨_, _, h1⟩ | ⟨_, _, _, h1⟩ | ⟨_, _, _, h1⟩ | h1
      · rcases h1 with ⟨_, _, h⟩ | ⟨_, _, h⟩ | ⟨_, _, _, h⟩ <;> omega
      · rcases h1 with ⟨_, _, h⟩ | ⟨_, _, h⟩ <;> omega
      · omega
      · omega
      · have := h1.2.2.2.2.2.2.2.2.2.2.2.2; omega
    exact use q (by omega) h4
  · refine Ep_lt (fun y f => Ep_lt (fun z g => ?_))
    have z7 : z 0 7 = S 0 7 := by rw [g, st_ne (by decide), f, st_ne (by decide)]
    have z6 : z 0 6 = S 0 6 := by rw [g, st_ne (by decide), f, st_ne (by decide)]
    have z10 : z 0 10 = S 0 10 := by rw [g, st_ne (by decide), f, st_ne (by decide)]
    have z1 : f_X8_isDigit z (z 0 7) = some r2 := by
      rw [z7, ← hr2]; unfold f_X8_isDigit; rw [z6]; rw [g, f]; rfl
    unfold fL_X8_token_L213
    refine Ep_mono ((pr_213 2000 z (by unfold pBd; rw [z7, z6]; exact bS)).2 r2 z1 c3) (fun q h => use q (by rw [← z7]; exact h.1) (by rw [h.2, z10]))
  · unfold fL_X8_token_L90
    exact Ep_mono (pr_90s bS hr c2) (fun q h => use q h.1 h.2)
theorem pr_0 (N : Nat) : ∀ T : Tr, pBd T → Ep (lpF (fun _ => none) fB_X8_token_L0 N T) (tkP T) := by
  induction N with
  | zero => intro T _; exact Ep_none
  | succ N ih =>
    intro T b
    show Ep (fB_X8_token_L0 (lpF (fun _ => none) fB_X8_token_L0 N) T) _
    unfold fB_X8_token_L0
    refine Ep_ite (fun _ => pr_52 b) (fun c => ?_)
    have c := tq_len rfl rfl c
    have b1 := b.1
    have b2 := b.2.2
    have h39 : Ep (fJ_X8_token_J39 (lpF (fun _ => none) fB_X8_token_L0 N) T) (tkP T) := by
      unfold fJ_X8_token_J39
      refine Ep_lt (fun z e => ?_)
      have z7 : (z 0 7).toInt = (T 0 7).toInt + 1 := by rw [e, st_same]; exact i_addK rfl (by decide) (by omega) (by omega)
      have z6 : z 0 6 = T 0 6 := by rw [e, st_ne (by decide)]
      exact Ep_mono (ih z ⟨by omega, by rw [z6]; omega, by rw [z6]; exact b2⟩) (fun q h => ⟨by have := h.1; omega, h.2⟩)
    exact Ep_ck (Ep_ite (fun _ => h39) (fun _ => Ep_ite (fun _ => h39) (fun _ => pr_52 b)))
theorem pr_tok {T : Tr} (b : pBd T) : Ep (f_X8_token T) (tkP T) := by
  unfold f_X8_token fL_X8_token_L0
  exact pr_0 2000 T b
