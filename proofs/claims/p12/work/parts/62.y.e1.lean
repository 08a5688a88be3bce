/-! what a token leaves alone in the reference; both readers' tokens stand alike -/
def frT (T q : Tr) : Prop := ∀ a j, ¬ (a = 0 ∧ 7 ≤ j ∧ j ≤ 10) → q a j = T a j
theorem frT_r {T : Tr} : frT T T := fun _ _ _ => rfl
theorem frT_s {T q : Tr} (h : frT T q) {j : Nat} {v : Int32} (hj : 7 ≤ j ∧ j ≤ 10) : frT T (st q 0 j v) := fun a i hn => by
  rcases st_or (S := q) (a := 0) (i := j) (b := a) (j := i) (v := v) with g | g
  · rw [g]; exact h a i hn
  · exact absurd ⟨g.1, by rw [g.2]; exact hj⟩ hn
theorem frT_135 {T q : Tr} (x2 x3 : Int32) (h : frT T q) : Ep (fJ_X8_signToken_J135 x2 x3 q) (frT T) := by
  have h192 : ∀ v q, frT T q → Ep (fJ_X8_signToken_J192 v q) (frT T) := fun v q h => by
    unfold fJ_X8_signToken_J192
    exact Ep_lt (fun z e => Ep_some (by rw [e]; exact frT_s h (by omega)))
  unfold fJ_X8_signToken_J135
  refine Ep_lt (fun z e => ?_)
  have h2 : frT T z := by rw [e]; exact frT_s h (by omega)
  exact Ep_ite (fun _ => h192 _ _ h2) (fun _ => Ep_ite (fun _ => Ep_ite (fun _ => Ep_ite (fun _ => h192 _ _ h2) (fun _ => h192 _ _ h2)) (fun _ => h192 _ _ h2)) (fun _ => Ep_ite (fun _ => h192 _ _ h2) (fun _ => h192 _ _ h2)))
theorem frT_116 {T q : Tr} (x2 x3 : Int32) (h : frT T q) : Ep (fJ_X8_signToken_J116 x2 x3 q) (frT T) := by
  have h125 : Ep (fJ_X8_signToken_J125 x2 x3 q) (frT T) := by
    unfold fJ_X8_signToken_J125
    exact Ep_lt (fun z e => frT_135 _ _ (by rw [e]; exact frT_s h (by omega)))
  unfold fJ_X8_signToken_J116
  exact Ep_ite (fun _ => Ep_ite (fun _ => frT_135 _ _ h) (fun _ => h125)) (fun _ => h125)
theorem frT_74 {T q : Tr} (x : Int32) (h : frT T q) : Ep (fJ_X8_signToken_J74 x q) (frT T) := by
  unfold fJ_X8_signToken_J74 fJ_X8_signToken_J94 fJ_X8_signToken_J95 fJ_X8_signToken_J115
  exact Ep_ite (fun _ => Ep_ite (fun _ => Ep_ite (fun _ => frT_116 _ _ h) (fun _ => frT_116 _ _ h)) (fun _ => frT_116 _ _ h)) (fun _ => Ep_ite (fun _ => Ep_ite (fun _ => Ep_ite (fun _ => frT_116 _ _ h) (fun _ => frT_116 _ _ h)) (fun _ => frT_116 _ _ h)) (fun _ => Ep_ite (fun _ => Ep_ite (fun _ => frT_116 _ _ h) (fun _ => frT_116 _ _ h)) (fun _ => frT_116 _ _ h)))
theorem frT_sg {T q2 : Tr} (h0 : frT T q2) : Ep (f_X8_signToken q2) (frT T) := by
  unfold f_X8_signToken
  refine Ep_ck (Ep_lt (fun q3 e2 => Ep_lt (fun q e => ?_)))
  have h : frT T q := by rw [e, e2]; exact frT_s (frT_s h0 (by omega)) (by omega)
  have h50 : Ep (fJ_X8_signToken_J50 q) (frT T) := by
    unfold fJ_X8_signToken_J50
    exact Ep_ite (fun _ => frT_74 _ h) (fun _ => Ep_ck (frT_74 _ h))
  have h275 : ∀ v, Ep (fJ_X8_signToken_J275 v q) (frT T) := fun v => by
    unfold fJ_X8_signToken_J275 fJ_X8_signToken_J287
    exact Ep_ite (fun _ => Ep_lt (fun z e => Ep_some (by rw [e]; exact frT_s h (by omega)))) (fun _ => Ep_lt (fun z e => Ep_some (by rw [e]; exact frT_s h (by omega))))
  unfold fJ_X8_signToken_J270
  exact Ep_ite (fun _ => h50) (fun _ => Ep_ite (fun _ => h50) (fun _ => Ep_ite (fun _ => h50) (fun _ => Ep_ite (fun _ => h275 _) (fun _ => Ep_ite (fun _ => h275 _) (fun _ => Ep_ite (fun _ => h275 _) (fun _ => Ep_ite (fun _ => h275 _) (fun _ => Ep_ite (fun _ => h275 _) (fun _ => Ep_ite (fun _ => h275 _) (fun _ => Ep_ite (fun _ => h275 _) (fun _ => Ep_ite (fun _ => h275 _) (fun _ => h275 _)))))))))))
theorem frT_114 {T q : Tr} (h : frT T q) : Ep (fJ_X8_token_J114 q) (frT T) := by
  have h162 : ∀ v q, frT T q → Ep (fJ_X8_token_J162 v q) (frT T) := fun v q h => by
    unfold fJ_X8_token_J162
    refine Ep_lt (fun z e => ?_)
    have h2 : frT T z := by rw [e]; exact frT_s h (by omega)
    exact Ep_ite (fun _ => Ep_any (fun _ => Ep_lt (fun y f => Ep_some (by rw [f]; exact frT_s h2 (by omega))))) (fun _ => Ep_some h2)
  unfold fJ_X8_token_J114
  refine Ep_any (fun r => Ep_lt (fun z e => ?_))
  have h2 : frT T z := by rw [e]; exact frT_s h (by omega)
  exact Ep_ite (fun _ => Ep_ite (fun _ => h162 _ _ h2) (fun _ => h162 _ _ h2)) (fun _ => h162 _ _ h2)
theorem frT_90 {T : Tr} (N : Nat) : ∀ q, frT T q → Ep (lpF (fun _ => none) fB_X8_token_L90 N q) (frT T) := by
  induction N with
  | zero => intro q _; exact Ep_none
  | succ N ih =>
    intro q h
    show Ep (fB_X8_token_L90 (lpF (fun _ => none) fB_X8_token_L90 N) q) _
    unfold fB_X8_token_L90
    exact Ep_any (fun _ => Ep_ite (fun _ => frT_114 h) (fun _ => Ep_lt (fun z e => ih _ (by rw [e]; exact frT_s h (by omega)))))
theorem frT_213 {T : Tr} (N : Nat) : ∀ q, frT T q → Ep (lpF (fun _ => none) fB_X8_token_L213 N q) (frT T) := by
  induction N with
  | zero => intro q _; exact Ep_none
  | succ N ih =>
    intro q h
    show Ep (fB_X8_token_L213 (lpF (fun _ => none) fB_X8_token_L213 N) q) _
    have h261 : ∀ v, Ep (fJ_X8_token_J261 (lpF (fun _ => none) fB_X8_token_L213 N) v q) (frT T) := fun v => by
      unfold fJ_X8_token_J261
      exact Ep_lt (fun y f => Ep_lt (fun z e => ih _ (by rw [e, f]; exact frT_s (frT_s h (by omega)) (by omega))))
    unfold fB_X8_token_L213
    exact Ep_any (fun _ => Ep_ite (fun _ => Ep_some h) (fun _ => Ep_ite (fun _ => Ep_ck (h261 _)) (fun _ => h261 _)))
theorem frT_52 {T q : Tr} (h0 : frT T q) : Ep (fJ_X8_token_J52 q) (frT T) := by
  unfold fJ_X8_token_J52 fL_X8_token_L213 fL_X8_token_L90
  refine Ep_lt (fun z e => ?_)
  have h : frT T z := by rw [e]; exact frT_s h0 (by omega)
  exact Ep_ite (fun _ => Ep_lt (fun y f => Ep_some (by rw [f]; exact frT_s h (by omega)))) (fun _ => Ep_any (fun _ => Ep_ite (fun _ => Ep_any (fun _ => Ep_ite (fun _ => Ep_bd (frT_sg h) (fun _ g => Ep_some g)) (fun _ => Ep_lt (fun y f => Ep_lt (fun u g => frT_213 2000 _ (by rw [g, f]; exact frT_s (frT_s h (by omega)) (by omega))))))) (fun _ => frT_90 2000 _ h)))
theorem frT_0 {T : Tr} (N : Nat) : ∀ q, frT T q → Ep (lpF (fun _ => none) fB_X8_token_L0 N q) (frT T) := by
  induction N with
  | zero => intro q _; exact Ep_none
  | succ N ih =>
    intro q h
    show Ep (fB_X8_token_L0 (lpF (fun _ => none) fB_X8_token_L0 N) q) _
    have h39 : Ep (fJ_X8_token_J39 (lpF (fun _ => none) fB_X8_token_L0 N) q) (frT T) := by
      unfold fJ_X8_token_J39
      exact Ep_lt (fun z e => ih _ (by rw [e]; exact frT_s h (by omega)))
    unfold fB_X8_token_L0
    exact Ep_ite (fun _ => frT_52 h) (fun _ => Ep_ck (Ep_ite (fun _ => h39) (fun _ => Ep_ite (fun _ => h39) (fun _ => frT_52 h))))
theorem frT_tok {T : Tr} : Ep (f_X8_token T) (frT T) := by
  unfold f_X8_token fL_X8_token_L0
  exact frT_0 2000 T frT_r
/-- both stand behind the same token -/
def tkS (K T : Tr) : Prop := kT K T ∧ wC K ∧ wT T ∧ K 0 2 = T 0 10 ∧ kI (K 0 1).toInt (T 0 8).toInt (T 0 9).toInt ∧ ((T 0 8).toInt = 2 → K 0 3 = T 0 9) ∧ ((T 0 8).toInt = 3 → nR (K 0 3) (T 0 9)) ∧ 0 ≤ (T 0 10).toInt ∧ ((T 0 8 = 0 ∧ (T 0 10).toInt = (T 0 7).toInt) ∨ (T 0 10).toInt < (T 0 7).toInt)
theorem e_adv {K T : Tr} (hC : wC K) (hT : wT T) (h : kT K T) : E2 (f_X5_advance K) (f_X8_token T) (fun K1 T1 => tkS K1 T1 ∧ frK K K1 ∧ frT T T1 ∧ (T 0 7).toInt ≤ (T1 0 10).toInt) := by
  have b := h.2.2.1
  intro K1 T1 e1 e2
  obtain ⟨⟨a1, a2, a3, a4, a5, a6, a7⟩, f1⟩ := e_tok hC hT h K1 T1 e1 e2
  have f2 := frT_tok T1 e2
  obtain ⟨p1, p2⟩ := pr_tok (T := T) b T1 e2
  have t6 : T1 0 6 = T 0 6 := f2 0 6 (by omega)
  refine ⟨⟨?_, fun j hj => ?_, fun j hj => ?_, a4, a5, a6, a7, by omega, p2⟩, f1, f2, p1⟩
  · exact kT_of h (f1 0 6 (by omega)) t6 a1 ⟨a2, a3⟩ (funext fun j => f1 5 j (by omega)) (funext fun j => f2 1 j (by omega))
  · rw [f1 6 j (by omega)]; exact hC j hj
  · rw [f2 4 j (by omega)]; exact hT j hj
theorem e_advS {K T : Tr} (h : tkS K T) : E2 (f_X5_advance K) (f_X8_token T) (fun K1 T1 => tkS K1 T1 ∧ frK K K1 ∧ frT T T1 ∧ (T 0 7).toInt ≤ (T1 0 10).toInt) := e_adv h.2.1 h.2.2.1 h.1
/-- the two stand alike, and nothing but cells of reading and of the text read has changed -/
theorem tkS_T {K T T1 : Tr} (h : tkS K T) (e : ∀ j, 6 ≤ j → j ≤ 10 → T1 0 j = T 0 j) (e1 : T1 1 = T 1) (e4 : T1 4 = T 4) : tkS K T1 := by
  obtain ⟨⟨a1, a2, a3, a4⟩, b, c, d, f, g, i, j, k⟩ := h
  have e6 := e 6 (by omega) (by omega)
  have e7 := e 7 (by omega) (by omega)
  have e8 := e 8 (by omega) (by omega)
  have e9 := e 9 (by omega) (by omega)
  have e10 := e 10 (by omega) (by omega)
  unfold tkS kT
  rw [e6, e7, e8, e9, e10, e1]
  refine ⟨⟨a1, a2, a3, a4⟩, b, fun j hj => ?_, d, f, g, i, j, k⟩
  rw [e4]; exact c j hj
