/-! a token, read by both -/
theorem a255 (x : Int32) : 0 ≤ (x &&& 255).toInt ∧ (x &&& 255).toInt ≤ 255 := by
  have e : (x &&& 255).toBitVec.toNat ≤ 255 := by
    rw [Int32.toBitVec_and, BitVec.toNat_and]
    exact Nat.le_trans Nat.and_le_right (by decide)
  rw [i_of rfl (by omega)]
  omega
def frK (K q : Tr) : Prop := ∀ a j, ¬ (a = 0 ∧ (j = 1 ∨ j = 2 ∨ j = 3 ∨ j = 7)) → q a j = K a j
theorem frK_s {K q : Tr} (h : frK K q) {j : Nat} {v : Int32} (hj : j = 1 ∨ j = 2 ∨ j = 3 ∨ j = 7) : frK K (st q 0 j v) := fun a i hn => by
  rcases st_or (S := q) (a := 0) (i := j) (b := a) (j := i) (v := v) with g | g
  · rw [g]; exact h a i hn
  · exact absurd ⟨g.1, by rw [g.2]; exact hj⟩ hn
theorem frK_t {K q r : Tr} (h1 : frK K q) (h2 : frK q r) : frK K r := fun a j hn => (h2 a j hn).trans (h1 a j hn)
theorem frK_L115 {K : Tr} (M : Nat) : ∀ (x3 : Int32) (q : Tr), frK K q → Ep (lpF (fun _ _ => none) fB_X5_readWord_L115 M x3 q) (frK K) := by
  induction M with
  | zero => intro x3 q _; exact Ep_none
  | succ M ih =>
    intro x3 q h
    show Ep (fB_X5_readWord_L115 (lpF (fun _ _ => none) fB_X5_readWord_L115 M) x3 q) _
    unfold fB_X5_readWord_L115
    exact Ep_ite (fun _ => Ep_some h) (fun _ => Ep_ck (Ep_ite (fun _ => Ep_lt (fun y e => Ep_lt (fun z f => ih _ _ (by rw [e]; exact frK_s h (by omega))))) (fun _ => Ep_lt (fun z f => ih _ _ h))))
theorem frK_72 {K q : Tr} (x : Int32) (h : frK K q) : Ep (fJ_X5_readWord_J72 x q) (frK K) := by
  unfold fJ_X5_readWord_J72
  exact Ep_lt (fun y e => Ep_ite (fun _ => Ep_lt (fun z f => Ep_lt (fun u g => frK_L115 2000 _ _ (by rw [g, f]; exact frK_s (frK_s h (by omega)) (by omega))))) (fun _ => Ep_lt (fun z f => Ep_some (by rw [f]; exact frK_s h (by omega)))))
theorem frK_L2 {K : Tr} (M : Nat) : ∀ (x1 : Int32) (q : Tr), frK K q → Ep (lpF (fun _ _ => none) fB_X5_readWord_L2 M x1 q) (frK K) := by
  induction M with
  | zero => intro x1 q _; exact Ep_none
  | succ M ih =>
    intro x1 q h
    show Ep (fB_X5_readWord_L2 (lpF (fun _ _ => none) fB_X5_readWord_L2 M) x1 q) _
    have h59 : ∀ y, Ep (fJ_X5_readWord_J59 (lpF (fun _ _ => none) fB_X5_readWord_L2 M) y q) (frK K) := fun y => by
      unfold fJ_X5_readWord_J59
      exact Ep_lt (fun z e => ih _ _ (by rw [e]; exact frK_s h (by omega)))
    unfold fB_X5_readWord_L2
    exact Ep_ite (fun _ => frK_72 _ h) (fun _ => Ep_any (fun _ => Ep_any (fun _ => Ep_ite (fun _ => frK_72 _ h) (fun _ => Ep_ite (fun _ => h59 _) (fun _ => Ep_any (fun _ => Ep_lt (fun y _ => h59 _)))))))
theorem frK_L5 {K : Tr} (M : Nat) : ∀ (q : Tr), frK K q → Ep (lpF (fun _ => none) fB_X5_readNumber_L5 M q) (frK K) := by
  induction M with
  | zero => intro q _; exact Ep_none
  | succ M ih =>
    intro q h
    show Ep (fB_X5_readNumber_L5 (lpF (fun _ => none) fB_X5_readNumber_L5 M) q) _
    have h62 : ∀ q, frK K q → Ep (fJ_X5_readNumber_J62 (lpF (fun _ => none) fB_X5_readNumber_L5 M) q) (frK K) := fun q h => by
      unfold fJ_X5_readNumber_J62
      exact Ep_lt (fun z e => ih _ (by rw [e]; exact frK_s h (by omega)))
    have h75 : Ep (fJ_X5_readNumber_J75 q) (frK K) := by
      unfold fJ_X5_readNumber_J75
      exact Ep_lt (fun z e => Ep_some (by rw [e]; exact frK_s h (by omega)))
    unfold fB_X5_readNumber_L5
    exact Ep_ite (fun _ => h75) (fun _ => Ep_any (fun _ => Ep_any (fun _ => Ep_ite (fun _ => h75) (fun _ => Ep_ite (fun _ => h62 _ h) (fun _ => Ep_any (fun _ => Ep_lt (fun y e => h62 _ (by rw [e]; exact frK_s h (by omega)))))))))
theorem frK_38 {K q : Tr} (h : frK K q) : Ep (fJ_X5_advance_J38 q) (frK K) := by
  unfold fJ_X5_advance_J38
  refine Ep_lt (fun q2 e => ?_)
  have h2 : frK K q2 := by rw [e]; exact frK_s h (by omega)
  have h149 : ∀ q, frK K q → Ep (fJ_X5_advance_J149 q) (frK K) := fun q h => by
    unfold fJ_X5_advance_J149
    exact Ep_lt (fun z e => Ep_some (by rw [e]; exact frK_s h (by omega)))
  refine Ep_any (fun r3 => Ep_ite (fun _ => Ep_any (fun r7 => Ep_ite (fun _ => Ep_any (fun r11 => Ep_ite (fun _ => ?_) (fun _ => ?_))) (fun _ => ?_))) (fun _ => ?_))
  · refine Ep_lt (fun q3 e3 => Ep_any (fun _ => Ep_any (fun _ => Ep_lt (fun q4 e4 => ?_))))
    have h4 : frK K q4 := by rw [e4, e3]; exact frK_s (frK_s h2 (by omega)) (by omega)
    exact Ep_ite (fun _ => h149 _ h4) (fun _ => Ep_ite (fun _ => h149 _ h4) (fun _ => Ep_ite (fun _ => h149 _ h4) (fun _ => Ep_some h4)))
  · unfold f_X5_readNumber fL_X5_readNumber_L5
    exact Ep_bd (Ep_lt (fun z f => frK_L5 2000 z (by rw [f]; exact frK_s h2 (by omega)))) (fun _ g => Ep_some g)
  · unfold f_X5_readWord fL_X5_readWord_L2
    exact Ep_bd (frK_L2 2000 _ _ h2) (fun _ g => Ep_some g)
  · exact Ep_lt (fun z f => Ep_some (by rw [f]; exact frK_s h2 (by omega)))
theorem frK_L0 {K : Tr} (M : Nat) : ∀ (q : Tr), frK K q → Ep (lpF (fun _ => none) fB_X5_advance_L0 M q) (frK K) := by
  induction M with
  | zero => intro q _; exact Ep_none
  | succ M ih =>
    intro q h
    show Ep (fB_X5_advance_L0 (lpF (fun _ => none) fB_X5_advance_L0 M) q) _
    unfold fB_X5_advance_L0
    exact Ep_ite (fun _ => frK_38 h) (fun _ => Ep_any (fun _ => Ep_any (fun _ => Ep_ite (fun _ => frK_38 h) (fun _ => Ep_lt (fun z e => ih _ (by rw [e]; exact frK_s h (by omega)))))))
theorem frK_adv {K : Tr} : Ep (f_X5_advance K) (frK K) := by
  unfold f_X5_advance fL_X5_advance_L0
  exact frK_L0 2000 K (fun _ _ _ => rfl)
def e10 (T q : Tr) : Prop := q 0 10 = T 0 10
theorem e10_s {T q : Tr} (h : e10 T q) {j : Nat} {v : Int32} (hj : 10 ≠ j) : e10 T (st q 0 j v) := by unfold e10; rw [st_ne hj]; exact h
theorem e10_135 {T q : Tr} (x2 x3 : Int32) (h : e10 T q) : Ep (fJ_X8_signToken_J135 x2 x3 q) (e10 T) := by
  have h192 : ∀ v q, e10 T q → Ep (fJ_X8_signToken_J192 v q) (e10 T) := fun v q h => by
    unfold fJ_X8_signToken_J192
    exact Ep_lt (fun z e => Ep_some (by rw [e]; exact e10_s h (by decide)))
  unfold fJ_X8_signToken_J135
  refine Ep_lt (fun z e => ?_)
  have h2 : e10 T z := by rw [e]; exact e10_s h (by decide)
  exact Ep_ite (fun _ => h192 _ _ h2) (fun _ => Ep_ite (fun _ => Ep_ite (fun _ => Ep_ite (fun _ => h192 _ _ h2) (fun _ => h192 _ _ h2)) (fun _ => h192 _ _ h2)) (fun _ => Ep_ite (fun _ => h192 _ _ h2) (fun _ => h192 _ _ h2)))
theorem e10_116 {T q : Tr} (x2 x3 : Int32) (h : e10 T q) : Ep (fJ_X8_signToken_J116 x2 x3 q) (e10 T) := by
  have h125 : Ep (fJ_X8_signToken_J125 x2 x3 q) (e10 T) := by
    unfold fJ_X8_signToken_J125
    exact Ep_lt (fun z e => e10_135 _ _ (by rw [e]; exact e10_s h (by decide)))
  unfold fJ_X8_signToken_J116
  exact Ep_ite (fun _ => Ep_ite (fun _ => e10_135 _ _ h) (fun _ => h125)) (fun _ => h125)
theorem e10_74 {T q : Tr} (x : Int32) (h : e10 T q) : Ep (fJ_X8_signToken_J74 x q) (e10 T) := by
  unfold fJ_X8_signToken_J74 fJ_X8_signToken_J94 fJ_X8_signToken_J95 fJ_X8_signToken_J115
  exact Ep_ite (fun _ => Ep_ite (fun _ => Ep_ite (fun _ => e10_116 _ _ h) (fun _ => e10_116 _ _ h)) (fun _ => e10_116 _ _ h)) (fun _ => Ep_ite (fun _ => Ep_ite (fun _ => Ep_ite (fun _ => e10_116 _ _ h) (fun _ => e10_116 _ _ h)) (fun _ => e10_116 _ _ h)) (fun _ => Ep_ite (fun _ => Ep_ite (fun _ => e10_116 _ _ h) (fun _ => e10_116 _ _ h)) (fun _ => e10_116 _ _ h)))
theorem e10_sg {T : Tr} : Ep (f_X8_signToken T) (e10 T) := by
  unfold f_X8_signToken
  refine Ep_ck (Ep_lt (fun q2 e2 => Ep_lt (fun q e => ?_)))
  have h : e10 T q := by rw [e, e2]; exact e10_s (e10_s rfl (by decide)) (by decide)
  have h50 : Ep (fJ_X8_signToken_J50 q) (e10 T) := by
    unfold fJ_X8_signToken_J50
    exact Ep_ite (fun _ => e10_74 _ h) (fun _ => Ep_ck (e10_74 _ h))
  have h275 : ∀ v, Ep (fJ_X8_signToken_J275 v q) (e10 T) := fun v => by
    unfold fJ_X8_signToken_J275 fJ_X8_signToken_J287
    exact Ep_ite (fun _ => Ep_lt (fun z e => Ep_some (by rw [e]; exact e10_s h (by decide)))) (fun _ => Ep_lt (fun z e => Ep_some (by rw [e]; exact e10_s h (by decide))))
  unfold fJ_X8_signToken_J270
  exact Ep_ite (fun _ => h50) (fun _ => Ep_ite (fun _ => h50) (fun _ => Ep_ite (fun _ => h50) (fun _ => Ep_ite (fun _ => h275 _) (fun _ => Ep_ite (fun _ => h275 _) (fun _ => Ep_ite (fun _ => h275 _) (fun _ => Ep_ite (fun _ => h275 _) (fun _ => Ep_ite (fun _ => h275 _) (fun _ => Ep_ite (fun _ => h275 _) (fun _ => Ep_ite (fun _ => h275 _) (fun _ => Ep_ite (fun _ => h275 _) (fun _ => h275 _)))))))))))
