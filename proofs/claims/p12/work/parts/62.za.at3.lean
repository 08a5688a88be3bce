/-! a new text: the stop is 0 -/
theorem af_J (S : Tr) : Ep (fJ_X8_atFirst_J134 0 S) (fun q => q 62 0 = 0) := by
  unfold fJ_X8_atFirst_J134
  refine Ep_ck (Ep_lt (fun S5 _ => Ep_lt (fun S6 e6 => Ep_lt (fun S7 e7 => Ep_some ?_))))
  have e6 : S6 = st S5 62 0 0 := e6
  show S7 62 0 = 0
  rw [e7, st_oth (by decide), e6, st_same]
theorem af_64 (N : Nat) : ∀ (x : Int32) (S : Tr), Ep (lpF (fun _ _ => none) (fB_X8_atFirst_L64 0) N x S) (fun q => q 62 0 = 0) := by
  induction N with
  | zero => intro x S; exact Ep_none
  | succ N ih =>
    intro x S
    show Ep (fB_X8_atFirst_L64 0 (lpF (fun _ _ => none) (fB_X8_atFirst_L64 0) N) x S) _
    generalize lpF (fun _ _ => none) (fB_X8_atFirst_L64 0) N = k at ih ⊢
    unfold fB_X8_atFirst_L64
    exact Ep_ite (fun _ => af_J S) (fun _ => Ep_ck (Ep_ck (Ep_lt (fun S10 _ => Ep_lt (fun S11 _ => Ep_lt (fun S12 _ => Ep_lt (fun S13 _ => Ep_lt (fun y _ => ih y S13))))))))
theorem af_40 (N : Nat) : ∀ (x : Int32) (S : Tr), Ep (lpF (fun _ _ => none) (fB_X8_atFirst_L40 0) N x S) (fun q => q 62 0 = 0) := by
  induction N with
  | zero => intro x S; exact Ep_none
  | succ N ih =>
    intro x S
    show Ep (fB_X8_atFirst_L40 0 (lpF (fun _ _ => none) (fB_X8_atFirst_L40 0) N) x S) _
    generalize lpF (fun _ _ => none) (fB_X8_atFirst_L40 0) N = k at ih ⊢
    unfold fB_X8_atFirst_L40 fL_X8_atFirst_L64
    exact Ep_ite (fun _ => af_64 2000 0 S) (fun _ => Ep_ck (Ep_lt (fun S16 _ => Ep_lt (fun y _ => ih y S16))))
theorem af_2 (N : Nat) : ∀ (x : Int32) (S : Tr), Ep (lpF (fun _ _ => none) (fB_X8_atFirst_L2 0) N x S) (fun q => q 62 0 = 0) := by
  induction N with
  | zero => intro x S; exact Ep_none
  | succ N ih =>
    intro x S
    show Ep (fB_X8_atFirst_L2 0 (lpF (fun _ _ => none) (fB_X8_atFirst_L2 0) N) x S) _
    generalize lpF (fun _ _ => none) (fB_X8_atFirst_L2 0) N = k at ih ⊢
    unfold fB_X8_atFirst_L2 fL_X8_atFirst_L40
    exact Ep_ite (fun _ => af_40 2000 0 S) (fun _ => Ep_ck (Ep_lt (fun S19 _ => Ep_lt (fun S20 _ => Ep_lt (fun y _ => ih y S20)))))
theorem k_b62 (S : Tr) (L : Lo) : Ep (f_X8_begin S L) (fun q => q.1 62 0 = 0) := by
  unfold f_X8_begin f_X8_atFirst fL_X8_atFirst_L2
  refine Ep_bd (af_2 2000 0 S) (fun S1 h1 => Ep_lt (fun L4 _ => Ep_bd (zf_X8_plainTried (S0 := S1) S1 zf_r) (fun S5 h5 => Ep_lt (fun S8 e8 => Ep_lt (fun S9 e9 => Ep_lt (fun S10 e10 => Ep_lt (fun S11 e11 => Ep_some ?_)))))))
  have h1 : S1 62 0 = 0 := h1
  show S11 62 0 = 0
  rw [e11, st_oth (by decide), e10, st_oth (by decide), e9, st_oth (by decide), e8, st_oth (by decide), z62 h5, h1]
theorem k_k62 (T : Tr) (L : Lo) : Ep (f_X8_keepText T L) (fun q => q.1 62 0 = 0) := by
  unfold f_X8_keepText
  refine Ep_lt (fun S1 _ => Ep_lt (fun S2 _ => Ep_lt (fun S3 _ => Ep_lt (fun S4 _ => Ep_any (fun A1 => Ep_any (fun A2 => Ep_any (fun A3 => Ep_any (fun A4 => Ep_any (fun A5 => Ep_any (fun A6 => Ep_any (fun A7 => Ep_any (fun A8 => Ep_any (fun A9 => Ep_any (fun A10 => Ep_any (fun A11 => Ep_any (fun A12 => ?_))))))))))))))))
  refine ke_139 L A12 (fun T36 _ => ?_) 2000 0 A12 (by decide) (by decide) (fun j hj => absurd hj (by rw [show (0 : Int32).toInt = 0 by decide]; omega)) (fun _ _ _ => rfl)
  unfold fJ_X8_keepText_J164
  refine Ep_any (fun B1 => Ep_any (fun B2 => Ep_any (fun B3 => Ep_any (fun B4 => Ep_any (fun B5 => Ep_bd (k_b62 B5 L) (fun q hq => Ep_lt (fun S57 e57 => Ep_lt (fun L58 _ => Ep_some ?_))))))))
  show S57 62 0 = 0
  rw [e57]; exact hq
