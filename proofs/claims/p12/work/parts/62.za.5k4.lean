/-! keeping a text, feeding: faults stay -/
set_option maxHeartbeats 1000000 in
set_option maxRecDepth 100000 in
theorem fzB_X8_copies_23_L2 {S0 : Tr} (x1 : Int32)    (N : Nat) : ∀ (x2 : Int32) (S : Tr), fk S0 S → Ep (lpF (fun _ _ => none) (fB_X8_copies_23_L2 x1) N x2 S) (fun q => fk S0 q) := by
  induction N with
  | zero => intro x2 S _; exact Ep_none
  | succ N ih =>
    intro x2 S hS
    show Ep (fB_X8_copies_23_L2 x1 (lpF (fun _ _ => none) (fB_X8_copies_23_L2 x1) N) x2 S) _
    have hk2 := ih
    clear ih
    generalize lpF (fun _ _ => none) (fB_X8_copies_23_L2 x1) N = k2 at hk2 ⊢
    unfold fB_X8_copies_23_L2
    refine Ep_ite (fun _ => ?_) (fun _ => ?_)
    · exact Ep_some hS
    · refine Ep_ck ?_
      refine Ep_ck ?_
      refine Ep_lt (fun S_4 eS_4 => ?_)
      have hS_4 : fk S0 S_4 := by rw [eS_4]; exact fk_s hS (by omega)
      refine Ep_lt (fun y5 ey5 => ?_)
      exact hk2 y5 S_4 hS_4
set_option maxHeartbeats 1000000 in
set_option maxRecDepth 100000 in
theorem fzL_X8_copies_23_L2 {S0 : Tr} (x1 : Int32)    (x2 : Int32) (S : Tr) (hS : fk S0 S) : Ep (fL_X8_copies_23_L2 x1 x2 S) (fun q => fk S0 q) := by
  unfold fL_X8_copies_23_L2
  exact fzB_X8_copies_23_L2 x1 2000 x2 S hS
set_option maxHeartbeats 1000000 in
set_option maxRecDepth 100000 in
theorem fz_X8_copies_23 {S0 : Tr} (S : Tr) (x1 : Int32) (hS : fk S0 S)   : Ep (f_X8_copies_23 S x1) (fun q => fk S0 q) := by
  unfold f_X8_copies_23
  exact fzL_X8_copies_23_L2 x1 0 S hS
set_option maxHeartbeats 1000000 in
set_option maxRecDepth 100000 in
theorem fzB_X8_copies_24_L2 {S0 : Tr} (x1 : Int32)    (N : Nat) : ∀ (x2 : Int32) (S : Tr), fk S0 S → Ep (lpF (fun _ _ => none) (fB_X8_copies_24_L2 x1) N x2 S) (fun q => fk S0 q) := by
  induction N with
  | zero => intro x2 S _; exact Ep_none
  | succ N ih =>
    intro x2 S hS
    show Ep (fB_X8_copies_24_L2 x1 (lpF (fun _ _ => none) (fB_X8_copies_24_L2 x1) N) x2 S) _
    have hk2 := ih
    clear ih
    generalize lpF (fun _ _ => none) (fB_X8_copies_24_L2 x1) N = k2 at hk2 ⊢
    unfold fB_X8_copies_24_L2
    refine Ep_ite (fun _ => ?_) (fun _ => ?_)
    · exact Ep_some hS
    · refine Ep_ck ?_
      refine Ep_ck ?_
      refine Ep_lt (fun S_4 eS_4 => ?_)
      have hS_4 : fk S0 S_4 := by rw [eS_4]; exact fk_s hS (by omega)
      refine Ep_lt (fun y5 ey5 => ?_)
      exact hk2 y5 S_4 hS_4
set_option maxHeartbeats 1000000 in
set_option maxRecDepth 100000 in
theorem fzL_X8_copies_24_L2 {S0 : Tr} (x1 : Int32)    (x2 : Int32) (S : Tr) (hS : fk S0 S) : Ep (fL_X8_copies_24_L2 x1 x2 S) (fun q => fk S0 q) := by
  unfold fL_X8_copies_24_L2
  exact fzB_X8_copies_24_L2 x1 2000 x2 S hS
set_option maxHeartbeats 1000000 in
set_option maxRecDepth 100000 in
theorem fz_X8_copies_24 {S0 : Tr} (S : Tr) (x1 : Int32) (hS : fk S0 S)   : Ep (f_X8_copies_24 S x1) (fun q => fk S0 q) := by
  unfold f_X8_copies_24
  exact fzL_X8_copies_24_L2 x1 0 S hS
set_option maxHeartbeats 1000000 in
set_option maxRecDepth 100000 in
theorem fzB_X8_copies_25_L2 {S0 : Tr} (x1 : Int32)    (N : Nat) : ∀ (x2 : Int32) (S : Tr), fk S0 S → Ep (lpF (fun _ _ => none) (fB_X8_copies_25_L2 x1) N x2 S) (fun q => fk S0 q) := by
  induction N with
  | zero => intro x2 S _; exact Ep_none
  | succ N ih =>
    intro x2 S hS
    show Ep (fB_X8_copies_25_L2 x1 (lpF (fun _ _ => none) (fB_X8_copies_25_L2 x1) N) x2 S) _
    have hk2 := ih
    clear ih
    generalize lpF (fun _ _ => none) (fB_X8_copies_25_L2 x1) N = k2 at hk2 ⊢
    unfold fB_X8_copies_25_L2
    refine Ep_ite (fun _ => ?_) (fun _ => ?_)
    · exact Ep_some hS
    · refine Ep_ck ?_
      refine Ep_ck ?_
      refine Ep_lt (fun S_4 eS_4 => ?_)
      have hS_4 : fk S0 S_4 := by rw [eS_4]; exact fk_s hS (by omega)
      refine Ep_lt (fun y5 ey5 => ?_)
      exact hk2 y5 S_4 hS_4
set_option maxHeartbeats 1000000 in
set_option maxRecDepth 100000 in
theorem fzL_X8_copies_25_L2 {S0 : Tr} (x1 : Int32)    (x2 : Int32) (S : Tr) (hS : fk S0 S) : Ep (fL_X8_copies_25_L2 x1 x2 S) (fun q => fk S0 q) := by
  unfold fL_X8_copies_25_L2
  exact fzB_X8_copies_25_L2 x1 2000 x2 S hS
set_option maxHeartbeats 1000000 in
set_option maxRecDepth 100000 in
theorem fz_X8_copies_25 {S0 : Tr} (S : Tr) (x1 : Int32) (hS : fk S0 S)   : Ep (f_X8_copies_25 S x1) (fun q => fk S0 q) := by
  unfold f_X8_copies_25
  exact fzL_X8_copies_25_L2 x1 0 S hS
set_option maxHeartbeats 1000000 in
set_option maxRecDepth 100000 in
theorem fzB_X8_copies_26_L2 {S0 : Tr} (x1 : Int32)    (N : Nat) : ∀ (x2 : Int32) (S : Tr), fk S0 S → Ep (lpF (fun _ _ => none) (fB_X8_copies_26_L2 x1) N x2 S) (fun q => fk S0 q) := by
  induction N with
  | zero => intro x2 S _; exact Ep_none
  | succ N ih =>
    intro x2 S hS
    show Ep (fB_X8_copies_26_L2 x1 (lpF (fun _ _ => none) (fB_X8_copies_26_L2 x1) N) x2 S) _
    have hk2 := ih
    clear ih
    generalize lpF (fun _ _ => none) (fB_X8_copies_26_L2 x1) N = k2 at hk2 ⊢
    unfold fB_X8_copies_26_L2
    refine Ep_ite (fun _ => ?_) (fun _ => ?_)
    · exact Ep_some hS
    · refine Ep_ck ?_
      refine Ep_ck ?_
      refine Ep_lt (fun S_4 eS_4 => ?_)
      have hS_4 : fk S0 S_4 := by rw [eS_4]; exact fk_s hS (by omega)
      refine Ep_lt (fun y5 ey5 => ?_)
      exact hk2 y5 S_4 hS_4
set_option maxHeartbeats 1000000 in
set_option maxRecDepth 100000 in
theorem fzL_X8_copies_26_L2 {S0 : Tr} (x1 : Int32)    (x2 : Int32) (S : Tr) (hS : fk S0 S) : Ep (fL_X8_copies_26_L2 x1 x2 S) (fun q => fk S0 q) := by
  unfold fL_X8_copies_26_L2
  exact fzB_X8_copies_26_L2 x1 2000 x2 S hS
set_option maxHeartbeats 1000000 in
set_option maxRecDepth 100000 in
theorem fz_X8_copies_26 {S0 : Tr} (S : Tr) (x1 : Int32) (hS : fk S0 S)   : Ep (f_X8_copies_26 S x1) (fun q => fk S0 q) := by
  unfold f_X8_copies_26
  exact fzL_X8_copies_26_L2 x1 0 S hS
set_option maxHeartbeats 1000000 in
set_option maxRecDepth 100000 in
theorem fzB_X8_copies_27_L2 {S0 : Tr} (x1 : Int32)    (N : Nat) : ∀ (x2 : Int32) (S : Tr), fk S0 S → Ep (lpF (fun _ _ => none) (fB_X8_copies_27_L2 x1) N x2 S) (fun q => fk S0 q) := by
  induction N with
  | zero => intro x2 S _; exact Ep_none
  | succ N ih =>
    intro x2 S hS
    show Ep (fB_X8_copies_27_L2 x1 (lpF (fun _ _ => none) (fB_X8_copies_27_L2 x1) N) x2 S) _
    have hk2 := ih
    clear ih
    generalize lpF (fun _ _ => none) (fB_X8_copies_27_L2 x1) N = k2 at hk2 ⊢
    unfold fB_X8_copies_27_L2
    refine Ep_ite (fun _ => ?_) (fun _ => ?_)
    · exact Ep_some hS
    · refine Ep_ck ?_
      refine Ep_ck ?_
      refine Ep_lt (fun S_4 eS_4 => ?_)
      have hS_4 : fk S0 S_4 := by rw [eS_4]; exact fk_s hS (by omega)
      refine Ep_lt (fun y5 ey5 => ?_)
      exact hk2 y5 S_4 hS_4
set_option maxHeartbeats 1000000 in
set_option maxRecDepth 100000 in
theorem fzL_X8_copies_27_L2 {S0 : Tr} (x1 : Int32)    (x2 : Int32) (S : Tr) (hS : fk S0 S) : Ep (fL_X8_copies_27_L2 x1 x2 S) (fun q => fk S0 q) := by
  unfold fL_X8_copies_27_L2
  exact fzB_X8_copies_27_L2 x1 2000 x2 S hS
set_option maxHeartbeats 1000000 in
set_option maxRecDepth 100000 in
theorem fz_X8_copies_27 {S0 : Tr} (S : Tr) (x1 : Int32) (hS : fk S0 S)   : Ep (f_X8_copies_27 S x1) (fun q => fk S0 q) := by
  unfold f_X8_copies_27
  exact fzL_X8_copies_27_L2 x1 0 S hS
set_option maxHeartbeats 1000000 in
set_option maxRecDepth 100000 in
theorem fzB_X8_copies_28_L2 {S0 : Tr} (x1 : Int32)    (N : Nat) : ∀ (x2 : Int32) (S : Tr), fk S0 S → Ep (lpF (fun _ _ => none) (fB_X8_copies_28_L2 x1) N x2 S) (fun q => fk S0 q) := by
  induction N with
  | zero => intro x2 S _; exact Ep_none
  | succ N ih =>
    intro x2 S hS
    show Ep (fB_X8_copies_28_L2 x1 (lpF (fun _ _ => none) (fB_X8_copies_28_L2 x1) N) x2 S) _
    have hk2 := ih
    clear ih
    generalize lpF (fun _ _ => none) (fB_X8_copies_28_L2 x1) N = k2 at hk2 ⊢
    unfold fB_X8_copies_28_L2
    refine Ep_ite (fun _ => ?_) (fun _ => ?_)
    · exact Ep_some hS
    · refine Ep_ck ?_
      refine Ep_ck ?_
      refine Ep_lt (fun S_4 eS_4 => ?_)
      have hS_4 : fk S0 S_4 := by rw [eS_4]; exact fk_s hS (by omega)
      refine Ep_lt (fun y5 ey5 => ?_)
      exact hk2 y5 S_4 hS_4
set_option maxHeartbeats 1000000 in
set_option maxRecDepth 100000 in
theorem fzL_X8_copies_28_L2 {S0 : Tr} (x1 : Int32)    (x2 : Int32) (S : Tr) (hS : fk S0 S) : Ep (fL_X8_copies_28_L2 x1 x2 S) (fun q => fk S0 q) := by
  unfold fL_X8_copies_28_L2
  exact fzB_X8_copies_28_L2 x1 2000 x2 S hS
set_option maxHeartbeats 1000000 in
set_option maxRecDepth 100000 in
theorem fz_X8_copies_28 {S0 : Tr} (S : Tr) (x1 : Int32) (hS : fk S0 S)   : Ep (f_X8_copies_28 S x1) (fun q => fk S0 q) := by
  unfold f_X8_copies_28
  exact fzL_X8_copies_28_L2 x1 0 S hS
set_option maxHeartbeats 1000000 in
set_option maxRecDepth 100000 in
theorem fzB_X8_copies_29_L2 {S0 : Tr} (x1 : Int32)    (N : Nat) : ∀ (x2 : Int32) (S : Tr), fk S0 S → Ep (lpF (fun _ _ => none) (fB_X8_copies_29_L2 x1) N x2 S) (fun q => fk S0 q) := by
  induction N with
  | zero => intro x2 S _; exact Ep_none
  | succ N ih =>
    intro x2 S hS
    show Ep (fB_X8_copies_29_L2 x1 (lpF (fun _ _ => none) (fB_X8_copies_29_L2 x1) N) x2 S) _
    have hk2 := ih
    clear ih
    generalize lpF (fun _ _ => none) (fB_X8_copies_29_L2 x1) N = k2 at hk2 ⊢
    unfold fB_X8_copies_29_L2
    refine Ep_ite (fun _ => ?_) (fun _ => ?_)
    · exact Ep_some hS
    · refine Ep_ck ?_
      refine Ep_ck ?_
      refine Ep_lt (fun S_4 eS_4 => ?_)
      have hS_4 : fk S0 S_4 := by rw [eS_4]; exact fk_s hS (by omega)
      refine Ep_lt (fun y5 ey5 => ?_)
      exact hk2 y5 S_4 hS_4
set_option maxHeartbeats 1000000 in
set_option maxRecDepth 100000 in
theorem fzL_X8_copies_29_L2 {S0 : Tr} (x1 : Int32)    (x2 : Int32) (S : Tr) (hS : fk S0 S) : Ep (fL_X8_copies_29_L2 x1 x2 S) (fun q => fk S0 q) := by
  unfold fL_X8_copies_29_L2
  exact fzB_X8_copies_29_L2 x1 2000 x2 S hS
set_option maxHeartbeats 1000000 in
set_option maxRecDepth 100000 in
theorem fz_X8_copies_29 {S0 : Tr} (S : Tr) (x1 : Int32) (hS : fk S0 S)   : Ep (f_X8_copies_29 S x1) (fun q => fk S0 q) := by
  unfold f_X8_copies_29
  exact fzL_X8_copies_29_L2 x1 0 S hS
set_option maxHeartbeats 1000000 in
set_option maxRecDepth 100000 in
theorem fzB_X8_copies_30_L2 {S0 : Tr} (x1 : Int32)    (N : Nat) : ∀ (x2 : Int32) (S : Tr), fk S0 S → Ep (lpF (fun _ _ => none) (fB_X8_copies_30_L2 x1) N x2 S) (fun q => fk S0 q) := by
  induction N with
  | zero => intro x2 S _; exact Ep_none
  | succ N ih =>
    intro x2 S hS
    show Ep (fB_X8_copies_30_L2 x1 (lpF (fun _ _ => none) (fB_X8_copies_30_L2 x1) N) x2 S) _
    have hk2 := ih
    clear ih
    generalize lpF (fun _ _ => none) (fB_X8_copies_30_L2 x1) N = k2 at hk2 ⊢
    unfold fB_X8_copies_30_L2
    refine Ep_ite (fun _ => ?_) (fun _ => ?_)
    · exact Ep_some hS
    · refine Ep_ck ?_
      refine Ep_ck ?_
      refine Ep_lt (fun S_4 eS_4 => ?_)
      have hS_4 : fk S0 S_4 := by rw [eS_4]; exact fk_s hS (by omega)
      refine Ep_lt (fun y5 ey5 => ?_)
      exact hk2 y5 S_4 hS_4
set_option maxHeartbeats 1000000 in
set_option maxRecDepth 100000 in
theorem fzL_X8_copies_30_L2 {S0 : Tr} (x1 : Int32)    (x2 : Int32) (S : Tr) (hS : fk S0 S) : Ep (fL_X8_copies_30_L2 x1 x2 S) (fun q => fk S0 q) := by
  unfold fL_X8_copies_30_L2
  exact fzB_X8_copies_30_L2 x1 2000 x2 S hS
set_option maxHeartbeats 1000000 in
set_option maxRecDepth 100000 in
theorem fz_X8_copies_30 {S0 : Tr} (S : Tr) (x1 : Int32) (hS : fk S0 S)   : Ep (f_X8_copies_30 S x1) (fun q => fk S0 q) := by
  unfold f_X8_copies_30
  exact fzL_X8_copies_30_L2 x1 0 S hS
set_option maxHeartbeats 1000000 in
set_option maxRecDepth 100000 in
theorem fzB_X8_copies_31_L2 {S0 : Tr} (x1 : Int32)    (N : Nat) : ∀ (x2 : Int32) (S : Tr), fk S0 S → Ep (lpF (fun _ _ => none) (fB_X8_copies_31_L2 x1) N x2 S) (fun q => fk S0 q) := by
  induction N with
  | zero => intro x2 S _; exact Ep_none
  | succ N ih =>
    intro x2 S hS
    show Ep (fB_X8_copies_31_L2 x1 (lpF (fun _ _ => none) (fB_X8_copies_31_L2 x1) N) x2 S) _
    have hk2 := ih
    clear ih
    generalize lpF (fun _ _ => none) (fB_X8_copies_31_L2 x1) N = k2 at hk2 ⊢
    unfold fB_X8_copies_31_L2
    refine Ep_ite (fun _ => ?_) (fun _ => ?_)
    · exact Ep_some hS
    · refine Ep_ck ?_
      refine Ep_ck ?_
      refine Ep_lt (fun S_4 eS_4 => ?_)
      have hS_4 : fk S0 S_4 := by rw [eS_4]; exact fk_s hS (by omega)
      refine Ep_lt (fun y5 ey5 => ?_)
      exact hk2 y5 S_4 hS_4
set_option maxHeartbeats 1000000 in
set_option maxRecDepth 100000 in
theorem fzL_X8_copies_31_L2 {S0 : Tr} (x1 : Int32)    (x2 : Int32) (S : Tr) (hS : fk S0 S) : Ep (fL_X8_copies_31_L2 x1 x2 S) (fun q => fk S0 q) := by
  unfold fL_X8_copies_31_L2
  exact fzB_X8_copies_31_L2 x1 2000 x2 S hS
set_option maxHeartbeats 1000000 in
set_option maxRecDepth 100000 in
theorem fz_X8_copies_31 {S0 : Tr} (S : Tr) (x1 : Int32) (hS : fk S0 S)   : Ep (f_X8_copies_31 S x1) (fun q => fk S0 q) := by
  unfold f_X8_copies_31
  exact fzL_X8_copies_31_L2 x1 0 S hS
set_option maxHeartbeats 1000000 in
set_option maxRecDepth 100000 in
theorem fzB_X8_copies_32_L2 {S0 : Tr} (x1 : Int32)    (N : Nat) : ∀ (x2 : Int32) (S : Tr), fk S0 S → Ep (lpF (fun _ _ => none) (fB_X8_copies_32_L2 x1) N x2 S) (fun q => fk S0 q) := by
  induction N with
  | zero => intro x2 S _; exact Ep_none
  | succ N ih =>
    intro x2 S hS
    show Ep (fB_X8_copies_32_L2 x1 (lpF (fun _ _ => none) (fB_X8_copies_32_L2 x1) N) x2 S) _
    have hk2 := ih
    clear ih
    generalize lpF (fun _ _ => none) (fB_X8_copies_32_L2 x1) N = k2 at hk2 ⊢
    unfold fB_X8_copies_32_L2
    refine Ep_ite (fun _ => ?_) (fun _ => ?_)
    · exact Ep_some hS
    · refine Ep_ck ?_
      refine Ep_ck ?_
      refine Ep_lt (fun S_4 eS_4 => ?_)
      have hS_4 : fk S0 S_4 := by rw [eS_4]; exact fk_s hS (by omega)
      refine Ep_lt (fun y5 ey5 => ?_)
      exact hk2 y5 S_4 hS_4
set_option maxHeartbeats 1000000 in
set_option maxRecDepth 100000 in
theorem fzL_X8_copies_32_L2 {S0 : Tr} (x1 : Int32)    (x2 : Int32) (S : Tr) (hS : fk S0 S) : Ep (fL_X8_copies_32_L2 x1 x2 S) (fun q => fk S0 q) := by
  unfold fL_X8_copies_32_L2
  exact fzB_X8_copies_32_L2 x1 2000 x2 S hS
set_option maxHeartbeats 1000000 in
set_option maxRecDepth 100000 in
theorem fz_X8_copies_32 {S0 : Tr} (S : Tr) (x1 : Int32) (hS : fk S0 S)   : Ep (f_X8_copies_32 S x1) (fun q => fk S0 q) := by
  unfold f_X8_copies_32
  exact fzL_X8_copies_32_L2 x1 0 S hS
set_option maxHeartbeats 1000000 in
set_option maxRecDepth 100000 in
theorem fzB_X8_copies_33_L2 {S0 : Tr} (x1 : Int32)    (N : Nat) : ∀ (x2 : Int32) (S : Tr), fk S0 S → Ep (lpF (fun _ _ => none) (fB_X8_copies_33_L2 x1) N x2 S) (fun q => fk S0 q) := by
  induction N with
  | zero => intro x2 S _; exact Ep_none
  | succ N ih =>
    intro x2 S hS
    show Ep (fB_X8_copies_33_L2 x1 (lpF (fun _ _ => none) (fB_X8_copies_33_L2 x1) N) x2 S) _
    have hk2 := ih
    clear ih
    generalize lpF (fun _ _ => none) (fB_X8_copies_33_L2 x1) N = k2 at hk2 ⊢
    unfold fB_X8_copies_33_L2
    refine Ep_ite (fun _ => ?_) (fun _ => ?_)
    · exact Ep_some hS
    · refine Ep_ck ?_
      refine Ep_ck ?_
      refine Ep_lt (fun S_4 eS_4 => ?_)
      have hS_4 : fk S0 S_4 := by rw [eS_4]; exact fk_s hS (by omega)
      refine Ep_lt (fun y5 ey5 => ?_)
      exact hk2 y5 S_4 hS_4
set_option maxHeartbeats 1000000 in
set_option maxRecDepth 100000 in
theorem fzL_X8_copies_33_L2 {S0 : Tr} (x1 : Int32)    (x2 : Int32) (S : Tr) (hS : fk S0 S) : Ep (fL_X8_copies_33_L2 x1 x2 S) (fun q => fk S0 q) := by
  unfold fL_X8_copies_33_L2
  exact fzB_X8_copies_33_L2 x1 2000 x2 S hS
set_option maxHeartbeats 1000000 in
set_option maxRecDepth 100000 in
theorem fz_X8_copies_33 {S0 : Tr} (S : Tr) (x1 : Int32) (hS : fk S0 S)   : Ep (f_X8_copies_33 S x1) (fun q => fk S0 q) := by
  unfold f_X8_copies_33
  exact fzL_X8_copies_33_L2 x1 0 S hS
set_option maxHeartbeats 1000000 in
set_option maxRecDepth 100000 in
theorem fzB_X8_copies_34_L2 {S0 : Tr} (x1 : Int32)    (N : Nat) : ∀ (x2 : Int32) (S : Tr), fk S0 S → Ep (lpF (fun _ _ => none) (fB_X8_copies_34_L2 x1) N x2 S) (fun q => fk S0 q) := by
  induction N with
  | zero => intro x2 S _; exact Ep_none
  | succ N ih =>
    intro x2 S hS
    show Ep (fB_X8_copies_34_L2 x1 (lpF (fun _ _ => none) (fB_X8_copies_34_L2 x1) N) x2 S) _
    have hk2 := ih
    clear ih
    generalize lpF (fun _ _ => none) (fB_X8_copies_34_L2 x1) N = k2 at hk2 ⊢
    unfold fB_X8_copies_34_L2
    refine Ep_ite (fun _ => ?_) (fun _ => ?_)
    · exact Ep_some hS
    · refine Ep_ck ?_
      refine Ep_ck ?_
      refine Ep_lt (fun S_4 eS_4 => ?_)
      have hS_4 : fk S0 S_4 := by rw [eS_4]; exact fk_s hS (by omega)
      refine Ep_lt (fun y5 ey5 => ?_)
      exact hk2 y5 S_4 hS_4
set_option maxHeartbeats 1000000 in
set_option maxRecDepth 100000 in
theorem fzL_X8_copies_34_L2 {S0 : Tr} (x1 : Int32)    (x2 : Int32) (S : Tr) (hS : fk S0 S) : Ep (fL_X8_copies_34_L2 x1 x2 S) (fun q => fk S0 q) := by
  unfold fL_X8_copies_34_L2
  exact fzB_X8_copies_34_L2 x1 2000 x2 S hS
set_option maxHeartbeats 1000000 in
set_option maxRecDepth 100000 in
theorem fz_X8_copies_34 {S0 : Tr} (S : Tr) (x1 : Int32) (hS : fk S0 S)   : Ep (f_X8_copies_34 S x1) (fun q => fk S0 q) := by
  unfold f_X8_copies_34
  exact fzL_X8_copies_34_L2 x1 0 S hS
set_option maxHeartbeats 1000000 in
set_option maxRecDepth 100000 in
theorem fzB_X8_copies_37_L2 {S0 : Tr} (x1 : Int32)    (N : Nat) : ∀ (x2 : Int32) (S : Tr), fk S0 S → Ep (lpF (fun _ _ => none) (fB_X8_copies_37_L2 x1) N x2 S) (fun q => fk S0 q) := by
  induction N with
  | zero => intro x2 S _; exact Ep_none
  | succ N ih =>
    intro x2 S hS
    show Ep (fB_X8_copies_37_L2 x1 (lpF (fun _ _ => none) (fB_X8_copies_37_L2 x1) N) x2 S) _
    have hk2 := ih
    clear ih
    generalize lpF (fun _ _ => none) (fB_X8_copies_37_L2 x1) N = k2 at hk2 ⊢
    unfold fB_X8_copies_37_L2
    refine Ep_ite (fun _ => ?_) (fun _ => ?_)
    · exact Ep_some hS
    · refine Ep_ck ?_
      refine Ep_ck ?_
      refine Ep_lt (fun S_4 eS_4 => ?_)
      have hS_4 : fk S0 S_4 := by rw [eS_4]; exact fk_s hS (by omega)
      refine Ep_lt (fun y5 ey5 => ?_)
      exact hk2 y5 S_4 hS_4
set_option maxHeartbeats 1000000 in
set_option maxRecDepth 100000 in
theorem fzL_X8_copies_37_L2 {S0 : Tr} (x1 : Int32)    (x2 : Int32) (S : Tr) (hS : fk S0 S) : Ep (fL_X8_copies_37_L2 x1 x2 S) (fun q => fk S0 q) := by
  unfold fL_X8_copies_37_L2
  exact fzB_X8_copies_37_L2 x1 2000 x2 S hS
set_option maxHeartbeats 1000000 in
set_option maxRecDepth 100000 in
theorem fz_X8_copies_37 {S0 : Tr} (S : Tr) (x1 : Int32) (hS : fk S0 S)   : Ep (f_X8_copies_37 S x1) (fun q => fk S0 q) := by
  unfold f_X8_copies_37
  exact fzL_X8_copies_37_L2 x1 0 S hS
set_option maxHeartbeats 1000000 in
set_option maxRecDepth 100000 in
theorem fzB_X8_copies_38_L2 {S0 : Tr} (x1 : Int32)    (N : Nat) : ∀ (x2 : Int32) (S : Tr), fk S0 S → Ep (lpF (fun _ _ => none) (fB_X8_copies_38_L2 x1) N x2 S) (fun q => fk S0 q) := by
  induction N with
  | zero => intro x2 S _; exact Ep_none
  | succ N ih =>
    intro x2 S hS
    show Ep (fB_X8_copies_38_L2 x1 (lpF (fun _ _ => none) (fB_X8_copies_38_L2 x1) N) x2 S) _
    have hk2 := ih
    clear ih
    generalize lpF (fun _ _ => none) (fB_X8_copies_38_L2 x1) N = k2 at hk2 ⊢
    unfold fB_X8_copies_38_L2
    refine Ep_ite (fun _ => ?_) (fun _ => ?_)
    · exact Ep_some hS
    · refine Ep_ck ?_
      refine Ep_ck ?_
      refine Ep_lt (fun S_4 eS_4 => ?_)
      have hS_4 : fk S0 S_4 := by rw [eS_4]; exact fk_s hS (by omega)
      refine Ep_lt (fun y5 ey5 => ?_)
      exact hk2 y5 S_4 hS_4
set_option maxHeartbeats 1000000 in
set_option maxRecDepth 100000 in
theorem fzL_X8_copies_38_L2 {S0 : Tr} (x1 : Int32)    (x2 : Int32) (S : Tr) (hS : fk S0 S) : Ep (fL_X8_copies_38_L2 x1 x2 S) (fun q => fk S0 q) := by
  unfold fL_X8_copies_38_L2
  exact fzB_X8_copies_38_L2 x1 2000 x2 S hS
set_option maxHeartbeats 1000000 in
set_option maxRecDepth 100000 in
theorem fz_X8_copies_38 {S0 : Tr} (S : Tr) (x1 : Int32) (hS : fk S0 S)   : Ep (f_X8_copies_38 S x1) (fun q => fk S0 q) := by
  unfold f_X8_copies_38
  exact fzL_X8_copies_38_L2 x1 0 S hS
set_option maxHeartbeats 1000000 in
set_option maxRecDepth 100000 in
theorem fzB_X8_copies_39_L2 {S0 : Tr} (x1 : Int32)    (N : Nat) : ∀ (x2 : Int32) (S : Tr), fk S0 S → Ep (lpF (fun _ _ => none) (fB_X8_copies_39_L2 x1) N x2 S) (fun q => fk S0 q) := by
  induction N with
  | zero => intro x2 S _; exact Ep_none
  | succ N ih =>
    intro x2 S hS
    show Ep (fB_X8_copies_39_L2 x1 (lpF (fun _ _ => none) (fB_X8_copies_39_L2 x1) N) x2 S) _
    have hk2 := ih
    clear ih
    generalize lpF (fun _ _ => none) (fB_X8_copies_39_L2 x1) N = k2 at hk2 ⊢
    unfold fB_X8_copies_39_L2
    refine Ep_ite (fun _ => ?_) (fun _ => ?_)
    · exact Ep_some hS
    · refine Ep_ck ?_
      refine Ep_ck ?_
      refine Ep_lt (fun S_4 eS_4 => ?_)
      have hS_4 : fk S0 S_4 := by rw [eS_4]; exact fk_s hS (by omega)
      refine Ep_lt (fun y5 ey5 => ?_)
      exact hk2 y5 S_4 hS_4
set_option maxHeartbeats 1000000 in
set_option maxRecDepth 100000 in
theorem fzL_X8_copies_39_L2 {S0 : Tr} (x1 : Int32)    (x2 : Int32) (S : Tr) (hS : fk S0 S) : Ep (fL_X8_copies_39_L2 x1 x2 S) (fun q => fk S0 q) := by
  unfold fL_X8_copies_39_L2
  exact fzB_X8_copies_39_L2 x1 2000 x2 S hS
set_option maxHeartbeats 1000000 in
set_option maxRecDepth 100000 in
theorem fz_X8_copies_39 {S0 : Tr} (S : Tr) (x1 : Int32) (hS : fk S0 S)   : Ep (f_X8_copies_39 S x1) (fun q => fk S0 q) := by
  unfold f_X8_copies_39
  exact fzL_X8_copies_39_L2 x1 0 S hS
set_option maxHeartbeats 1000000 in
set_option maxRecDepth 100000 in
theorem fzB_X8_copies_40_L2 {S0 : Tr} (x1 : Int32)    (N : Nat) : ∀ (x2 : Int32) (S : Tr), fk S0 S → Ep (lpF (fun _ _ => none) (fB_X8_copies_40_L2 x1) N x2 S) (fun q => fk S0 q) := by
  induction N with
  | zero => intro x2 S _; exact Ep_none
  | succ N ih =>
    intro x2 S hS
    show Ep (fB_X8_copies_40_L2 x1 (lpF (fun _ _ => none) (fB_X8_copies_40_L2 x1) N) x2 S) _
    have hk2 := ih
    clear ih
    generalize lpF (fun _ _ => none) (fB_X8_copies_40_L2 x1) N = k2 at hk2 ⊢
    unfold fB_X8_copies_40_L2
    refine Ep_ite (fun _ => ?_) (fun _ => ?_)
    · exact Ep_some hS
    · refine Ep_ck ?_
      refine Ep_ck ?_
      refine Ep_lt (fun S_4 eS_4 => ?_)
      have hS_4 : fk S0 S_4 := by rw [eS_4]; exact fk_s hS (by omega)
      refine Ep_lt (fun y5 ey5 => ?_)
      exact hk2 y5 S_4 hS_4
set_option maxHeartbeats 1000000 in
set_option maxRecDepth 100000 in
theorem fzL_X8_copies_40_L2 {S0 : Tr} (x1 : Int32)    (x2 : Int32) (S : Tr) (hS : fk S0 S) : Ep (fL_X8_copies_40_L2 x1 x2 S) (fun q => fk S0 q) := by
  unfold fL_X8_copies_40_L2
  exact fzB_X8_copies_40_L2 x1 2000 x2 S hS
set_option maxHeartbeats 1000000 in
set_option maxRecDepth 100000 in
theorem fz_X8_copies_40 {S0 : Tr} (S : Tr) (x1 : Int32) (hS : fk S0 S)   : Ep (f_X8_copies_40 S x1) (fun q => fk S0 q) := by
  unfold f_X8_copies_40
  exact fzL_X8_copies_40_L2 x1 0 S hS
set_option maxHeartbeats 1000000 in
set_option maxRecDepth 100000 in
theorem fzB_X8_copies_41_L2 {S0 : Tr} (x1 : Int32)    (N : Nat) : ∀ (x2 : Int32) (S : Tr), fk S0 S → Ep (lpF (fun _ _ => none) (fB_X8_copies_41_L2 x1) N x2 S) (fun q => fk S0 q) := by
  induction N with
  | zero => intro x2 S _; exact Ep_none
  | succ N ih =>
    intro x2 S hS
    show Ep (fB_X8_copies_41_L2 x1 (lpF (fun _ _ => none) (fB_X8_copies_41_L2 x1) N) x2 S) _
    have hk2 := ih
    clear ih
    generalize lpF (fun _ _ => none) (fB_X8_copies_41_L2 x1) N = k2 at hk2 ⊢
    unfold fB_X8_copies_41_L2
    refine Ep_ite (fun _ => ?_) (fun _ => ?_)
    · exact Ep_some hS
    · refine Ep_ck ?_
      refine Ep_ck ?_
      refine Ep_lt (fun S_4 eS_4 => ?_)
      have hS_4 : fk S0 S_4 := by rw [eS_4]; exact fk_s hS (by omega)
      refine Ep_lt (fun y5 ey5 => ?_)
      exact hk2 y5 S_4 hS_4
set_option maxHeartbeats 1000000 in
set_option maxRecDepth 100000 in
theorem fzL_X8_copies_41_L2 {S0 : Tr} (x1 : Int32)    (x2 : Int32) (S : Tr) (hS : fk S0 S) : Ep (fL_X8_copies_41_L2 x1 x2 S) (fun q => fk S0 q) := by
  unfold fL_X8_copies_41_L2
  exact fzB_X8_copies_41_L2 x1 2000 x2 S hS
set_option maxHeartbeats 1000000 in
set_option maxRecDepth 100000 in
theorem fz_X8_copies_41 {S0 : Tr} (S : Tr) (x1 : Int32) (hS : fk S0 S)   : Ep (f_X8_copies_41 S x1) (fun q => fk S0 q) := by
  unfold f_X8_copies_41
  exact fzL_X8_copies_41_L2 x1 0 S hS
set_option maxHeartbeats 1000000 in
set_option maxRecDepth 100000 in
theorem fzJ_X8_atFirst_J134 {S0 : Tr} (x1 : Int32) (S : Tr) (hS : fk S0 S)   : Ep (fJ_X8_atFirst_J134 x1 S) (fun q => fk S0 q) := by
  unfold fJ_X8_atFirst_J134
  refine Ep_ck ?_
  refine Ep_lt (fun S_5 eS_5 => ?_)
  have hS_5 : fk S0 S_5 := by rw [eS_5]; exact fk_s hS (by omega)
  refine Ep_lt (fun S_6 eS_6 => ?_)
  have hS_6 : fk S0 S_6 := by rw [eS_6]; exact fk_s hS_5 (by omega)
  refine Ep_lt (fun S_7 eS_7 => ?_)
  have hS_7 : fk S0 S_7 := by rw [eS_7]; exact fk_s hS_6 (by omega)
  exact Ep_some hS_7
set_option maxHeartbeats 1000000 in
set_option maxRecDepth 100000 in
theorem fzB_X8_atFirst_L64 {S0 : Tr} (x1 : Int32)    (N : Nat) : ∀ (x2 : Int32) (S : Tr), fk S0 S → Ep (lpF (fun _ _ => none) (fB_X8_atFirst_L64 x1) N x2 S) (fun q => fk S0 q) := by
  induction N with
  | zero => intro x2 S _; exact Ep_none
  | succ N ih =>
    intro x2 S hS
    show Ep (fB_X8_atFirst_L64 x1 (lpF (fun _ _ => none) (fB_X8_atFirst_L64 x1) N) x2 S) _
    have hk64 := ih
    clear ih
    generalize lpF (fun _ _ => none) (fB_X8_atFirst_L64 x1) N = k64 at hk64 ⊢
    unfold fB_X8_atFirst_L64
    refine Ep_ite (fun _ => ?_) (fun _ => ?_)
    · exact fzJ_X8_atFirst_J134 x1 S hS
    · refine Ep_ck ?_
      refine Ep_ck ?_
      refine Ep_lt (fun S_10 eS_10 => ?_)
      have hS_10 : fk S0 S_10 := by rw [eS_10]; exact fk_s hS (by omega)
      refine Ep_lt (fun S_11 eS_11 => ?_)
      have hS_11 : fk S0 S_11 := by rw [eS_11]; exact fk_s hS_10 (by omega)
      refine Ep_lt (fun S_12 eS_12 => ?_)
      have hS_12 : fk S0 S_12 := by rw [eS_12]; exact fk_s hS_11 (by omega)
      refine Ep_lt (fun S_13 eS_13 => ?_)
      have hS_13 : fk S0 S_13 := by rw [eS_13]; exact fk_s hS_12 (by omega)
      refine Ep_lt (fun y14 ey14 => ?_)
      exact hk64 y14 S_13 hS_13
set_option maxHeartbeats 1000000 in
set_option maxRecDepth 100000 in
theorem fzL_X8_atFirst_L64 {S0 : Tr} (x1 : Int32)    (x2 : Int32) (S : Tr) (hS : fk S0 S) : Ep (fL_X8_atFirst_L64 x1 x2 S) (fun q => fk S0 q) := by
  unfold fL_X8_atFirst_L64
  exact fzB_X8_atFirst_L64 x1 2000 x2 S hS
set_option maxHeartbeats 1000000 in
set_option maxRecDepth 100000 in
theorem fzB_X8_atFirst_L40 {S0 : Tr} (x1 : Int32)    (N : Nat) : ∀ (x2 : Int32) (S : Tr), fk S0 S → Ep (lpF (fun _ _ => none) (fB_X8_atFirst_L40 x1) N x2 S) (fun q => fk S0 q) := by
  induction N with
  | zero => intro x2 S _; exact Ep_none
  | succ N ih =>
    intro x2 S hS
    show Ep (fB_X8_atFirst_L40 x1 (lpF (fun _ _ => none) (fB_X8_atFirst_L40 x1) N) x2 S) _
    have hk40 := ih
    clear ih
    generalize lpF (fun _ _ => none) (fB_X8_atFirst_L40 x1) N = k40 at hk40 ⊢
    unfold fB_X8_atFirst_L40
    refine Ep_ite (fun _ => ?_) (fun _ => ?_)
    · exact fzL_X8_atFirst_L64 x1 0 S hS
    · refine Ep_ck ?_
      refine Ep_lt (fun S_16 eS_16 => ?_)
      have hS_16 : fk S0 S_16 := by rw [eS_16]; exact fk_s hS (by omega)
      refine Ep_lt (fun y17 ey17 => ?_)
      exact hk40 y17 S_16 hS_16
set_option maxHeartbeats 1000000 in
set_option maxRecDepth 100000 in
theorem fzL_X8_atFirst_L40 {S0 : Tr} (x1 : Int32)    (x2 : Int32) (S : Tr) (hS : fk S0 S) : Ep (fL_X8_atFirst_L40 x1 x2 S) (fun q => fk S0 q) := by
  unfold fL_X8_atFirst_L40
  exact fzB_X8_atFirst_L40 x1 2000 x2 S hS
set_option maxHeartbeats 1000000 in
set_option maxRecDepth 100000 in
theorem fzB_X8_atFirst_L2 {S0 : Tr} (x1 : Int32)    (N : Nat) : ∀ (x2 : Int32) (S : Tr), fk S0 S → Ep (lpF (fun _ _ => none) (fB_X8_atFirst_L2 x1) N x2 S) (fun q => fk S0 q) := by
  induction N with
  | zero => intro x2 S _; exact Ep_none
  | succ N ih =>
    intro x2 S hS
    show Ep (fB_X8_atFirst_L2 x1 (lpF (fun _ _ => none) (fB_X8_atFirst_L2 x1) N) x2 S) _
    have hk2 := ih
    clear ih
    generalize lpF (fun _ _ => none) (fB_X8_atFirst_L2 x1) N = k2 at hk2 ⊢
    unfold fB_X8_atFirst_L2
    refine Ep_ite (fun _ => ?_) (fun _ => ?_)
    · exact fzL_X8_atFirst_L40 x1 0 S hS
    · refine Ep_ck ?_
      refine Ep_lt (fun S_19 eS_19 => ?_)
      have hS_19 : fk S0 S_19 := by rw [eS_19]; exact fk_s hS (by omega)
      refine Ep_lt (fun S_20 eS_20 => ?_)
      have hS_20 : fk S0 S_20 := by rw [eS_20]; exact fk_s hS_19 (by omega)
      refine Ep_lt (fun y21 ey21 => ?_)
      exact hk2 y21 S_20 hS_20
set_option maxHeartbeats 1000000 in
set_option maxRecDepth 100000 in
theorem fzL_X8_atFirst_L2 {S0 : Tr} (x1 : Int32)    (x2 : Int32) (S : Tr) (hS : fk S0 S) : Ep (fL_X8_atFirst_L2 x1 x2 S) (fun q => fk S0 q) := by
  unfold fL_X8_atFirst_L2
  exact fzB_X8_atFirst_L2 x1 2000 x2 S hS
set_option maxHeartbeats 1000000 in
set_option maxRecDepth 100000 in
theorem fz_X8_atFirst {S0 : Tr} (S : Tr) (x1 : Int32) (hS : fk S0 S)   : Ep (f_X8_atFirst S x1) (fun q => fk S0 q) := by
  unfold f_X8_atFirst
  exact fzL_X8_atFirst_L2 x1 0 S hS
set_option maxHeartbeats 1000000 in
set_option maxRecDepth 100000 in
theorem fzB_X8_plainTried_L42 {S0 : Tr}     (N : Nat) : ∀ (x1 : Int32) (S : Tr), fk S0 S → Ep (lpF (fun _ _ => none) (fB_X8_plainTried_L42) N x1 S) (fun q => fk S0 q) := by
  induction N with
  | zero => intro x1 S _; exact Ep_none
  | succ N ih =>
    intro x1 S hS
    show Ep (fB_X8_plainTried_L42 (lpF (fun _ _ => none) (fB_X8_plainTried_L42) N) x1 S) _
    have hk42 := ih
    clear ih
    generalize lpF (fun _ _ => none) (fB_X8_plainTried_L42) N = k42 at hk42 ⊢
    unfold fB_X8_plainTried_L42
    refine Ep_ite (fun _ => ?_) (fun _ => ?_)
    · exact Ep_some hS
    · refine Ep_ck ?_
      refine Ep_lt (fun S_10 eS_10 => ?_)
      have hS_10 : fk S0 S_10 := by rw [eS_10]; exact fk_s hS (by omega)
      refine Ep_lt (fun y11 ey11 => ?_)
      exact hk42 y11 S_10 hS_10
set_option maxHeartbeats 1000000 in
set_option maxRecDepth 100000 in
theorem fzL_X8_plainTried_L42 {S0 : Tr}     (x1 : Int32) (S : Tr) (hS : fk S0 S) : Ep (fL_X8_plainTried_L42 x1 S) (fun q => fk S0 q) := by
  unfold fL_X8_plainTried_L42
  exact fzB_X8_plainTried_L42 2000 x1 S hS
set_option maxHeartbeats 1000000 in
set_option maxRecDepth 100000 in
theorem fz_X8_plainTried {S0 : Tr} (S : Tr) (hS : fk S0 S)   : Ep (f_X8_plainTried S) (fun q => fk S0 q) := by
  unfold f_X8_plainTried
  refine Ep_lt (fun S_1 eS_1 => ?_)
  have hS_1 : fk S0 S_1 := by rw [eS_1]; exact fk_s hS (by omega)
  refine Ep_lt (fun S_2 eS_2 => ?_)
  have hS_2 : fk S0 S_2 := by rw [eS_2]; exact fk_s hS_1 (by omega)
  refine Ep_lt (fun S_3 eS_3 => ?_)
  have hS_3 : fk S0 S_3 := by rw [eS_3]; exact fk_s hS_2 (by omega)
  refine Ep_lt (fun S_4 eS_4 => ?_)
  have hS_4 : fk S0 S_4 := by rw [eS_4]; exact fk_s hS_3 (by omega)
  refine Ep_lt (fun S_5 eS_5 => ?_)
  have hS_5 : fk S0 S_5 := by rw [eS_5]; exact fk_s hS_4 (by omega)
  refine Ep_lt (fun S_6 eS_6 => ?_)
  have hS_6 : fk S0 S_6 := by rw [eS_6]; exact fk_s hS_5 (by omega)
  refine Ep_lt (fun S_7 eS_7 => ?_)
  have hS_7 : fk S0 S_7 := by rw [eS_7]; exact fk_s hS_6 (by omega)
  exact fzL_X8_plainTried_L42 0 S_7 hS_7
set_option maxHeartbeats 1000000 in
set_option maxRecDepth 100000 in
theorem fz_X8_begin {S0 : Tr} (S : Tr) (L : Lo) (hS : fk S0 S)   : Ep (f_X8_begin S L) (fun q => fk S0 q.1) := by
  unfold f_X8_begin
  refine Ep_bd (fz_X8_atFirst S (0 : Int32) hS) (fun S_1 hS_1 => ?_)
  refine Ep_lt (fun L_4 eL_4 => ?_)
  refine Ep_bd (fz_X8_plainTried S_1 hS_1) (fun S_5 hS_5 => ?_)
  refine Ep_lt (fun S_8 eS_8 => ?_)
  have hS_8 : fk S0 S_8 := by rw [eS_8]; exact fk_s hS_5 (by omega)
  refine Ep_lt (fun S_9 eS_9 => ?_)
  have hS_9 : fk S0 S_9 := by rw [eS_9]; exact fk_s hS_8 (by omega)
  refine Ep_lt (fun S_10 eS_10 => ?_)
  have hS_10 : fk S0 S_10 := by rw [eS_10]; exact fk_s hS_9 (by omega)
  refine Ep_lt (fun S_11 eS_11 => ?_)
  have hS_11 : fk S0 S_11 := by rw [eS_11]; exact fk_s hS_10 (by omega)
  exact Ep_some hS_11
set_option maxHeartbeats 1000000 in
set_option maxRecDepth 100000 in
theorem fzJ_X8_keepText_J164 {S0 : Tr} (S : Tr) (L : Lo) (hS : fk S0 S)   : Ep (fJ_X8_keepText_J164 S L) (fun q => fk S0 q.1) := by
  unfold fJ_X8_keepText_J164
  refine Ep_bd (fz_X8_copies_37 S (3 : Int32) hS) (fun S_42 hS_42 => ?_)
  refine Ep_bd (fz_X8_copies_38 S_42 (3 : Int32) hS_42) (fun S_45 hS_45 => ?_)
  refine Ep_bd (fz_X8_copies_39 S_45 (64 : Int32) hS_45) (fun S_48 hS_48 => ?_)
  refine Ep_bd (fz_X8_copies_40 S_48 (64 : Int32) hS_48) (fun S_51 hS_51 => ?_)
  refine Ep_bd (fz_X8_copies_41 S_51 (64 : Int32) hS_51) (fun S_54 hS_54 => ?_)
  refine Ep_bd (fz_X8_begin S_54 L hS_54) (fun q hq => ?_)
  refine Ep_lt (fun S_57 eS_57 => ?_)
  have hS_57 : fk S0 S_57 := by rw [eS_57]; exact hq
  refine Ep_lt (fun L_58 eL_58 => ?_)
  exact Ep_some hS_57
set_option maxHeartbeats 1000000 in
set_option maxRecDepth 100000 in
theorem fzB_X8_keepText_L139 {S0 : Tr} (L : Lo)    (N : Nat) : ∀ (x1 : Int32) (S : Tr), fk S0 S → Ep (lpF (fun _ _ => none) (fB_X8_keepText_L139 L) N x1 S) (fun q => fk S0 q.1) := by
  induction N with
  | zero => intro x1 S _; exact Ep_none
  | succ N ih =>
    intro x1 S hS
    show Ep (fB_X8_keepText_L139 L (lpF (fun _ _ => none) (fB_X8_keepText_L139 L) N) x1 S) _
    have hk139 := ih
    clear ih
    generalize lpF (fun _ _ => none) (fB_X8_keepText_L139 L) N = k139 at hk139 ⊢
    unfold fB_X8_keepText_L139
    refine Ep_ite (fun _ => ?_) (fun _ => ?_)
    · exact fzJ_X8_keepText_J164 S L hS
    · refine Ep_ck ?_
      refine Ep_ck ?_
      refine Ep_lt (fun S_63 eS_63 => ?_)
      have hS_63 : fk S0 S_63 := by rw [eS_63]; exact fk_s hS (by omega)
      refine Ep_lt (fun y64 ey64 => ?_)
      exact hk139 y64 S_63 hS_63
set_option maxHeartbeats 1000000 in
set_option maxRecDepth 100000 in
theorem fzL_X8_keepText_L139 {S0 : Tr} (L : Lo)    (x1 : Int32) (S : Tr) (hS : fk S0 S) : Ep (fL_X8_keepText_L139 L x1 S) (fun q => fk S0 q.1) := by
  unfold fL_X8_keepText_L139
  exact fzB_X8_keepText_L139 L 2000 x1 S hS
set_option maxHeartbeats 1000000 in
set_option maxRecDepth 100000 in
theorem fz_X8_keepText {S0 : Tr} (S : Tr) (L : Lo) (hS : fk S0 S)   : Ep (f_X8_keepText S L) (fun q => fk S0 q.1) := by
  unfold f_X8_keepText
  refine Ep_lt (fun S_1 eS_1 => ?_)
  have hS_1 : fk S0 S_1 := by rw [eS_1]; exact fk_s hS (by omega)
  refine Ep_lt (fun S_2 eS_2 => ?_)
  have hS_2 : fk S0 S_2 := by rw [eS_2]; exact fk_s hS_1 (by omega)
  refine Ep_lt (fun S_3 eS_3 => ?_)
  have hS_3 : fk S0 S_3 := by rw [eS_3]; exact fk_s hS_2 (by omega)
  refine Ep_lt (fun S_4 eS_4 => ?_)
  have hS_4 : fk S0 S_4 := by rw [eS_4]; exact fk_s hS_3 (by omega)
  refine Ep_bd (fz_X8_copies_23 S_4 (3 : Int32) hS_4) (fun S_5 hS_5 => ?_)
  refine Ep_bd (fz_X8_copies_24 S_5 (5 : Int32) hS_5) (fun S_8 hS_8 => ?_)
  refine Ep_bd (fz_X8_copies_25 S_8 (5 : Int32) hS_8) (fun S_11 hS_11 => ?_)
  refine Ep_bd (fz_X8_copies_26 S_11 (6 : Int32) hS_11) (fun S_14 hS_14 => ?_)
  refine Ep_bd (fz_X8_copies_27 S_14 (6 : Int32) hS_14) (fun S_17 hS_17 => ?_)
  refine Ep_bd (fz_X8_copies_28 S_17 (6 : Int32) hS_17) (fun S_20 hS_20 => ?_)
  refine Ep_bd (fz_X8_copies_29 S_20 (6 : Int32) hS_20) (fun S_23 hS_23 => ?_)
  refine Ep_bd (fz_X8_copies_30 S_23 (10 : Int32) hS_23) (fun S_26 hS_26 => ?_)
  refine Ep_bd (fz_X8_copies_31 S_26 (10 : Int32) hS_26) (fun S_29 hS_29 => ?_)
  refine Ep_bd (fz_X8_copies_32 S_29 (10 : Int32) hS_29) (fun S_32 hS_32 => ?_)
  refine Ep_bd (fz_X8_copies_33 S_32 (10 : Int32) hS_32) (fun S_35 hS_35 => ?_)
  refine Ep_bd (fz_X8_copies_34 S_35 (21 : Int32) hS_35) (fun S_38 hS_38 => ?_)
  exact fzL_X8_keepText_L139 L 0 S_38 hS_38
set_option maxHeartbeats 1000000 in
set_option maxRecDepth 100000 in
theorem fzJ_X8_feed_J113 {S0 : Tr} (S : Tr) (hS : fk S0 S)   : Ep (fJ_X8_feed_J113 S) (fun q => fk S0 q.2) := by
  unfold fJ_X8_feed_J113
  refine Ep_lt (fun S_4 eS_4 => ?_)
  have hS_4 : fk S0 S_4 := by rw [eS_4]; exact fk_s hS (by omega)
  exact Ep_some hS_4
set_option maxHeartbeats 1000000 in
set_option maxRecDepth 100000 in
theorem fzJ_X8_feed_J76 {S0 : Tr} (k23 : Int32 → Tr → Option (Int32 × Tr)) (x1 : Int32) (x2 : Int32) (x3 : Int32) (x4 : Int32) (x5 : Int32) (x6 : Int32) (s0 : Int32) (S : Tr) (hS : fk S0 S) (hk23 : ∀ (x6 : Int32) (S : Tr), fk S0 S → Ep (k23 x6 S) (fun q => fk S0 q.2))  : Ep (fJ_X8_feed_J76 k23 x1 x2 x3 x4 x5 x6 s0 S) (fun q => fk S0 q.2) := by
  unfold fJ_X8_feed_J76
  refine Ep_ck ?_
  refine Ep_lt (fun S_10 eS_10 => ?_)
  have hS_10 : fk S0 S_10 := by rw [eS_10]; exact fk_s hS (by omega)
  refine Ep_lt (fun y11 ey11 => ?_)
  exact hk23 y11 S_10 hS_10
set_option maxHeartbeats 1000000 in
set_option maxRecDepth 100000 in
theorem fzB_X8_feed_L23 {S0 : Tr} (x1 : Int32) (x2 : Int32) (x3 : Int32) (x4 : Int32) (x5 : Int32)    (N : Nat) : ∀ (x6 : Int32) (S : Tr), fk S0 S → Ep (lpF (fun _ _ => none) (fB_X8_feed_L23 x1 x2 x3 x4 x5) N x6 S) (fun q => fk S0 q.2) := by
  induction N with
  | zero => intro x6 S _; exact Ep_none
  | succ N ih =>
    intro x6 S hS
    show Ep (fB_X8_feed_L23 x1 x2 x3 x4 x5 (lpF (fun _ _ => none) (fB_X8_feed_L23 x1 x2 x3 x4 x5) N) x6 S) _
    have hk23 := ih
    clear ih
    generalize lpF (fun _ _ => none) (fB_X8_feed_L23 x1 x2 x3 x4 x5) N = k23 at hk23 ⊢
    unfold fB_X8_feed_L23
    refine Ep_ite (fun _ => ?_) (fun _ => ?_)
    · exact fzJ_X8_feed_J113 S hS
    · refine Ep_ite (fun _ => ?_) (fun _ => ?_)
      · refine Ep_ite (fun _ => ?_) (fun _ => ?_)
        · refine Ep_ite (fun _ => ?_) (fun _ => ?_)
          · refine Ep_ite (fun _ => ?_) (fun _ => ?_)
            · exact fzJ_X8_feed_J76 k23 x1 x2 x3 x4 x5 x6 x5 S hS hk23
            · exact fzJ_X8_feed_J76 k23 x1 x2 x3 x4 x5 x6 x4 S hS hk23
          · exact fzJ_X8_feed_J76 k23 x1 x2 x3 x4 x5 x6 x3 S hS hk23
        · exact fzJ_X8_feed_J76 k23 x1 x2 x3 x4 x5 x6 x2 S hS hk23
      · exact fzJ_X8_feed_J76 k23 x1 x2 x3 x4 x5 x6 x1 S hS hk23
set_option maxHeartbeats 1000000 in
set_option maxRecDepth 100000 in
theorem fzL_X8_feed_L23 {S0 : Tr} (x1 : Int32) (x2 : Int32) (x3 : Int32) (x4 : Int32) (x5 : Int32)    (x6 : Int32) (S : Tr) (hS : fk S0 S) : Ep (fL_X8_feed_L23 x1 x2 x3 x4 x5 x6 S) (fun q => fk S0 q.2) := by
  unfold fL_X8_feed_L23
  exact fzB_X8_feed_L23 x1 x2 x3 x4 x5 2000 x6 S hS
set_option maxHeartbeats 1000000 in
set_option maxRecDepth 100000 in
theorem fz_X8_feed {S0 : Tr} (S : Tr) (x1 : Int32) (x2 : Int32) (x3 : Int32) (x4 : Int32) (x5 : Int32) (hS : fk S0 S)   : Ep (f_X8_feed S x1 x2 x3 x4 x5) (fun q => fk S0 q.2) := by
  unfold f_X8_feed
  refine Ep_lt (fun S_1 eS_1 => ?_)
  have hS_1 : fk S0 S_1 := by rw [eS_1]; exact fk_s hS (by omega)
  refine Ep_ite (fun _ => ?_) (fun _ => ?_)
  · exact fzL_X8_feed_L23 x1 x2 x3 x4 x5 0 S_1 hS_1
  · exact Ep_some hS_1
