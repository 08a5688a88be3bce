/-! the class: the stop, the image's mark stay -/
def tz (T T1 : Tr) : Prop := T1 0 0 = T 0 0
theorem tz_s {T0 T : Tr} {a i : Nat} {v : Int32} (h : tz T0 T) (hn : ¬ (a = 0 ∧ i = 0)) : tz T0 (st T a i v) := by
  unfold tz at h ⊢; rw [st_no (fun e => hn ⟨e.1.symm, e.2.symm⟩)]; exact h
theorem tz_c {T0 T : Tr} {a : Nat} {f : Nat → Int32} (h : tz T0 T) (ha : ¬ 0 = a) : tz T0 (stC T a f) := by
  unfold tz at h ⊢; rw [stC_oth ha]; exact h
def zy (Z Z1 : Tr) : Prop := ∀ a j, ((a = 0 ∧ j ≤ 1) ∨ (3 ≤ a ∧ a ≤ 6)) → Z1 a j = Z a j
theorem zy_r {Z : Tr} : zy Z Z := fun _ _ _ => rfl
theorem zy_s {Z0 Z : Tr} {a i : Nat} {v : Int32} (h : zy Z0 Z) (hn : ¬ ((a = 0 ∧ i ≤ 1) ∨ (3 ≤ a ∧ a ≤ 6))) : zy Z0 (st Z a i v) := fun b j hb => by
  rw [st_no (fun e => by obtain ⟨e1, e2⟩ := e; subst e1 e2; exact hn hb)]; exact h b j hb
theorem zy_c {Z0 Z : Tr} {a : Nat} {f : Nat → Int32} (h : zy Z0 Z) (hn : ¬ (a = 0 ∨ (3 ≤ a ∧ a ≤ 6))) : zy Z0 (stC Z a f) := fun b j hb => by
  rw [stC_oth (fun e => hn (by omega))]; exact h b j hb
def xz (X X1 : Tr) : Prop := X1 0 4 = X 0 4
theorem xz_s {X0 X : Tr} {a i : Nat} {v : Int32} (h : xz X0 X) (hn : ¬ (a = 0 ∧ i = 4)) : xz X0 (st X a i v) := by
  unfold xz at h ⊢; rw [st_no (fun e => hn ⟨e.1.symm, e.2.symm⟩)]; exact h
set_option maxHeartbeats 1000000 in
set_option maxRecDepth 100000 in
theorem tzJ_X6_takeAway_J70 {T0 : Tr} (P : Tr) (x1 : Int32) (x2 : Int32) (x4 : Int32) (T : Tr) (hT : tz T0 T)   : Ep (fJ_X6_takeAway_J70 P x1 x2 x4 T) (fun q => tz T0 q) := by
  unfold fJ_X6_takeAway_J70
  refine Ep_ck ?_
  refine Ep_lt (fun T_10 eT_10 => ?_)
  have hT_10 : tz T0 T_10 := by rw [eT_10]; exact tz_s hT (by omega)
  refine Ep_ck ?_
  refine Ep_lt (fun T_12 eT_12 => ?_)
  have hT_12 : tz T0 T_12 := by rw [eT_12]; exact tz_s hT_10 (by omega)
  refine Ep_lt (fun T_13 eT_13 => ?_)
  have hT_13 : tz T0 T_13 := by rw [eT_13]; exact tz_s hT_12 (by omega)
  refine Ep_lt (fun T_14 eT_14 => ?_)
  have hT_14 : tz T0 T_14 := by rw [eT_14]; exact tz_s hT_13 (by omega)
  exact Ep_some hT_14
set_option maxHeartbeats 1000000 in
set_option maxRecDepth 100000 in
theorem tzB_X6_takeAway_L22 {T0 : Tr} (P : Tr) (x1 : Int32) (x2 : Int32) (x4 : Int32)    (N : Nat) : ∀ (x5 : Int32) (T : Tr), tz T0 T → Ep (lpF (fun _ _ => none) (fB_X6_takeAway_L22 P x1 x2 x4) N x5 T) (fun q => tz T0 q) := by
  induction N with
  | zero => intro x5 T _; exact Ep_none
  | succ N ih =>
    intro x5 T hT
    show Ep (fB_X6_takeAway_L22 P x1 x2 x4 (lpF (fun _ _ => none) (fB_X6_takeAway_L22 P x1 x2 x4) N) x5 T) _
    have hk22 := ih
    clear ih
    generalize lpF (fun _ _ => none) (fB_X6_takeAway_L22 P x1 x2 x4) N = k22 at hk22 ⊢
    unfold fB_X6_takeAway_L22
    refine Ep_ck ?_
    refine Ep_ite (fun _ => ?_) (fun _ => ?_)
    · exact tzJ_X6_takeAway_J70 P x1 x2 x4 T hT
    · refine Ep_ck ?_
      refine Ep_ck ?_
      refine Ep_lt (fun T_17 eT_17 => ?_)
      have hT_17 : tz T0 T_17 := by rw [eT_17]; exact tz_s hT (by omega)
      refine Ep_lt (fun y18 ey18 => ?_)
      exact hk22 y18 T_17 hT_17
set_option maxHeartbeats 1000000 in
set_option maxRecDepth 100000 in
theorem tzL_X6_takeAway_L22 {T0 : Tr} (P : Tr) (x1 : Int32) (x2 : Int32) (x4 : Int32)    (x5 : Int32) (T : Tr) (hT : tz T0 T) : Ep (fL_X6_takeAway_L22 P x1 x2 x4 x5 T) (fun q => tz T0 q) := by
  unfold fL_X6_takeAway_L22
  exact tzB_X6_takeAway_L22 P x1 x2 x4 2000 x5 T hT
set_option maxHeartbeats 1000000 in
set_option maxRecDepth 100000 in
theorem tz_X6_takeAway {T0 : Tr} (T : Tr) (P : Tr) (x1 : Int32) (x2 : Int32) (hT : tz T0 T)   : Ep (f_X6_takeAway T P x1 x2) (fun q => tz T0 q) := by
  unfold f_X6_takeAway
  refine Ep_any (fun r1 => ?_)
  refine Ep_ite (fun _ => ?_) (fun _ => ?_)
  · refine Ep_ck ?_
    refine Ep_lt (fun y6 ey6 => ?_)
    exact tzL_X6_takeAway_L22 P x1 x2 y6 r1 T hT
  · exact Ep_some hT
set_option maxHeartbeats 1000000 in
set_option maxRecDepth 100000 in
theorem tz_X6_putOn {T0 : Tr} (T : Tr) (P : Tr) (x1 : Int32) (x2 : Int32) (hT : tz T0 T)   : Ep (f_X6_putOn T P x1 x2) (fun q => tz T0 q) := by
  unfold f_X6_putOn
  refine Ep_ck ?_
  refine Ep_lt (fun y2 ey2 => ?_)
  refine Ep_ite (fun _ => ?_) (fun _ => ?_)
  · exact Ep_some hT
  · refine Ep_ck ?_
    refine Ep_lt (fun T_5 eT_5 => ?_)
    have hT_5 : tz T0 T_5 := by rw [eT_5]; exact tz_s hT (by omega)
    refine Ep_lt (fun T_6 eT_6 => ?_)
    have hT_6 : tz T0 T_6 := by rw [eT_6]; exact tz_s hT_5 (by omega)
    refine Ep_ck ?_
    refine Ep_lt (fun T_8 eT_8 => ?_)
    have hT_8 : tz T0 T_8 := by rw [eT_8]; exact tz_s hT_6 (by omega)
    refine Ep_lt (fun T_9 eT_9 => ?_)
    have hT_9 : tz T0 T_9 := by rw [eT_9]; exact tz_s hT_8 (by omega)
    refine Ep_lt (fun T_10 eT_10 => ?_)
    have hT_10 : tz T0 T_10 := by rw [eT_10]; exact tz_s hT_9 (by omega)
    exact Ep_some hT_10
set_option maxHeartbeats 1000000 in
set_option maxRecDepth 100000 in
theorem tzJ_X6_turnOver_J129 {T0 : Tr} (k52 : Int32 → Tr → Option (Int32 × Tr)) (P : Tr) (x1 : Int32) (x2 : Int32) (x3 : Int32) (x4 : Int32) (x5 : Int32) (x6 : Int32) (T : Tr) (hT : tz T0 T) (hk52 : ∀ (x4 : Int32) (T : Tr), tz T0 T → Ep (k52 x4 T) (fun q => tz T0 q.2))  : Ep (fJ_X6_turnOver_J129 k52 P x1 x2 x3 x4 x5 x6 T) (fun q => tz T0 q.2) := by
  unfold fJ_X6_turnOver_J129
  refine Ep_ck ?_
  refine Ep_lt (fun T_10 eT_10 => ?_)
  have hT_10 : tz T0 T_10 := by rw [eT_10]; exact tz_s hT (by omega)
  refine Ep_lt (fun y11 ey11 => ?_)
  exact hk52 y11 T_10 hT_10
set_option maxHeartbeats 1000000 in
set_option maxRecDepth 100000 in
theorem tzB_X6_turnOver_L78 {T0 : Tr} (k52 : Int32 → Tr → Option (Int32 × Tr)) (P : Tr) (x1 : Int32) (x2 : Int32) (x3 : Int32) (x4 : Int32) (x5 : Int32)  (hk52 : ∀ (x4 : Int32) (T : Tr), tz T0 T → Ep (k52 x4 T) (fun q => tz T0 q.2))  (N : Nat) : ∀ (x6 : Int32) (T : Tr), tz T0 T → Ep (lpF (fun _ _ => none) (fB_X6_turnOver_L78 k52 P x1 x2 x3 x4 x5) N x6 T) (fun q => tz T0 q.2) := by
  induction N with
  | zero => intro x6 T _; exact Ep_none
  | succ N ih =>
    intro x6 T hT
    show Ep (fB_X6_turnOver_L78 k52 P x1 x2 x3 x4 x5 (lpF (fun _ _ => none) (fB_X6_turnOver_L78 k52 P x1 x2 x3 x4 x5) N) x6 T) _
    have hk78 := ih
    clear ih
    generalize lpF (fun _ _ => none) (fB_X6_turnOver_L78 k52 P x1 x2 x3 x4 x5) N = k78 at hk78 ⊢
    unfold fB_X6_turnOver_L78
    refine Ep_ite (fun _ => ?_) (fun _ => ?_)
    · exact tzJ_X6_turnOver_J129 k52 P x1 x2 x3 x4 x5 x6 T hT hk52
    · refine Ep_ck ?_
      refine Ep_any (fun r13 => ?_)
      refine Ep_ite (fun _ => ?_) (fun _ => ?_)
      · exact tzJ_X6_turnOver_J129 k52 P x1 x2 x3 x4 x5 x6 T hT hk52
      · refine Ep_ck ?_
        refine Ep_lt (fun T_18 eT_18 => ?_)
        have hT_18 : tz T0 T_18 := by rw [eT_18]; exact tz_s hT (by omega)
        refine Ep_lt (fun y19 ey19 => ?_)
        exact hk78 y19 T_18 hT_18
set_option maxHeartbeats 1000000 in
set_option maxRecDepth 100000 in
theorem tzL_X6_turnOver_L78 {T0 : Tr} (k52 : Int32 → Tr → Option (Int32 × Tr)) (P : Tr) (x1 : Int32) (x2 : Int32) (x3 : Int32) (x4 : Int32) (x5 : Int32)  (hk52 : ∀ (x4 : Int32) (T : Tr), tz T0 T → Ep (k52 x4 T) (fun q => tz T0 q.2))  (x6 : Int32) (T : Tr) (hT : tz T0 T) : Ep (fL_X6_turnOver_L78 k52 P x1 x2 x3 x4 x5 x6 T) (fun q => tz T0 q.2) := by
  unfold fL_X6_turnOver_L78
  exact tzB_X6_turnOver_L78 k52 P x1 x2 x3 x4 x5 hk52 2000 x6 T hT
set_option maxHeartbeats 1000000 in
set_option maxRecDepth 100000 in
theorem tzB_X6_turnOver_L52 {T0 : Tr} (P : Tr) (x1 : Int32) (x2 : Int32) (x3 : Int32)    (N : Nat) : ∀ (x4 : Int32) (T : Tr), tz T0 T → Ep (lpF (fun _ _ => none) (fB_X6_turnOver_L52 P x1 x2 x3) N x4 T) (fun q => tz T0 q.2) := by
  induction N with
  | zero => intro x4 T _; exact Ep_none
  | succ N ih =>
    intro x4 T hT
    show Ep (fB_X6_turnOver_L52 P x1 x2 x3 (lpF (fun _ _ => none) (fB_X6_turnOver_L52 P x1 x2 x3) N) x4 T) _
    have hk52 := ih
    clear ih
    generalize lpF (fun _ _ => none) (fB_X6_turnOver_L52 P x1 x2 x3) N = k52 at hk52 ⊢
    unfold fB_X6_turnOver_L52
    refine Ep_ck ?_
    refine Ep_ite (fun _ => ?_) (fun _ => ?_)
    · exact Ep_some hT
    · refine Ep_ck ?_
      refine Ep_lt (fun y7 ey7 => ?_)
      exact tzL_X6_turnOver_L78 k52 P x1 x2 x3 x4 y7 hk52 x4 T hT
set_option maxHeartbeats 1000000 in
set_option maxRecDepth 100000 in
theorem tzL_X6_turnOver_L52 {T0 : Tr} (P : Tr) (x1 : Int32) (x2 : Int32) (x3 : Int32)    (x4 : Int32) (T : Tr) (hT : tz T0 T) : Ep (fL_X6_turnOver_L52 P x1 x2 x3 x4 T) (fun q => tz T0 q.2) := by
  unfold fL_X6_turnOver_L52
  exact tzB_X6_turnOver_L52 P x1 x2 x3 2000 x4 T hT
set_option maxHeartbeats 1000000 in
set_option maxRecDepth 100000 in
theorem tzB_X6_turnOver_L10 {T0 : Tr} (T : Tr) (P : Tr) (x1 : Int32) (x2 : Int32) (hT : tz T0 T)   (N : Nat) : ∀ (x3 : Int32) (x4 : Int32), Ep (lpF (fun _ _ => none) (fB_X6_turnOver_L10 T P x1 x2) N x3 x4) (fun q => tz T0 q.2) := by
  induction N with
  | zero => intro x3 x4; exact Ep_none
  | succ N ih =>
    intro x3 x4
    show Ep (fB_X6_turnOver_L10 T P x1 x2 (lpF (fun _ _ => none) (fB_X6_turnOver_L10 T P x1 x2) N) x3 x4) _
    have hk10 := ih
    clear ih
    generalize lpF (fun _ _ => none) (fB_X6_turnOver_L10 T P x1 x2) N = k10 at hk10 ⊢
    unfold fB_X6_turnOver_L10
    refine Ep_ck ?_
    refine Ep_ite (fun _ => ?_) (fun _ => ?_)
    · exact tzL_X6_turnOver_L52 P x1 x2 x3 1 T hT
    · refine Ep_ck ?_
      refine Ep_any (fun r21 => ?_)
      refine Ep_ite (fun _ => ?_) (fun _ => ?_)
      · refine Ep_lt (fun y25 ey25 => ?_)
        exact hk10 x3 y25
      · refine Ep_lt (fun y26 ey26 => ?_)
        refine Ep_lt (fun y27 ey27 => ?_)
        exact hk10 y26 y27
set_option maxHeartbeats 1000000 in
set_option maxRecDepth 100000 in
theorem tzL_X6_turnOver_L10 {T0 : Tr} (T : Tr) (P : Tr) (x1 : Int32) (x2 : Int32) (hT : tz T0 T)   (x3 : Int32) (x4 : Int32)  : Ep (fL_X6_turnOver_L10 T P x1 x2 x3 x4) (fun q => tz T0 q.2) := by
  unfold fL_X6_turnOver_L10
  exact tzB_X6_turnOver_L10 T P x1 x2 hT 2000 x3 x4
set_option maxHeartbeats 1000000 in
set_option maxRecDepth 100000 in
theorem tz_X6_turnOver {T0 : Tr} (T : Tr) (P : Tr) (x1 : Int32) (hT : tz T0 T)   : Ep (f_X6_turnOver T P x1) (fun q => tz T0 q.2) := by
  unfold f_X6_turnOver
  refine Ep_lt (fun y1 ey1 => ?_)
  exact tzL_X6_turnOver_L10 T P x1 y1 hT 0 0
set_option maxHeartbeats 1000000 in
set_option maxRecDepth 100000 in
theorem tzB_X6_setFree_L2 {T0 : Tr} (P : Tr) (x1 : Int32) (x2 : Int32)    (N : Nat) : ∀ (x3 : Int32) (T : Tr), tz T0 T → Ep (lpF (fun _ _ => none) (fB_X6_setFree_L2 P x1 x2) N x3 T) (fun q => tz T0 q) := by
  induction N with
  | zero => intro x3 T _; exact Ep_none
  | succ N ih =>
    intro x3 T hT
    show Ep (fB_X6_setFree_L2 P x1 x2 (lpF (fun _ _ => none) (fB_X6_setFree_L2 P x1 x2) N) x3 T) _
    have hk2 := ih
    clear ih
    generalize lpF (fun _ _ => none) (fB_X6_setFree_L2 P x1 x2) N = k2 at hk2 ⊢
    unfold fB_X6_setFree_L2
    refine Ep_ite (fun _ => ?_) (fun _ => ?_)
    · exact Ep_some hT
    · refine Ep_ck ?_
      refine Ep_ite (fun _ => ?_) (fun _ => ?_)
      · refine Ep_ite (fun _ => ?_) (fun _ => ?_)
        · refine Ep_bd (tz_X6_takeAway T P x3 x2 hT) (fun T_7 hT_7 => ?_)
          refine Ep_lt (fun y10 ey10 => ?_)
          exact hk2 y10 T_7 hT_7
        · refine Ep_lt (fun y6 ey6 => ?_)
          exact hk2 y6 T hT
      · refine Ep_lt (fun y4 ey4 => ?_)
        exact hk2 y4 T hT
set_option maxHeartbeats 1000000 in
set_option maxRecDepth 100000 in
theorem tzL_X6_setFree_L2 {T0 : Tr} (P : Tr) (x1 : Int32) (x2 : Int32)    (x3 : Int32) (T : Tr) (hT : tz T0 T) : Ep (fL_X6_setFree_L2 P x1 x2 x3 T) (fun q => tz T0 q) := by
  unfold fL_X6_setFree_L2
  exact tzB_X6_setFree_L2 P x1 x2 2000 x3 T hT
set_option maxHeartbeats 1000000 in
set_option maxRecDepth 100000 in
theorem tz_X6_setFree {T0 : Tr} (T : Tr) (P : Tr) (x1 : Int32) (x2 : Int32) (hT : tz T0 T)   : Ep (f_X6_setFree T P x1 x2) (fun q => tz T0 q) := by
  unfold f_X6_setFree
  exact tzL_X6_setFree_L2 P x1 x2 0 T hT
set_option maxHeartbeats 1000000 in
set_option maxRecDepth 100000 in
theorem tzJ_X6_takeDown_J192 {T0 : Tr} (k7 : Int32 → Int32 → Int32 → Tr → Lo → Option (Int32 × Tr × Lo)) (P : Tr) (x1 : Int32) (x2 : Int32) (x3 : Int32) (x4 : Int32) (T : Tr) (L : Lo) (hT : tz T0 T) (hk7 : ∀ (x2 : Int32) (x3 : Int32) (x4 : Int32) (T : Tr) (L : Lo), tz T0 T → Ep (k7 x2 x3 x4 T L) (fun q => tz T0 q.2.1))  : Ep (fJ_X6_takeDown_J192 k7 P x1 x2 x3 x4 T L) (fun q => tz T0 q.2.1) := by
  unfold fJ_X6_takeDown_J192
  refine Ep_any (fun r8 => ?_)
  refine Ep_ite (fun _ => ?_) (fun _ => ?_)
  · refine Ep_ck ?_
    refine Ep_lt (fun T_14 eT_14 => ?_)
    have hT_14 : tz T0 T_14 := by rw [eT_14]; exact tz_s hT (by omega)
    refine Ep_lt (fun y15 ey15 => ?_)
    exact hk7 x2 x3 y15 T_14 L hT_14
  · refine Ep_lt (fun y12 ey12 => ?_)
    exact hk7 x2 x3 y12 T L hT
set_option maxHeartbeats 1000000 in
set_option maxRecDepth 100000 in
theorem tzJ_X6_takeDown_J176 {T0 : Tr} (k7 : Int32 → Int32 → Int32 → Tr → Lo → Option (Int32 × Tr × Lo)) (P : Tr) (x1 : Int32) (x2 : Int32) (x3 : Int32) (x4 : Int32) (T : Tr) (L : Lo) (hT : tz T0 T) (hk7 : ∀ (x2 : Int32) (x3 : Int32) (x4 : Int32) (T : Tr) (L : Lo), tz T0 T → Ep (k7 x2 x3 x4 T L) (fun q => tz T0 q.2.1))  : Ep (fJ_X6_takeDown_J176 k7 P x1 x2 x3 x4 T L) (fun q => tz T0 q.2.1) := by
  unfold fJ_X6_takeDown_J176
  refine Ep_ite (fun _ => ?_) (fun _ => ?_)
  · refine Ep_bd (tz_X6_setFree T P x4 (5 : Int32) hT) (fun T_16 hT_16 => ?_)
    exact tzJ_X6_takeDown_J192 k7 P x1 x2 x3 x4 T_16 L hT_16 hk7
  · exact tzJ_X6_takeDown_J192 k7 P x1 x2 x3 x4 T L hT hk7
set_option maxHeartbeats 1000000 in
set_option maxRecDepth 100000 in
theorem tz_X6_worked {T0 : Tr} (T : Tr) (P : Tr) (L : Lo) (x1 : Int32) (x2 : Int32) (x3 : Int32) (hT : tz T0 T)   : Ep (f_X6_worked T P L x1 x2 x3) (fun q => tz T0 q.2.1) := by
  unfold f_X6_worked
  refine Ep_ck ?_
  refine Ep_lt (fun y2 ey2 => ?_)
  refine Ep_ck ?_
  refine Ep_ite (fun _ => ?_) (fun _ => ?_)
  · exact Ep_some hT
  · refine Ep_ite (fun _ => ?_) (fun _ => ?_)
    · refine Ep_lt (fun T_6 eT_6 => ?_)
      have hT_6 : tz T0 T_6 := by rw [eT_6]; exact tz_s hT (by omega)
      refine Ep_lt (fun T_7 eT_7 => ?_)
      have hT_7 : tz T0 T_7 := by rw [eT_7]; exact tz_s hT_6 (by omega)
      refine Ep_ck ?_
      refine Ep_any (fun r9 => ?_)
      refine Ep_lt (fun T_12 eT_12 => ?_)
      have hT_12 : tz T0 T_12 := by rw [eT_12]; exact tz_s hT_7 (by omega)
      refine Ep_lt (fun T_13 eT_13 => ?_)
      have hT_13 : tz T0 T_13 := by rw [eT_13]; exact tz_s hT_12 (by omega)
      refine Ep_lt (fun T_14 eT_14 => ?_)
      have hT_14 : tz T0 T_14 := by rw [eT_14]; exact tz_s hT_13 (by omega)
      refine Ep_lt (fun T_15 eT_15 => ?_)
      have hT_15 : tz T0 T_15 := by rw [eT_15]; exact tz_s hT_14 (by omega)
      refine Ep_lt (fun T_16 eT_16 => ?_)
      have hT_16 : tz T0 T_16 := by rw [eT_16]; exact tz_s hT_15 (by omega)
      refine Ep_any (fun q => ?_)
      refine Ep_lt (fun r17 er17 => ?_)
      refine Ep_lt (fun L_18 eL_18 => ?_)
      exact Ep_some hT_16
    · exact Ep_some hT
set_option maxHeartbeats 1000000 in
set_option maxRecDepth 100000 in
theorem tzB_X6_secondsFor_L26 {T0 : Tr} (P : Tr) (x2 : Int32) (x4 : Int32)    (N : Nat) : ∀ (x5 : Int32) (x6 : Int32) (T : Tr) (L : Lo), tz T0 T → Ep (lpF (fun _ _ _ _ => none) (fB_X6_secondsFor_L26 P x2 x4) N x5 x6 T L) (fun q => tz T0 q.2.1) := by
  induction N with
  | zero => intro x5 x6 T L _; exact Ep_none
  | succ N ih =>
    intro x5 x6 T L hT
    show Ep (fB_X6_secondsFor_L26 P x2 x4 (lpF (fun _ _ _ _ => none) (fB_X6_secondsFor_L26 P x2 x4) N) x5 x6 T L) _
    have hk26 := ih
    clear ih
    generalize lpF (fun _ _ _ _ => none) (fB_X6_secondsFor_L26 P x2 x4) N = k26 at hk26 ⊢
    unfold fB_X6_secondsFor_L26
    refine Ep_ck ?_
    refine Ep_ite (fun _ => ?_) (fun _ => ?_)
    · exact Ep_some hT
    · refine Ep_ck ?_
      refine Ep_lt (fun y10 ey10 => ?_)
      refine Ep_bd (tz_X6_worked T P L (0 : Int32) y10 x2 hT) (fun q hq => ?_)
      refine Ep_lt (fun r11 er11 => ?_)
      refine Ep_lt (fun T_12 eT_12 => ?_)
      have hT_12 : tz T0 T_12 := by rw [eT_12]; exact hq
      refine Ep_lt (fun L_13 eL_13 => ?_)
      refine Ep_ite (fun _ => ?_) (fun _ => ?_)
      · refine Ep_ite (fun _ => ?_) (fun _ => ?_)
        · refine Ep_lt (fun y18 ey18 => ?_)
          exact hk26 x5 y18 T_12 L_13 hT_12
        · refine Ep_ck ?_
          refine Ep_ck ?_
          refine Ep_lt (fun y21 ey21 => ?_)
          refine Ep_lt (fun y22 ey22 => ?_)
          exact hk26 y21 y22 T_12 L_13 hT_12
      · refine Ep_any (fun r23 => ?_)
        refine Ep_lt (fun y26 ey26 => ?_)
        refine Ep_lt (fun y27 ey27 => ?_)
        exact hk26 y26 y27 T_12 L_13 hT_12
set_option maxHeartbeats 1000000 in
set_option maxRecDepth 100000 in
theorem tzL_X6_secondsFor_L26 {T0 : Tr} (P : Tr) (x2 : Int32) (x4 : Int32)    (x5 : Int32) (x6 : Int32) (T : Tr) (L : Lo) (hT : tz T0 T) : Ep (fL_X6_secondsFor_L26 P x2 x4 x5 x6 T L) (fun q => tz T0 q.2.1) := by
  unfold fL_X6_secondsFor_L26
  exact tzB_X6_secondsFor_L26 P x2 x4 2000 x5 x6 T L hT
set_option maxHeartbeats 1000000 in
set_option maxRecDepth 100000 in
theorem tz_X6_secondsFor {T0 : Tr} (T : Tr) (P : Tr) (L : Lo) (x1 : Int32) (x2 : Int32) (hT : tz T0 T)   : Ep (f_X6_secondsFor T P L x1 x2) (fun q => tz T0 q.2.1) := by
  unfold f_X6_secondsFor
  refine Ep_any (fun r1 => ?_)
  refine Ep_ite (fun _ => ?_) (fun _ => ?_)
  · refine Ep_ck ?_
    refine Ep_lt (fun y6 ey6 => ?_)
    exact tzL_X6_secondsFor_L26 P x2 y6 0 r1 T L hT
  · exact Ep_some hT
set_option maxHeartbeats 1000000 in
set_option maxRecDepth 100000 in
theorem tzJ_X6_takeDown_J126 {T0 : Tr} (k7 : Int32 → Int32 → Int32 → Tr → Lo → Option (Int32 × Tr × Lo)) (k53 : Int32 → Int32 → Int32 → Tr → Lo → Option (Int32 × Tr × Lo)) (P : Tr) (x1 : Int32) (x4 : Int32) (x2 : Int32) (x5 : Int32) (x6 : Int32) (s0 : Int32) (T : Tr) (L : Lo) (hT : tz T0 T) (hk7 : ∀ (x2 : Int32) (x3 : Int32) (x4 : Int32) (T : Tr) (L : Lo), tz T0 T → Ep (k7 x2 x3 x4 T L) (fun q => tz T0 q.2.1)) (hk53 : ∀ (x2 : Int32) (x3 : Int32) (x5 : Int32) (T : Tr) (L : Lo), tz T0 T → Ep (k53 x2 x3 x5 T L) (fun q => tz T0 q.2.1))  : Ep (fJ_X6_takeDown_J126 k7 k53 P x1 x4 x2 x5 x6 s0 T L) (fun q => tz T0 q.2.1) := by
  unfold fJ_X6_takeDown_J126
  refine Ep_ite (fun _ => ?_) (fun _ => ?_)
  · refine Ep_lt (fun y32 ey32 => ?_)
    exact hk53 x2 s0 y32 T L hT
  · refine Ep_lt (fun y33 ey33 => ?_)
    refine Ep_ck ?_
    refine Ep_lt (fun T_35 eT_35 => ?_)
    have hT_35 : tz T0 T_35 := by rw [eT_35]; exact tz_s hT (by omega)
    refine Ep_any (fun r36 => ?_)
    refine Ep_lt (fun T_39 eT_39 => ?_)
    have hT_39 : tz T0 T_39 := by rw [eT_39]; exact tz_s hT_35 (by omega)
    refine Ep_bd (tz_X6_takeAway T_39 P x5 (2 : Int32) hT_39) (fun T_40 hT_40 => ?_)
    refine Ep_lt (fun y43 ey43 => ?_)
    exact hk53 y33 s0 y43 T_40 L hT_40
set_option maxHeartbeats 1000000 in
set_option maxRecDepth 100000 in
theorem tzB_X6_takeDown_L53 {T0 : Tr} (k7 : Int32 → Int32 → Int32 → Tr → Lo → Option (Int32 × Tr × Lo)) (P : Tr) (x1 : Int32) (x4 : Int32)  (hk7 : ∀ (x2 : Int32) (x3 : Int32) (x4 : Int32) (T : Tr) (L : Lo), tz T0 T → Ep (k7 x2 x3 x4 T L) (fun q => tz T0 q.2.1))  (N : Nat) : ∀ (x2 : Int32) (x3 : Int32) (x5 : Int32) (T : Tr) (L : Lo), tz T0 T → Ep (lpF (fun _ _ _ _ _ => none) (fB_X6_takeDown_L53 k7 P x1 x4) N x2 x3 x5 T L) (fun q => tz T0 q.2.1) := by
  induction N with
  | zero => intro x2 x3 x5 T L _; exact Ep_none
  | succ N ih =>
    intro x2 x3 x5 T L hT
    show Ep (fB_X6_takeDown_L53 k7 P x1 x4 (lpF (fun _ _ _ _ _ => none) (fB_X6_takeDown_L53 k7 P x1 x4) N) x2 x3 x5 T L) _
    have hk53 := ih
    clear ih
    generalize lpF (fun _ _ _ _ _ => none) (fB_X6_takeDown_L53 k7 P x1 x4) N = k53 at hk53 ⊢
    unfold fB_X6_takeDown_L53
    refine Ep_ite (fun _ => ?_) (fun _ => ?_)
    · exact tzJ_X6_takeDown_J176 k7 P x1 x2 x3 x4 T L hT hk7
    · refine Ep_ite (fun _ => ?_) (fun _ => ?_)
      · exact tzJ_X6_takeDown_J176 k7 P x1 x2 x3 x4 T L hT hk7
      · refine Ep_ck ?_
        refine Ep_ite (fun _ => ?_) (fun _ => ?_)
        · refine Ep_ite (fun _ => ?_) (fun _ => ?_)
          · refine Ep_ck ?_
            refine Ep_bd (tz_X6_secondsFor T P L x5 (T 10 x4.toNatClampNeg) hT) (fun q hq => ?_)
            refine Ep_lt (fun r25 er25 => ?_)
            refine Ep_lt (fun T_26 eT_26 => ?_)
            have hT_26 : tz T0 T_26 := by rw [eT_26]; exact hq
            refine Ep_lt (fun L_27 eL_27 => ?_)
            refine Ep_ite (fun _ => ?_) (fun _ => ?_)
            · exact tzJ_X6_takeDown_J126 k7 k53 P x1 x4 x2 x5 r25 0 T_26 L_27 hT_26 hk7 hk53
            · exact tzJ_X6_takeDown_J126 k7 k53 P x1 x4 x2 x5 r25 1 T_26 L_27 hT_26 hk7 hk53
          · refine Ep_lt (fun y44 ey44 => ?_)
            exact hk53 x2 x3 y44 T L hT
        · refine Ep_lt (fun y22 ey22 => ?_)
          exact hk53 x2 x3 y22 T L hT
set_option maxHeartbeats 1000000 in
set_option maxRecDepth 100000 in
theorem tzL_X6_takeDown_L53 {T0 : Tr} (k7 : Int32 → Int32 → Int32 → Tr → Lo → Option (Int32 × Tr × Lo)) (P : Tr) (x1 : Int32) (x4 : Int32)  (hk7 : ∀ (x2 : Int32) (x3 : Int32) (x4 : Int32) (T : Tr) (L : Lo), tz T0 T → Ep (k7 x2 x3 x4 T L) (fun q => tz T0 q.2.1))  (x2 : Int32) (x3 : Int32) (x5 : Int32) (T : Tr) (L : Lo) (hT : tz T0 T) : Ep (fL_X6_takeDown_L53 k7 P x1 x4 x2 x3 x5 T L) (fun q => tz T0 q.2.1) := by
  unfold fL_X6_takeDown_L53
  exact tzB_X6_takeDown_L53 k7 P x1 x4 hk7 2000 x2 x3 x5 T L hT
set_option maxHeartbeats 1000000 in
set_option maxRecDepth 100000 in
theorem tzB_X6_takeDown_L7 {T0 : Tr} (P : Tr) (x1 : Int32)    (N : Nat) : ∀ (x2 : Int32) (x3 : Int32) (x4 : Int32) (T : Tr) (L : Lo), tz T0 T → Ep (lpF (fun _ _ _ _ _ => none) (fB_X6_takeDown_L7 P x1) N x2 x3 x4 T L) (fun q => tz T0 q.2.1) := by
  induction N with
  | zero => intro x2 x3 x4 T L _; exact Ep_none
  | succ N ih =>
    intro x2 x3 x4 T L hT
    show Ep (fB_X6_takeDown_L7 P x1 (lpF (fun _ _ _ _ _ => none) (fB_X6_takeDown_L7 P x1) N) x2 x3 x4 T L) _
    have hk7 := ih
    clear ih
    generalize lpF (fun _ _ _ _ _ => none) (fB_X6_takeDown_L7 P x1) N = k7 at hk7 ⊢
    unfold fB_X6_takeDown_L7
    refine Ep_ite (fun _ => ?_) (fun _ => ?_)
    · exact Ep_some hT
    · refine Ep_ck ?_
      refine Ep_ite (fun _ => ?_) (fun _ => ?_)
      · refine Ep_ite (fun _ => ?_) (fun _ => ?_)
        · exact tzL_X6_takeDown_L53 k7 P x1 x4 hk7 x2 x3 0 T L hT
        · refine Ep_lt (fun y45 ey45 => ?_)
          exact hk7 x2 x3 y45 T L hT
      · refine Ep_lt (fun y4 ey4 => ?_)
        exact hk7 x2 x3 y4 T L hT
set_option maxHeartbeats 1000000 in
set_option maxRecDepth 100000 in
theorem tzL_X6_takeDown_L7 {T0 : Tr} (P : Tr) (x1 : Int32)    (x2 : Int32) (x3 : Int32) (x4 : Int32) (T : Tr) (L : Lo) (hT : tz T0 T) : Ep (fL_X6_takeDown_L7 P x1 x2 x3 x4 T L) (fun q => tz T0 q.2.1) := by
  unfold fL_X6_takeDown_L7
  exact tzB_X6_takeDown_L7 P x1 2000 x2 x3 x4 T L hT
set_option maxHeartbeats 1000000 in
set_option maxRecDepth 100000 in
theorem tz_X6_takeDown {T0 : Tr} (T : Tr) (P : Tr) (L : Lo) (x1 : Int32) (hT : tz T0 T)   : Ep (f_X6_takeDown T P L x1) (fun q => tz T0 q.2.1) := by
  unfold f_X6_takeDown
  exact tzL_X6_takeDown_L7 P x1 0 1 0 T L hT
set_option maxHeartbeats 1000000 in
set_option maxRecDepth 100000 in
theorem tzJ_X6_stow_J31 {T0 : Tr} (P : Tr) (x1 : Int32) (x2 : Int32) (T : Tr) (hT : tz T0 T)   : Ep (fJ_X6_stow_J31 P x1 x2 T) (fun q => tz T0 q) := by
  unfold fJ_X6_stow_J31
  refine Ep_ite (fun _ => ?_) (fun _ => ?_)
  · refine Ep_bd (tz_X6_putOn T P x2 x1 hT) (fun T_9 hT_9 => ?_)
    exact Ep_some hT_9
  · refine Ep_ck ?_
    refine Ep_lt (fun T_13 eT_13 => ?_)
    have hT_13 : tz T0 T_13 := by rw [eT_13]; exact tz_s hT (by omega)
    exact Ep_some hT_13
set_option maxHeartbeats 1000000 in
set_option maxRecDepth 100000 in
theorem tz_X6_stow {T0 : Tr} (T : Tr) (P : Tr) (x1 : Int32) (hT : tz T0 T)   : Ep (f_X6_stow T P x1) (fun q => tz T0 q) := by
  unfold f_X6_stow
  refine Ep_ck ?_
  refine Ep_lt (fun y2 ey2 => ?_)
  refine Ep_ite (fun _ => ?_) (fun _ => ?_)
  · refine Ep_any (fun r4 => ?_)
    refine Ep_ite (fun _ => ?_) (fun _ => ?_)
    · exact tzJ_X6_stow_J31 P x1 (-1) T hT
    · exact tzJ_X6_stow_J31 P x1 y2 T hT
  · refine Ep_any (fun r14 => ?_)
    exact tzJ_X6_stow_J31 P x1 r14 T hT
set_option maxHeartbeats 1000000 in
set_option maxRecDepth 100000 in
theorem tzB_X6_getIn_L47 {T0 : Tr} (k2 : Int32 → Tr → Option (Tr)) (P : Tr) (x1 : Int32)  (hk2 : ∀ (x1 : Int32) (T : Tr), tz T0 T → Ep (k2 x1 T) (fun q => tz T0 q))  (N : Nat) : ∀ (x2 : Int32) (T : Tr), tz T0 T → Ep (lpF (fun _ _ => none) (fB_X6_getIn_L47 k2 P x1) N x2 T) (fun q => tz T0 q) := by
  induction N with
  | zero => intro x2 T _; exact Ep_none
  | succ N ih =>
    intro x2 T hT
    show Ep (fB_X6_getIn_L47 k2 P x1 (lpF (fun _ _ => none) (fB_X6_getIn_L47 k2 P x1) N) x2 T) _
    have hk47 := ih
    clear ih
    generalize lpF (fun _ _ => none) (fB_X6_getIn_L47 k2 P x1) N = k47 at hk47 ⊢
    unfold fB_X6_getIn_L47
    refine Ep_ite (fun _ => ?_) (fun _ => ?_)
    · refine Ep_lt (fun y8 ey8 => ?_)
      exact hk2 y8 T hT
    · refine Ep_ck ?_
      refine Ep_ite (fun _ => ?_) (fun _ => ?_)
      · refine Ep_bd (tz_X6_stow T P x2 hT) (fun T_12 hT_12 => ?_)
        refine Ep_lt (fun y15 ey15 => ?_)
        exact hk47 y15 T_12 hT_12
      · refine Ep_lt (fun y11 ey11 => ?_)
        exact hk47 y11 T hT
set_option maxHeartbeats 1000000 in
set_option maxRecDepth 100000 in
theorem tzL_X6_getIn_L47 {T0 : Tr} (k2 : Int32 → Tr → Option (Tr)) (P : Tr) (x1 : Int32)  (hk2 : ∀ (x1 : Int32) (T : Tr), tz T0 T → Ep (k2 x1 T) (fun q => tz T0 q))  (x2 : Int32) (T : Tr) (hT : tz T0 T) : Ep (fL_X6_getIn_L47 k2 P x1 x2 T) (fun q => tz T0 q) := by
  unfold fL_X6_getIn_L47
  exact tzB_X6_getIn_L47 k2 P x1 hk2 2000 x2 T hT
set_option maxHeartbeats 1000000 in
set_option maxRecDepth 100000 in
theorem tzB_X6_getIn_L2 {T0 : Tr} (P : Tr)    (N : Nat) : ∀ (x1 : Int32) (T : Tr), tz T0 T → Ep (lpF (fun _ _ => none) (fB_X6_getIn_L2 P) N x1 T) (fun q => tz T0 q) := by
  induction N with
  | zero => intro x1 T _; exact Ep_none
  | succ N ih =>
    intro x1 T hT
    show Ep (fB_X6_getIn_L2 P (lpF (fun _ _ => none) (fB_X6_getIn_L2 P) N) x1 T) _
    have hk2 := ih
    clear ih
    generalize lpF (fun _ _ => none) (fB_X6_getIn_L2 P) N = k2 at hk2 ⊢
    unfold fB_X6_getIn_L2
    refine Ep_ite (fun _ => ?_) (fun _ => ?_)
    · exact Ep_some hT
    · refine Ep_ck ?_
      refine Ep_ite (fun _ => ?_) (fun _ => ?_)
      · refine Ep_ite (fun _ => ?_) (fun _ => ?_)
        · refine Ep_lt (fun T_6 eT_6 => ?_)
          have hT_6 : tz T0 T_6 := by rw [eT_6]; exact tz_s hT (by omega)
          exact tzL_X6_getIn_L47 k2 P x1 hk2 0 T_6 hT_6
        · refine Ep_lt (fun y16 ey16 => ?_)
          exact hk2 y16 T hT
      · refine Ep_lt (fun y4 ey4 => ?_)
        exact hk2 y4 T hT
set_option maxHeartbeats 1000000 in
set_option maxRecDepth 100000 in
theorem tzL_X6_getIn_L2 {T0 : Tr} (P : Tr)    (x1 : Int32) (T : Tr) (hT : tz T0 T) : Ep (fL_X6_getIn_L2 P x1 T) (fun q => tz T0 q) := by
  unfold fL_X6_getIn_L2
  exact tzB_X6_getIn_L2 P 2000 x1 T hT
set_option maxHeartbeats 1000000 in
set_option maxRecDepth 100000 in
theorem tz_X6_getIn {T0 : Tr} (T : Tr) (P : Tr) (hT : tz T0 T)   : Ep (f_X6_getIn T P) (fun q => tz T0 q) := by
  unfold f_X6_getIn
  exact tzL_X6_getIn_L2 P 0 T hT
set_option maxHeartbeats 1000000 in
set_option maxRecDepth 100000 in
theorem tzJ_X6_fallPercent_J57 {T0 : Tr} (P : Tr) (s0 : Int64) (T : Tr) (L : Lo) (hT : tz T0 T)   : Ep (fJ_X6_fallPercent_J57 P s0 T L) (fun q => tz T0 q.2.1) := by
  unfold fJ_X6_fallPercent_J57
  refine Ep_any (fun r12 => ?_)
  exact Ep_some hT
set_option maxHeartbeats 1000000 in
set_option maxRecDepth 100000 in
theorem tz_X6_fallPercent {T0 : Tr} (T : Tr) (P : Tr) (L : Lo) (x1 : Int32) (hT : tz T0 T)   : Ep (f_X6_fallPercent T P L x1) (fun q => tz T0 q.2.1) := by
  unfold f_X6_fallPercent
  refine Ep_ck ?_
  refine Ep_ck ?_
  refine Ep_bd (tz_X6_worked T P L (1 : Int32) x1 (T 10 (P 14 x1.toNatClampNeg).toNatClampNeg) hT) (fun q hq => ?_)
  refine Ep_lt (fun r3 er3 => ?_)
  refine Ep_lt (fun T_4 eT_4 => ?_)
  have hT_4 : tz T0 T_4 := by rw [eT_4]; exact hq
  refine Ep_lt (fun L_5 eL_5 => ?_)
  refine Ep_ite (fun _ => ?_) (fun _ => ?_)
  · refine Ep_any (fun r9 => ?_)
    exact tzJ_X6_fallPercent_J57 P ((((T_4 0 4) + ((10 : Int32) * r9)) - (P 15 x1.toNatClampNeg)).toInt64) T_4 L_5 hT_4
  · exact tzJ_X6_fallPercent_J57 P r3 T_4 L_5 hT_4
set_option maxHeartbeats 1000000 in
set_option maxRecDepth 100000 in
theorem tz_X6_happens {T0 : Tr} (T : Tr) (x1 : Int32) (hT : tz T0 T)   : Ep (f_X6_happens T x1) (fun q => tz T0 q.2) := by
  unfold f_X6_happens
  refine Ep_ite (fun _ => ?_) (fun _ => ?_)
  · refine Ep_ite (fun _ => ?_) (fun _ => ?_)
    · exact Ep_some hT
    · exact Ep_some hT
  · refine Ep_lt (fun T_2 eT_2 => ?_)
    have hT_2 : tz T0 T_2 := by rw [eT_2]; exact tz_s hT (by omega)
    refine Ep_ite (fun _ => ?_) (fun _ => ?_)
    · exact Ep_some hT_2
    · exact Ep_some hT_2
set_option maxHeartbeats 1000000 in
set_option maxRecDepth 100000 in
theorem tzB_X6_fallOff_L4 {T0 : Tr} (P : Tr)    (N : Nat) : ∀ (x1 : Int32) (x2 : Int32) (T : Tr) (L : Lo), tz T0 T → Ep (lpF (fun _ _ _ _ => none) (fB_X6_fallOff_L4 P) N x1 x2 T L) (fun q => tz T0 q.2.1) := by
  induction N with
  | zero => intro x1 x2 T L _; exact Ep_none
  | succ N ih =>
    intro x1 x2 T L hT
    show Ep (fB_X6_fallOff_L4 P (lpF (fun _ _ _ _ => none) (fB_X6_fallOff_L4 P) N) x1 x2 T L) _
    have hk4 := ih
    clear ih
    generalize lpF (fun _ _ _ _ => none) (fB_X6_fallOff_L4 P) N = k4 at hk4 ⊢
    unfold fB_X6_fallOff_L4
    refine Ep_ite (fun _ => ?_) (fun _ => ?_)
    · exact Ep_some hT
    · refine Ep_ite (fun _ => ?_) (fun _ => ?_)
      · exact Ep_some hT
      · refine Ep_any (fun r3 => ?_)
        refine Ep_ite (fun _ => ?_) (fun _ => ?_)
        · refine Ep_lt (fun y7 ey7 => ?_)
          exact hk4 x1 y7 T L hT
        · refine Ep_any (fun r8 => ?_)
          refine Ep_ite (fun _ => ?_) (fun _ => ?_)
          · refine Ep_lt (fun y12 ey12 => ?_)
            exact hk4 x1 y12 T L hT
          · refine Ep_bd (tz_X6_fallPercent T P L r3 hT) (fun q hq => ?_)
            refine Ep_lt (fun r13 er13 => ?_)
            refine Ep_lt (fun T_14 eT_14 => ?_)
            have hT_14 : tz T0 T_14 := by rw [eT_14]; exact hq
            refine Ep_lt (fun L_15 eL_15 => ?_)
            refine Ep_bd (tz_X6_happens T_14 r13 hT_14) (fun q hq => ?_)
            refine Ep_lt (fun r18 er18 => ?_)
            refine Ep_lt (fun T_19 eT_19 => ?_)
            have hT_19 : tz T0 T_19 := by rw [eT_19]; exact hq
            refine Ep_ite (fun _ => ?_) (fun _ => ?_)
            · refine Ep_lt (fun y23 ey23 => ?_)
              exact hk4 x1 y23 T_19 L_15 hT_19
            · refine Ep_bd (tz_X6_takeAway T_19 P r3 (3 : Int32) hT_19) (fun T_24 hT_24 => ?_)
              refine Ep_lt (fun y27 ey27 => ?_)
              refine Ep_lt (fun y28 ey28 => ?_)
              exact hk4 y27 y28 T_24 L_15 hT_24
set_option maxHeartbeats 1000000 in
set_option maxRecDepth 100000 in
theorem tzL_X6_fallOff_L4 {T0 : Tr} (P : Tr)    (x1 : Int32) (x2 : Int32) (T : Tr) (L : Lo) (hT : tz T0 T) : Ep (fL_X6_fallOff_L4 P x1 x2 T L) (fun q => tz T0 q.2.1) := by
  unfold fL_X6_fallOff_L4
  exact tzB_X6_fallOff_L4 P 2000 x1 x2 T L hT
set_option maxHeartbeats 1000000 in
set_option maxRecDepth 100000 in
theorem tz_X6_fallOff {T0 : Tr} (T : Tr) (P : Tr) (L : Lo) (hT : tz T0 T)   : Ep (f_X6_fallOff T P L) (fun q => tz T0 q.2.1) := by
  unfold f_X6_fallOff
  exact tzL_X6_fallOff_L4 P 0 0 T L hT
set_option maxHeartbeats 1000000 in
set_option maxRecDepth 100000 in
theorem tz_X6_stealPercent {T0 : Tr} (T : Tr) (P : Tr) (L : Lo) (x1 : Int32) (hT : tz T0 T)   : Ep (f_X6_stealPercent T P L x1) (fun q => tz T0 q.2.1) := by
  unfold f_X6_stealPercent
  refine Ep_ck ?_
  refine Ep_ck ?_
  refine Ep_bd (tz_X6_worked T P L (2 : Int32) x1 (T 10 (P 14 x1.toNatClampNeg).toNatClampNeg) hT) (fun q hq => ?_)
  refine Ep_lt (fun r3 er3 => ?_)
  refine Ep_lt (fun T_4 eT_4 => ?_)
  have hT_4 : tz T0 T_4 := by rw [eT_4]; exact hq
  refine Ep_lt (fun L_5 eL_5 => ?_)
  refine Ep_ite (fun _ => ?_) (fun _ => ?_)
  · exact Ep_some hT_4
  · refine Ep_any (fun r9 => ?_)
    exact Ep_some hT_4
set_option maxHeartbeats 1000000 in
set_option maxRecDepth 100000 in
theorem tzB_X6_stealAway_L2 {T0 : Tr} (P : Tr)    (N : Nat) : ∀ (x1 : Int32) (T : Tr) (L : Lo), tz T0 T → Ep (lpF (fun _ _ _ => none) (fB_X6_stealAway_L2 P) N x1 T L) (fun q => tz T0 q.1) := by
  induction N with
  | zero => intro x1 T L _; exact Ep_none
  | succ N ih =>
    intro x1 T L hT
    show Ep (fB_X6_stealAway_L2 P (lpF (fun _ _ _ => none) (fB_X6_stealAway_L2 P) N) x1 T L) _
    have hk2 := ih
    clear ih
    generalize lpF (fun _ _ _ => none) (fB_X6_stealAway_L2 P) N = k2 at hk2 ⊢
    unfold fB_X6_stealAway_L2
    refine Ep_ite (fun _ => ?_) (fun _ => ?_)
    · exact Ep_some hT
    · refine Ep_ite (fun _ => ?_) (fun _ => ?_)
      · exact Ep_some hT
      · refine Ep_ck ?_
        refine Ep_lt (fun y4 ey4 => ?_)
        refine Ep_ite (fun _ => ?_) (fun _ => ?_)
        · refine Ep_lt (fun y6 ey6 => ?_)
          exact hk2 y6 T L hT
        · refine Ep_ck ?_
          refine Ep_ite (fun _ => ?_) (fun _ => ?_)
          · refine Ep_bd (tz_X6_stealPercent T P L x1 hT) (fun q hq => ?_)
            refine Ep_lt (fun r10 er10 => ?_)
            refine Ep_lt (fun T_11 eT_11 => ?_)
            have hT_11 : tz T0 T_11 := by rw [eT_11]; exact hq
            refine Ep_lt (fun L_12 eL_12 => ?_)
            refine Ep_bd (tz_X6_happens T_11 r10 hT_11) (fun q hq => ?_)
            refine Ep_lt (fun r15 er15 => ?_)
            refine Ep_lt (fun T_16 eT_16 => ?_)
            have hT_16 : tz T0 T_16 := by rw [eT_16]; exact hq
            refine Ep_ite (fun _ => ?_) (fun _ => ?_)
            · refine Ep_lt (fun y20 ey20 => ?_)
              exact hk2 y20 T_16 L_12 hT_16
            · refine Ep_bd (tz_X6_takeAway T_16 P x1 (4 : Int32) hT_16) (fun T_21 hT_21 => ?_)
              refine Ep_lt (fun y24 ey24 => ?_)
              exact hk2 y24 T_21 L_12 hT_21
          · refine Ep_lt (fun y9 ey9 => ?_)
            exact hk2 y9 T L hT
set_option maxHeartbeats 1000000 in
set_option maxRecDepth 100000 in
theorem tzL_X6_stealAway_L2 {T0 : Tr} (P : Tr)    (x1 : Int32) (T : Tr) (L : Lo) (hT : tz T0 T) : Ep (fL_X6_stealAway_L2 P x1 T L) (fun q => tz T0 q.1) := by
  unfold fL_X6_stealAway_L2
  exact tzB_X6_stealAway_L2 P 2000 x1 T L hT
set_option maxHeartbeats 1000000 in
set_option maxRecDepth 100000 in
theorem tz_X6_stealAway {T0 : Tr} (T : Tr) (P : Tr) (L : Lo) (hT : tz T0 T)   : Ep (f_X6_stealAway T P L) (fun q => tz T0 q.1) := by
  unfold f_X6_stealAway
  exact tzL_X6_stealAway_L2 P 0 T L hT
set_option maxHeartbeats 1000000 in
set_option maxRecDepth 100000 in
theorem tzB_X6_begin_L133 {T0 : Tr} (pa : Nat → Nat) (P : Tr) (q : Nat)    (N : Nat) : ∀ (x2 : Int32) (T : Tr), tz T0 T → Ep (lpF (fun _ _ => none) (fB_X6_begin_L133 pa P q) N x2 T) (fun q => tz T0 q.1) := by
  induction N with
  | zero => intro x2 T _; exact Ep_none
  | succ N ih =>
    intro x2 T hT
    show Ep (fB_X6_begin_L133 pa P q (lpF (fun _ _ => none) (fB_X6_begin_L133 pa P q) N) x2 T) _
    have hk133 := ih
    clear ih
    generalize lpF (fun _ _ => none) (fB_X6_begin_L133 pa P q) N = k133 at hk133 ⊢
    unfold fB_X6_begin_L133
    refine Ep_ite (fun _ => ?_) (fun _ => ?_)
    · exact Ep_some hT
    · refine Ep_ck ?_
      refine Ep_lt (fun T_10 eT_10 => ?_)
      have hT_10 : tz T0 T_10 := by rw [eT_10]; exact tz_s hT (by omega)
      refine Ep_lt (fun T_11 eT_11 => ?_)
      have hT_11 : tz T0 T_11 := by rw [eT_11]; exact tz_s hT_10 (by omega)
      refine Ep_lt (fun y12 ey12 => ?_)
      exact hk133 y12 T_11 hT_11
set_option maxHeartbeats 1000000 in
set_option maxRecDepth 100000 in
theorem tzL_X6_begin_L133 {T0 : Tr} (pa : Nat → Nat) (P : Tr) (q : Nat)    (x2 : Int32) (T : Tr) (hT : tz T0 T) : Ep (fL_X6_begin_L133 pa P q x2 T) (fun q => tz T0 q.1) := by
  unfold fL_X6_begin_L133
  exact tzB_X6_begin_L133 pa P q 2000 x2 T hT
set_option maxHeartbeats 1000000 in
set_option maxRecDepth 100000 in
theorem tzB_X6_begin_L93 {T0 : Tr} (pa : Nat → Nat) (P : Tr) (q : Nat)    (N : Nat) : ∀ (x2 : Int32) (T : Tr), tz T0 T → Ep (lpF (fun _ _ => none) (fB_X6_begin_L93 pa P q) N x2 T) (fun q => tz T0 q.1) := by
  induction N with
  | zero => intro x2 T _; exact Ep_none
  | succ N ih =>
    intro x2 T hT
    show Ep (fB_X6_begin_L93 pa P q (lpF (fun _ _ => none) (fB_X6_begin_L93 pa P q) N) x2 T) _
    have hk93 := ih
    clear ih
    generalize lpF (fun _ _ => none) (fB_X6_begin_L93 pa P q) N = k93 at hk93 ⊢
    unfold fB_X6_begin_L93
    refine Ep_ite (fun _ => ?_) (fun _ => ?_)
    · exact tzL_X6_begin_L133 pa P q 0 T hT
    · refine Ep_ck ?_
      refine Ep_lt (fun T_14 eT_14 => ?_)
      have hT_14 : tz T0 T_14 := by rw [eT_14]; exact tz_s hT (by omega)
      refine Ep_lt (fun T_15 eT_15 => ?_)
      have hT_15 : tz T0 T_15 := by rw [eT_15]; exact tz_s hT_14 (by omega)
      refine Ep_lt (fun T_16 eT_16 => ?_)
      have hT_16 : tz T0 T_16 := by rw [eT_16]; exact tz_s hT_15 (by omega)
      refine Ep_lt (fun y17 ey17 => ?_)
      exact hk93 y17 T_16 hT_16
set_option maxHeartbeats 1000000 in
set_option maxRecDepth 100000 in
theorem tzL_X6_begin_L93 {T0 : Tr} (pa : Nat → Nat) (P : Tr) (q : Nat)    (x2 : Int32) (T : Tr) (hT : tz T0 T) : Ep (fL_X6_begin_L93 pa P q x2 T) (fun q => tz T0 q.1) := by
  unfold fL_X6_begin_L93
  exact tzB_X6_begin_L93 pa P q 2000 x2 T hT
set_option maxHeartbeats 1000000 in
set_option maxRecDepth 100000 in
theorem tzB_X6_begin_L41 {T0 : Tr} (pa : Nat → Nat) (P : Tr) (q : Nat)    (N : Nat) : ∀ (x2 : Int32) (T : Tr), tz T0 T → Ep (lpF (fun _ _ => none) (fB_X6_begin_L41 pa P q) N x2 T) (fun q => tz T0 q.1) := by
  induction N with
  | zero => intro x2 T _; exact Ep_none
  | succ N ih =>
    intro x2 T hT
    show Ep (fB_X6_begin_L41 pa P q (lpF (fun _ _ => none) (fB_X6_begin_L41 pa P q) N) x2 T) _
    have hk41 := ih
    clear ih
    generalize lpF (fun _ _ => none) (fB_X6_begin_L41 pa P q) N = k41 at hk41 ⊢
    unfold fB_X6_begin_L41
    refine Ep_ite (fun _ => ?_) (fun _ => ?_)
    · exact tzL_X6_begin_L93 pa P q 0 T hT
    · refine Ep_ck ?_
      refine Ep_lt (fun T_19 eT_19 => ?_)
      have hT_19 : tz T0 T_19 := by rw [eT_19]; exact tz_s hT (by omega)
      refine Ep_lt (fun T_20 eT_20 => ?_)
      have hT_20 : tz T0 T_20 := by rw [eT_20]; exact tz_s hT_19 (by omega)
      refine Ep_lt (fun T_21 eT_21 => ?_)
      have hT_21 : tz T0 T_21 := by rw [eT_21]; exact tz_s hT_20 (by omega)
      refine Ep_lt (fun T_22 eT_22 => ?_)
      have hT_22 : tz T0 T_22 := by rw [eT_22]; exact tz_s hT_21 (by omega)
      refine Ep_lt (fun y23 ey23 => ?_)
      exact hk41 y23 T_22 hT_22
set_option maxHeartbeats 1000000 in
set_option maxRecDepth 100000 in
theorem tzL_X6_begin_L41 {T0 : Tr} (pa : Nat → Nat) (P : Tr) (q : Nat)    (x2 : Int32) (T : Tr) (hT : tz T0 T) : Ep (fL_X6_begin_L41 pa P q x2 T) (fun q => tz T0 q.1) := by
  unfold fL_X6_begin_L41
  exact tzB_X6_begin_L41 pa P q 2000 x2 T hT
set_option maxHeartbeats 1000000 in
set_option maxRecDepth 100000 in
theorem ty_X0_bringRow_x_na16 {T0 : Tr} (pa : Nat → Nat) (qa : Nat → Nat) (Tn : Tr) (C : Tr) (x2 : Int32) (hTn : tz T0 Tn)   : Ep (f_X0_bringRow_x_na16 pa qa Tn C x2) (fun q => tz T0 q.2) := by
  unfold f_X0_bringRow_x_na16
  refine Ep_ck ?_
  refine Ep_lt (fun Tn_2 eTn_2 => ?_)
  have hTn_2 : tz T0 Tn_2 := by rw [eTn_2]; exact tz_c hTn (by decide)
  exact Ep_some hTn_2
set_option maxHeartbeats 1000000 in
set_option maxRecDepth 100000 in
theorem ty_X0_bringRow_x_na17 {T0 : Tr} (pa : Nat → Nat) (qa : Nat → Nat) (Tn : Tr) (C : Tr) (x2 : Int32) (hTn : tz T0 Tn)   : Ep (f_X0_bringRow_x_na17 pa qa Tn C x2) (fun q => tz T0 q.2) := by
  unfold f_X0_bringRow_x_na17
  refine Ep_ck ?_
  refine Ep_lt (fun Tn_2 eTn_2 => ?_)
  have hTn_2 : tz T0 Tn_2 := by rw [eTn_2]; exact tz_c hTn (by decide)
  exact Ep_some hTn_2
set_option maxHeartbeats 1000000 in
set_option maxRecDepth 100000 in
theorem ty_X0_bringRow_x_na18 {T0 : Tr} (pa : Nat → Nat) (qa : Nat → Nat) (Tn : Tr) (C : Tr) (x2 : Int32) (hTn : tz T0 Tn)   : Ep (f_X0_bringRow_x_na18 pa qa Tn C x2) (fun q => tz T0 q.2) := by
  unfold f_X0_bringRow_x_na18
  refine Ep_ck ?_
  refine Ep_lt (fun Tn_2 eTn_2 => ?_)
  have hTn_2 : tz T0 Tn_2 := by rw [eTn_2]; exact tz_c hTn (by decide)
  exact Ep_some hTn_2
set_option maxHeartbeats 1000000 in
set_option maxRecDepth 100000 in
theorem ty_X0_bringRow_x_na15 {T0 : Tr} (pa : Nat → Nat) (qa : Nat → Nat) (Tn : Tr) (C : Tr) (x2 : Int32) (hTn : tz T0 Tn)   : Ep (f_X0_bringRow_x_na15 pa qa Tn C x2) (fun q => tz T0 q.2) := by
  unfold f_X0_bringRow_x_na15
  refine Ep_ck ?_
  refine Ep_lt (fun Tn_2 eTn_2 => ?_)
  have hTn_2 : tz T0 Tn_2 := by rw [eTn_2]; exact tz_c hTn (by decide)
  exact Ep_some hTn_2
set_option maxHeartbeats 1000000 in
set_option maxRecDepth 100000 in
theorem ty_X0_bringRow_x_na10 {T0 : Tr} (pa : Nat → Nat) (qa : Nat → Nat) (Tn : Tr) (C : Tr) (x2 : Int32) (hTn : tz T0 Tn)   : Ep (f_X0_bringRow_x_na10 pa qa Tn C x2) (fun q => tz T0 q.2) := by
  unfold f_X0_bringRow_x_na10
  refine Ep_ck ?_
  refine Ep_lt (fun Tn_2 eTn_2 => ?_)
  have hTn_2 : tz T0 Tn_2 := by rw [eTn_2]; exact tz_c hTn (by decide)
  exact Ep_some hTn_2
set_option maxHeartbeats 1000000 in
set_option maxRecDepth 100000 in
theorem ty_X0_bringBack_x_na0 {T0 : Tr} (pa : Nat → Nat) (qa : Nat → Nat) (Tn : Tr) (C : Tr) (hTn : tz T0 Tn)   : Ep (f_X0_bringBack_x_na0 pa qa Tn C) (fun q => tz T0 q.1) := by
  unfold f_X0_bringBack_x_na0
  refine Ep_ite (fun _ => ?_) (fun _ => ?_)
  · exact Ep_some hTn
  · refine Ep_lt (fun C_2 eC_2 => ?_)
    refine Ep_lt (fun C_3 eC_3 => ?_)
    refine Ep_lt (fun y4 ey4 => ?_)
    refine Ep_bd (ty_X0_bringRow_x_na16 pa qa Tn C_3 y4 hTn) (fun q hq => ?_)
    refine Ep_lt (fun r5 er5 => ?_)
    refine Ep_lt (fun Tn_6 eTn_6 => ?_)
    have hTn_6 : tz T0 Tn_6 := by rw [eTn_6]; exact hq
    refine Ep_bd (ty_X0_bringRow_x_na17 pa qa Tn_6 C_3 r5 hTn_6) (fun q hq => ?_)
    refine Ep_lt (fun r9 er9 => ?_)
    refine Ep_lt (fun Tn_10 eTn_10 => ?_)
    have hTn_10 : tz T0 Tn_10 := by rw [eTn_10]; exact hq
    refine Ep_bd (ty_X0_bringRow_x_na18 pa qa Tn_10 C_3 r9 hTn_10) (fun q hq => ?_)
    refine Ep_lt (fun r13 er13 => ?_)
    refine Ep_lt (fun Tn_14 eTn_14 => ?_)
    have hTn_14 : tz T0 Tn_14 := by rw [eTn_14]; exact hq
    refine Ep_bd (ty_X0_bringRow_x_na15 pa qa Tn_14 C_3 r13 hTn_14) (fun q hq => ?_)
    refine Ep_lt (fun r17 er17 => ?_)
    refine Ep_lt (fun Tn_18 eTn_18 => ?_)
    have hTn_18 : tz T0 Tn_18 := by rw [eTn_18]; exact hq
    refine Ep_bd (ty_X0_bringRow_x_na10 pa qa Tn_18 C_3 r17 hTn_18) (fun q hq => ?_)
    refine Ep_lt (fun r21 er21 => ?_)
    refine Ep_lt (fun Tn_22 eTn_22 => ?_)
    have hTn_22 : tz T0 Tn_22 := by rw [eTn_22]; exact hq
    exact Ep_some hTn_22
set_option maxHeartbeats 1000000 in
set_option maxRecDepth 100000 in
theorem xzB_X7_listComing_L4 {X0 : Tr} (pa : Nat → Nat) (qa : Nat → Nat) (P : Tr) (Tn : Tr) (q4 : Nat)    (N : Nat) : ∀ (x1 : Int32) (x2 : Int32) (X : Tr), xz X0 X → Ep (lpF (fun _ _ _ => none) (fB_X7_listComing_L4 pa qa P Tn q4) N x1 x2 X) (fun q => xz X0 q.2) := by
  induction N with
  | zero => intro x1 x2 X _; exact Ep_none
  | succ N ih =>
    intro x1 x2 X hX
    show Ep (fB_X7_listComing_L4 pa qa P Tn q4 (lpF (fun _ _ _ => none) (fB_X7_listComing_L4 pa qa P Tn q4) N) x1 x2 X) _
    have hk4 := ih
    clear ih
    generalize lpF (fun _ _ _ => none) (fB_X7_listComing_L4 pa qa P Tn q4) N = k4 at hk4 ⊢
    unfold fB_X7_listComing_L4
    refine Ep_ck ?_
    refine Ep_ite (fun _ => ?_) (fun _ => ?_)
    · exact Ep_some hX
    · refine Ep_any (fun r3 => ?_)
      refine Ep_ite (fun _ => ?_) (fun _ => ?_)
      · refine Ep_lt (fun y7 ey7 => ?_)
        exact hk4 x1 y7 X hX
      · refine Ep_ck ?_
        refine Ep_lt (fun X_9 eX_9 => ?_)
        have hX_9 : xz X0 X_9 := by rw [eX_9]; exact xz_s hX (by omega)
        refine Ep_lt (fun y10 ey10 => ?_)
        refine Ep_lt (fun y11 ey11 => ?_)
        exact hk4 y10 y11 X_9 hX_9
set_option maxHeartbeats 1000000 in
set_option maxRecDepth 100000 in
theorem xzL_X7_listComing_L4 {X0 : Tr} (pa : Nat → Nat) (qa : Nat → Nat) (P : Tr) (Tn : Tr) (q4 : Nat)    (x1 : Int32) (x2 : Int32) (X : Tr) (hX : xz X0 X) : Ep (fL_X7_listComing_L4 pa qa P Tn q4 x1 x2 X) (fun q => xz X0 q.2) := by
  unfold fL_X7_listComing_L4
  exact xzB_X7_listComing_L4 pa qa P Tn q4 2000 x1 x2 X hX
set_option maxHeartbeats 1000000 in
set_option maxRecDepth 100000 in
theorem xz_X7_listComing {X0 : Tr} (pa : Nat → Nat) (qa : Nat → Nat) (X : Tr) (P : Tr) (Tn : Tr) (q4 : Nat) (hX : xz X0 X)   : Ep (f_X7_listComing pa qa X P Tn q4) (fun q => xz X0 q.2) := by
  unfold f_X7_listComing
  exact xzL_X7_listComing_L4 pa qa P Tn q4 0 0 X hX
set_option maxHeartbeats 1000000 in
set_option maxRecDepth 100000 in
theorem xz_X7_least {X0 : Tr} (pa : Nat → Nat) (qa : Nat → Nat) (X : Tr) (P : Tr) (L : Lo) (Tn : Tr) (Tu : Tr) (Tv : Tr) (q0 : Nat) (q2 : Nat) (q3 : Nat) (q4 : Nat) (x1 : Int32) (hX : xz X0 X)   : Ep (f_X7_least pa qa X P L Tn Tu Tv q0 q2 q3 q4 x1) (fun q => xz X0 q.2.1) := by
  unfold f_X7_least
  refine Ep_ite (fun _ => ?_) (fun _ => ?_)
  · exact Ep_some hX
  · refine Ep_ite (fun _ => ?_) (fun _ => ?_)
    · exact Ep_some hX
    · refine Ep_ite (fun _ => ?_) (fun _ => ?_)
      · refine Ep_bd (xz_X7_listComing pa qa X P Tn q4 hX) (fun q hq => ?_)
        refine Ep_lt (fun r4 er4 => ?_)
        refine Ep_lt (fun X_5 eX_5 => ?_)
        have hX_5 : xz X0 X_5 := by rw [eX_5]; exact hq
        refine Ep_ite (fun _ => ?_) (fun _ => ?_)
        · refine Ep_any (fun q => ?_)
          refine Ep_lt (fun r9 er9 => ?_)
          refine Ep_lt (fun L_10 eL_10 => ?_)
          refine Ep_lt (fun Tu_11 eTu_11 => ?_)
          refine Ep_lt (fun Tv_12 eTv_12 => ?_)
          refine Ep_lt (fun q2_13 eq2_13 => ?_)
          refine Ep_lt (fun q3_14 eq3_14 => ?_)
          refine Ep_ite (fun _ => ?_) (fun _ => ?_)
          · refine Ep_ite (fun _ => ?_) (fun _ => ?_)
            · exact Ep_some hX_5
            · refine Ep_ite (fun _ => ?_) (fun _ => ?_)
              · refine Ep_any (fun r20 => ?_)
                exact Ep_some hX_5
              · exact Ep_some hX_5
          · exact Ep_some hX_5
        · exact Ep_some hX_5
      · exact Ep_some hX
set_option maxHeartbeats 1000000 in
set_option maxRecDepth 100000 in
theorem xzB_X7_workOutCosts_L16 {X0 : Tr} (k2 : Int32 → Tr → Lo → Tr → Nat → Option (Tr × Lo × Tr × Nat)) (pa : Nat → Nat) (qa : Nat → Nat) (P : Tr) (Tn : Tr) (q0 : Nat) (q4 : Nat) (x1 : Int32) (x2 : Int32) (x3 : Int32)  (hk2 : ∀ (x3 : Int32) (X : Tr) (L : Lo) (Tu : Tr) (q2 : Nat), xz X0 X → Ep (k2 x3 X L Tu q2) (fun q => xz X0 q.1))  (N : Nat) : ∀ (x4 : Int32) (X : Tr) (L : Lo) (Tu : Tr) (q2 : Nat), xz X0 X → Ep (lpF (fun _ _ _ _ _ => none) (fB_X7_workOutCosts_L16 k2 pa qa P Tn q0 q4 x1 x2 x3) N x4 X L Tu q2) (fun q => xz X0 q.1) := by
  induction N with
  | zero => intro x4 X L Tu q2 _; exact Ep_none
  | succ N ih =>
    intro x4 X L Tu q2 hX
    show Ep (fB_X7_workOutCosts_L16 k2 pa qa P Tn q0 q4 x1 x2 x3 (lpF (fun _ _ _ _ _ => none) (fB_X7_workOutCosts_L16 k2 pa qa P Tn q0 q4 x1 x2 x3) N) x4 X L Tu q2) _
    have hk16 := ih
    clear ih
    generalize lpF (fun _ _ _ _ _ => none) (fB_X7_workOutCosts_L16 k2 pa qa P Tn q0 q4 x1 x2 x3) N = k16 at hk16 ⊢
    unfold fB_X7_workOutCosts_L16
    refine Ep_ck ?_
    refine Ep_ite (fun _ => ?_) (fun _ => ?_)
    · refine Ep_lt (fun y5 ey5 => ?_)
      exact hk2 y5 X L Tu q2 hX
    · refine Ep_any (fun q => ?_)
      refine Ep_lt (fun Tu_6 eTu_6 => ?_)
      refine Ep_lt (fun q2_7 eq2_7 => ?_)
      refine Ep_ck ?_
      refine Ep_lt (fun Tu_11 eTu_11 => ?_)
      refine Ep_ck ?_
      refine Ep_lt (fun Tu_13 eTu_13 => ?_)
      refine Ep_ck ?_
      refine Ep_any (fun q => ?_)
      refine Ep_lt (fun Tu_15 eTu_15 => ?_)
      refine Ep_lt (fun L_16 eL_16 => ?_)
      refine Ep_any (fun r19 => ?_)
      refine Ep_ck ?_
      refine Ep_lt (fun X_23 eX_23 => ?_)
      have hX_23 : xz X0 X_23 := by rw [eX_23]; exact xz_s hX (by omega)
      refine Ep_any (fun r24 => ?_)
      refine Ep_lt (fun X_27 eX_27 => ?_)
      have hX_27 : xz X0 X_27 := by rw [eX_27]; exact xz_s hX_23 (by omega)
      refine Ep_lt (fun y28 ey28 => ?_)
      exact hk16 y28 X_27 L_16 Tu_15 (pa 0) hX_27
set_option maxHeartbeats 1000000 in
set_option maxRecDepth 100000 in
theorem xzL_X7_workOutCosts_L16 {X0 : Tr} (k2 : Int32 → Tr → Lo → Tr → Nat → Option (Tr × Lo × Tr × Nat)) (pa : Nat → Nat) (qa : Nat → Nat) (P : Tr) (Tn : Tr) (q0 : Nat) (q4 : Nat) (x1 : Int32) (x2 : Int32) (x3 : Int32)  (hk2 : ∀ (x3 : Int32) (X : Tr) (L : Lo) (Tu : Tr) (q2 : Nat), xz X0 X → Ep (k2 x3 X L Tu q2) (fun q => xz X0 q.1))  (x4 : Int32) (X : Tr) (L : Lo) (Tu : Tr) (q2 : Nat) (hX : xz X0 X) : Ep (fL_X7_workOutCosts_L16 k2 pa qa P Tn q0 q4 x1 x2 x3 x4 X L Tu q2) (fun q => xz X0 q.1) := by
  unfold fL_X7_workOutCosts_L16
  exact xzB_X7_workOutCosts_L16 k2 pa qa P Tn q0 q4 x1 x2 x3 hk2 2000 x4 X L Tu q2 hX
set_option maxHeartbeats 1000000 in
set_option maxRecDepth 100000 in
theorem xzB_X7_workOutCosts_L2 {X0 : Tr} (pa : Nat → Nat) (qa : Nat → Nat) (P : Tr) (Tn : Tr) (q0 : Nat) (q4 : Nat) (x1 : Int32) (x2 : Int32)    (N : Nat) : ∀ (x3 : Int32) (X : Tr) (L : Lo) (Tu : Tr) (q2 : Nat), xz X0 X → Ep (lpF (fun _ _ _ _ _ => none) (fB_X7_workOutCosts_L2 pa qa P Tn q0 q4 x1 x2) N x3 X L Tu q2) (fun q => xz X0 q.1) := by
  induction N with
  | zero => intro x3 X L Tu q2 _; exact Ep_none
  | succ N ih =>
    intro x3 X L Tu q2 hX
    show Ep (fB_X7_workOutCosts_L2 pa qa P Tn q0 q4 x1 x2 (lpF (fun _ _ _ _ _ => none) (fB_X7_workOutCosts_L2 pa qa P Tn q0 q4 x1 x2) N) x3 X L Tu q2) _
    have hk2 := ih
    clear ih
    generalize lpF (fun _ _ _ _ _ => none) (fB_X7_workOutCosts_L2 pa qa P Tn q0 q4 x1 x2) N = k2 at hk2 ⊢
    unfold fB_X7_workOutCosts_L2
    refine Ep_ck ?_
    refine Ep_ite (fun _ => ?_) (fun _ => ?_)
    · exact Ep_some hX
    · exact xzL_X7_workOutCosts_L16 k2 pa qa P Tn q0 (pa 0) x1 x2 x3 hk2 0 X L Tu q2 hX
set_option maxHeartbeats 1000000 in
set_option maxRecDepth 100000 in
theorem xzL_X7_workOutCosts_L2 {X0 : Tr} (pa : Nat → Nat) (qa : Nat → Nat) (P : Tr) (Tn : Tr) (q0 : Nat) (q4 : Nat) (x1 : Int32) (x2 : Int32)    (x3 : Int32) (X : Tr) (L : Lo) (Tu : Tr) (q2 : Nat) (hX : xz X0 X) : Ep (fL_X7_workOutCosts_L2 pa qa P Tn q0 q4 x1 x2 x3 X L Tu q2) (fun q => xz X0 q.1) := by
  unfold fL_X7_workOutCosts_L2
  exact xzB_X7_workOutCosts_L2 pa qa P Tn q0 q4 x1 x2 2000 x3 X L Tu q2 hX
set_option maxHeartbeats 1000000 in
set_option maxRecDepth 100000 in
theorem xz_X7_workOutCosts {X0 : Tr} (pa : Nat → Nat) (qa : Nat → Nat) (X : Tr) (P : Tr) (L : Lo) (Tn : Tr) (Tu : Tr) (q0 : Nat) (q2 : Nat) (q4 : Nat) (x1 : Int32) (x2 : Int32) (hX : xz X0 X)   : Ep (f_X7_workOutCosts pa qa X P L Tn Tu q0 q2 q4 x1 x2) (fun q => xz X0 q.1) := by
  unfold f_X7_workOutCosts
  exact xzL_X7_workOutCosts_L2 pa qa P Tn q0 q4 x1 x2 0 X L Tu q2 hX
set_option maxHeartbeats 1000000 in
set_option maxRecDepth 100000 in
theorem xzB_X7_rests_L22 {X0 : Tr} (pa : Nat → Nat) (qa : Nat → Nat) (X : Tr) (P : Tr) (L : Lo) (Tn : Tr) (Tu : Tr) (q0 : Nat) (q2 : Nat) (q4 : Nat) (hX : xz X0 X)   (N : Nat) : ∀ (x3 : Int32) (x4 : Int32), Ep (lpF (fun _ _ => none) (fB_X7_rests_L22 pa qa X P L Tn Tu q0 q2 q4) N x3 x4) (fun q => xz X0 q.2.1) := by
  induction N with
  | zero => intro x3 x4; exact Ep_none
  | succ N ih =>
    intro x3 x4
    show Ep (fB_X7_rests_L22 pa qa X P L Tn Tu q0 q2 q4 (lpF (fun _ _ => none) (fB_X7_rests_L22 pa qa X P L Tn Tu q0 q2 q4) N) x3 x4) _
    have hk22 := ih
    clear ih
    generalize lpF (fun _ _ => none) (fB_X7_rests_L22 pa qa X P L Tn Tu q0 q2 q4) N = k22 at hk22 ⊢
    unfold fB_X7_rests_L22
    refine Ep_ite (fun _ => ?_) (fun _ => ?_)
    · exact Ep_some hX
    · refine Ep_any (fun r12 => ?_)
      refine Ep_ite (fun _ => ?_) (fun _ => ?_)
      · refine Ep_lt (fun y16 ey16 => ?_)
        exact hk22 x3 y16
      · refine Ep_lt (fun y17 ey17 => ?_)
        refine Ep_lt (fun y18 ey18 => ?_)
        exact hk22 y17 y18
set_option maxHeartbeats 1000000 in
set_option maxRecDepth 100000 in
theorem xzL_X7_rests_L22 {X0 : Tr} (pa : Nat → Nat) (qa : Nat → Nat) (X : Tr) (P : Tr) (L : Lo) (Tn : Tr) (Tu : Tr) (q0 : Nat) (q2 : Nat) (q4 : Nat) (hX : xz X0 X)   (x3 : Int32) (x4 : Int32)  : Ep (fL_X7_rests_L22 pa qa X P L Tn Tu q0 q2 q4 x3 x4) (fun q => xz X0 q.2.1) := by
  unfold fL_X7_rests_L22
  exact xzB_X7_rests_L22 pa qa X P L Tn Tu q0 q2 q4 hX 2000 x3 x4
set_option maxHeartbeats 1000000 in
set_option maxRecDepth 100000 in
theorem xz_X7_rests {X0 : Tr} (pa : Nat → Nat) (qa : Nat → Nat) (X : Tr) (P : Tr) (L : Lo) (Tn : Tr) (Tu : Tr) (q0 : Nat) (q2 : Nat) (q4 : Nat) (x1 : Int32) (x2 : Int32) (hX : xz X0 X)   : Ep (f_X7_rests pa qa X P L Tn Tu q0 q2 q4 x1 x2) (fun q => xz X0 q.2.1) := by
  unfold f_X7_rests
  refine Ep_any (fun r1 => ?_)
  refine Ep_ite (fun _ => ?_) (fun _ => ?_)
  · exact Ep_some hX
  · refine Ep_bd (xz_X7_workOutCosts pa qa X P L Tn Tu q0 q2 q4 x1 x2 hX) (fun q hq => ?_)
    refine Ep_lt (fun X_5 eX_5 => ?_)
    have hX_5 : xz X0 X_5 := by rw [eX_5]; exact hq
    refine Ep_lt (fun L_6 eL_6 => ?_)
    refine Ep_lt (fun Tu_7 eTu_7 => ?_)
    refine Ep_lt (fun q2_8 eq2_8 => ?_)
    exact xzL_X7_rests_L22 pa qa X_5 P L_6 Tn Tu_7 q0 q2_8 q4 hX_5 0 0
set_option maxHeartbeats 1000000 in
set_option maxRecDepth 100000 in
theorem xzJ_X7_rest_J49 {X0 : Tr} (pa : Nat → Nat) (qa : Nat → Nat) (P : Tr) (Tn : Tr) (q0 : Nat) (q4 : Nat) (x5 : Int32) (X : Tr) (L : Lo) (Tu : Tr) (q2 : Nat) (hX : xz X0 X)   : Ep (fJ_X7_rest_J49 pa qa P Tn q0 q4 x5 X L Tu q2) (fun q => xz X0 q.2.1) := by
  unfold fJ_X7_rest_J49
  exact Ep_some hX
set_option maxHeartbeats 1000000 in
set_option maxRecDepth 100000 in
theorem xzB_X7_rest_L27 {X0 : Tr} (pa : Nat → Nat) (qa : Nat → Nat) (X : Tr) (P : Tr) (L : Lo) (Tn : Tr) (Tu : Tr) (q0 : Nat) (q2 : Nat) (q4 : Nat) (x3 : Int32) (hX : xz X0 X)   (N : Nat) : ∀ (x4 : Int32) (x5 : Int32), Ep (lpF (fun _ _ => none) (fB_X7_rest_L27 pa qa X P L Tn Tu q0 q2 q4 x3) N x4 x5) (fun q => xz X0 q.2.1) := by
  induction N with
  | zero => intro x4 x5; exact Ep_none
  | succ N ih =>
    intro x4 x5
    show Ep (fB_X7_rest_L27 pa qa X P L Tn Tu q0 q2 q4 x3 (lpF (fun _ _ => none) (fB_X7_rest_L27 pa qa X P L Tn Tu q0 q2 q4 x3) N) x4 x5) _
    have hk27 := ih
    clear ih
    generalize lpF (fun _ _ => none) (fB_X7_rest_L27 pa qa X P L Tn Tu q0 q2 q4 x3) N = k27 at hk27 ⊢
    unfold fB_X7_rest_L27
    refine Ep_ite (fun _ => ?_) (fun _ => ?_)
    · exact Ep_some hX
    · refine Ep_any (fun r13 => ?_)
      refine Ep_ite (fun _ => ?_) (fun _ => ?_)
      · refine Ep_lt (fun y17 ey17 => ?_)
        exact hk27 x4 y17
      · refine Ep_ite (fun _ => ?_) (fun _ => ?_)
        · exact xzJ_X7_rest_J49 pa qa P Tn q0 q4 x5 X L Tu q2 hX
        · refine Ep_lt (fun y19 ey19 => ?_)
          refine Ep_lt (fun y20 ey20 => ?_)
          exact hk27 y19 y20
set_option maxHeartbeats 1000000 in
set_option maxRecDepth 100000 in
theorem xzL_X7_rest_L27 {X0 : Tr} (pa : Nat → Nat) (qa : Nat → Nat) (X : Tr) (P : Tr) (L : Lo) (Tn : Tr) (Tu : Tr) (q0 : Nat) (q2 : Nat) (q4 : Nat) (x3 : Int32) (hX : xz X0 X)   (x4 : Int32) (x5 : Int32)  : Ep (fL_X7_rest_L27 pa qa X P L Tn Tu q0 q2 q4 x3 x4 x5) (fun q => xz X0 q.2.1) := by
  unfold fL_X7_rest_L27
  exact xzB_X7_rest_L27 pa qa X P L Tn Tu q0 q2 q4 x3 hX 2000 x4 x5
set_option maxHeartbeats 1000000 in
set_option maxRecDepth 100000 in
theorem xz_X7_rest {X0 : Tr} (pa : Nat → Nat) (qa : Nat → Nat) (X : Tr) (P : Tr) (L : Lo) (Tn : Tr) (Tu : Tr) (q0 : Nat) (q2 : Nat) (q4 : Nat) (x1 : Int32) (x2 : Int32) (x3 : Int32) (hX : xz X0 X)   : Ep (f_X7_rest pa qa X P L Tn Tu q0 q2 q4 x1 x2 x3) (fun q => xz X0 q.2.1) := by
  unfold f_X7_rest
  refine Ep_ite (fun _ => ?_) (fun _ => ?_)
  · exact Ep_some hX
  · refine Ep_any (fun r2 => ?_)
    refine Ep_ite (fun _ => ?_) (fun _ => ?_)
    · exact Ep_some hX
    · refine Ep_bd (xz_X7_workOutCosts pa qa X P L Tn Tu q0 q2 q4 x1 x2 hX) (fun q hq => ?_)
      refine Ep_lt (fun X_6 eX_6 => ?_)
      have hX_6 : xz X0 X_6 := by rw [eX_6]; exact hq
      refine Ep_lt (fun L_7 eL_7 => ?_)
      refine Ep_lt (fun Tu_8 eTu_8 => ?_)
      refine Ep_lt (fun q2_9 eq2_9 => ?_)
      exact xzL_X7_rest_L27 pa qa X_6 P L_7 Tn Tu_8 q0 q2_9 q4 x3 hX_6 0 0
set_option maxHeartbeats 1000000 in
set_option maxRecDepth 100000 in
theorem twJ_X7_move_J69 {T0 : Tr} (pa : Nat → Nat) (qa : Nat → Nat) (P : Tr) (q0 : Nat) (q4 : Nat) (x1 : Int32) (x2 : Int32) (Tn : Tr) (C : Tr) (hTn : tz T0 Tn)   : Ep (fJ_X7_move_J69 pa qa P q0 q4 x1 x2 Tn C) (fun q => tz T0 q.2.1) := by
  unfold fJ_X7_move_J69
  refine Ep_any (fun C_17 => ?_)
  refine Ep_ck ?_
  refine Ep_bd (tz_X6_takeAway Tn P x1 (1 : Int32) hTn) (fun Tn_21 hTn_21 => ?_)
  refine Ep_bd (tz_X6_putOn Tn_21 P x2 x1 hTn_21) (fun Tn_24 hTn_24 => ?_)
  exact Ep_some hTn_24
set_option maxHeartbeats 1000000 in
set_option maxRecDepth 100000 in
theorem tw_X7_move {T0 : Tr} (pa : Nat → Nat) (qa : Nat → Nat) (P : Tr) (Tn : Tr) (C : Tr) (q0 : Nat) (q4 : Nat) (x1 : Int32) (x2 : Int32) (hTn : tz T0 Tn)   : Ep (f_X7_move pa qa P Tn C q0 q4 x1 x2) (fun q => tz T0 q.2.1) := by
  unfold f_X7_move
  refine Ep_any (fun r1 => ?_)
  refine Ep_ite (fun _ => ?_) (fun _ => ?_)
  · exact Ep_some hTn
  · refine Ep_any (fun r5 => ?_)
    refine Ep_ite (fun _ => ?_) (fun _ => ?_)
    · exact Ep_some hTn
    · refine Ep_ck ?_
      refine Ep_ite (fun _ => ?_) (fun _ => ?_)
      · exact Ep_some hTn
      · refine Ep_ck ?_
        refine Ep_any (fun r12 => ?_)
        refine Ep_ite (fun _ => ?_) (fun _ => ?_)
        · exact Ep_some hTn
        · refine Ep_ite (fun _ => ?_) (fun _ => ?_)
          · exact twJ_X7_move_J69 pa qa P (pa 0) q4 x1 x2 Tn C hTn
          · refine Ep_any (fun r27 => ?_)
            refine Ep_ite (fun _ => ?_) (fun _ => ?_)
            · exact Ep_some hTn
            · exact twJ_X7_move_J69 pa qa P (pa 0) q4 x1 x2 Tn C hTn
set_option maxHeartbeats 1000000 in
set_option maxRecDepth 100000 in
theorem tw_X7_turn {T0 : Tr} (pa : Nat → Nat) (qa : Nat → Nat) (P : Tr) (Tn : Tr) (Tv : Tr) (C : Tr) (q0 : Nat) (q3 : Nat) (q4 : Nat) (x1 : Int32) (hTn : tz T0 Tn)   : Ep (f_X7_turn pa qa P Tn Tv C q0 q3 q4 x1) (fun q => tz T0 q.2.1) := by
  unfold f_X7_turn
  refine Ep_any (fun r1 => ?_)
  refine Ep_ite (fun _ => ?_) (fun _ => ?_)
  · exact Ep_some hTn
  · refine Ep_any (fun q => ?_)
    refine Ep_lt (fun Tv_5 eTv_5 => ?_)
    refine Ep_lt (fun q3_6 eq3_6 => ?_)
    refine Ep_ck ?_
    refine Ep_bd (tz_X6_turnOver Tn P x1 hTn) (fun q hq => ?_)
    refine Ep_lt (fun r10 er10 => ?_)
    refine Ep_lt (fun Tn_11 eTn_11 => ?_)
    have hTn_11 : tz T0 Tn_11 := by rw [eTn_11]; exact hq
    refine Ep_ite (fun _ => ?_) (fun _ => ?_)
    · exact Ep_some hTn_11
    · refine Ep_any (fun C_15 => ?_)
      exact Ep_some hTn_11
set_option maxHeartbeats 1000000 in
set_option maxRecDepth 100000 in
theorem tw_X7_help {T0 : Tr} (pa : Nat → Nat) (qa : Nat → Nat) (P : Tr) (Tn : Tr) (C : Tr) (q4 : Nat) (x1 : Int32) (x2 : Int32) (hTn : tz T0 Tn)   : Ep (f_X7_help pa qa P Tn C q4 x1 x2) (fun q => tz T0 q.2.1) := by
  unfold f_X7_help
  refine Ep_any (fun r1 => ?_)
  refine Ep_ite (fun _ => ?_) (fun _ => ?_)
  · exact Ep_some hTn
  · refine Ep_ite (fun _ => ?_) (fun _ => ?_)
    · exact Ep_some hTn
    · refine Ep_ite (fun _ => ?_) (fun _ => ?_)
      · exact Ep_some hTn
      · refine Ep_ck ?_
        refine Ep_ite (fun _ => ?_) (fun _ => ?_)
        · exact Ep_some hTn
        · refine Ep_any (fun C_9 => ?_)
          refine Ep_lt (fun Tn_12 eTn_12 => ?_)
          have hTn_12 : tz T0 Tn_12 := by rw [eTn_12]; exact tz_s hTn (by omega)
          exact Ep_some hTn_12
set_option maxHeartbeats 1000000 in
set_option maxRecDepth 100000 in
theorem tw_X7_undo {T0 : Tr} (pa : Nat → Nat) (qa : Nat → Nat) (Tn : Tr) (C : Tr) (hTn : tz T0 Tn)   : Ep (f_X7_undo pa qa Tn C) (fun q => tz T0 q.2.1) := by
  unfold f_X7_undo
  refine Ep_ite (fun _ => ?_) (fun _ => ?_)
  · exact Ep_some hTn
  · refine Ep_bd (ty_X0_bringBack_x_na0 pa qa Tn C hTn) (fun q hq => ?_)
    refine Ep_lt (fun Tn_2 eTn_2 => ?_)
    have hTn_2 : tz T0 Tn_2 := by rw [eTn_2]; exact hq
    refine Ep_lt (fun C_3 eC_3 => ?_)
    exact Ep_some hTn_2
set_option maxHeartbeats 1000000 in
set_option maxRecDepth 100000 in
theorem tw_X7_law {T0 : Tr} (pa : Nat → Nat) (qa : Nat → Nat) (P : Tr) (L : Lo) (Tn : Tr) (q0 : Nat) (q4 : Nat) (x1 : Int32) (x2 : Int32) (hTn : tz T0 Tn)   : Ep (f_X7_law pa qa P L Tn q0 q4 x1 x2) (fun q => tz T0 q.2.2) := by
  unfold f_X7_law
  refine Ep_ite (fun _ => ?_) (fun _ => ?_)
  · exact Ep_some hTn
  · refine Ep_ite (fun _ => ?_) (fun _ => ?_)
    · exact Ep_some hTn
    · refine Ep_any (fun r3 => ?_)
      refine Ep_ite (fun _ => ?_) (fun _ => ?_)
      · exact Ep_some hTn
      · refine Ep_ck ?_
        refine Ep_ck ?_
        refine Ep_ck ?_
        refine Ep_ck ?_
        refine Ep_bd (tz_X6_worked Tn P L x1 x2 (Tn 10 (P 14 x2.toNatClampNeg).toNatClampNeg) hTn) (fun q hq => ?_)
        refine Ep_lt (fun r11 er11 => ?_)
        refine Ep_lt (fun Tn_12 eTn_12 => ?_)
        have hTn_12 : tz T0 Tn_12 := by rw [eTn_12]; exact hq
        refine Ep_lt (fun L_13 eL_13 => ?_)
        exact Ep_some hTn_12
set_option maxHeartbeats 1000000 in
set_option maxRecDepth 100000 in
theorem zyB_X4_judge_x_L39 {Z0 : Tr} (pa : Nat → Nat) (qa : Nat → Nat)    (N : Nat) : ∀ (x2 : Int32) (Z : Tr), zy Z0 Z → Ep (lpF (fun _ _ => none) (fB_X4_judge_x_L39 pa qa) N x2 Z) (fun q => zy Z0 q) := by
  induction N with
  | zero => intro x2 Z _; exact Ep_none
  | succ N ih =>
    intro x2 Z hZ
    show Ep (fB_X4_judge_x_L39 pa qa (lpF (fun _ _ => none) (fB_X4_judge_x_L39 pa qa) N) x2 Z) _
    have hk39 := ih
    clear ih
    generalize lpF (fun _ _ => none) (fB_X4_judge_x_L39 pa qa) N = k39 at hk39 ⊢
    unfold fB_X4_judge_x_L39
    refine Ep_ite (fun _ => ?_) (fun _ => ?_)
    · exact Ep_some hZ
    · refine Ep_ck ?_
      refine Ep_ite (fun _ => ?_) (fun _ => ?_)
      · refine Ep_lt (fun y9 ey9 => ?_)
        exact hk39 y9 Z hZ
      · refine Ep_ite (fun _ => ?_) (fun _ => ?_)
        · refine Ep_ck ?_
          refine Ep_lt (fun Z_13 eZ_13 => ?_)
          have hZ_13 : zy Z0 Z_13 := by rw [eZ_13]; exact zy_s hZ (by omega)
          refine Ep_lt (fun y14 ey14 => ?_)
          exact hk39 y14 Z_13 hZ_13
        · refine Ep_lt (fun y11 ey11 => ?_)
          exact hk39 y11 Z hZ
set_option maxHeartbeats 1000000 in
set_option maxRecDepth 100000 in
theorem zyL_X4_judge_x_L39 {Z0 : Tr} (pa : Nat → Nat) (qa : Nat → Nat)    (x2 : Int32) (Z : Tr) (hZ : zy Z0 Z) : Ep (fL_X4_judge_x_L39 pa qa x2 Z) (fun q => zy Z0 q) := by
  unfold fL_X4_judge_x_L39
  exact zyB_X4_judge_x_L39 pa qa 2000 x2 Z hZ
set_option maxHeartbeats 1000000 in
set_option maxRecDepth 100000 in
theorem zyJ_X4_judge_x_J28 {Z0 : Tr} (k7 : Int32 → Tr → Option (Tr)) (pa : Nat → Nat) (qa : Nat → Nat) (x1 : Int32) (x2 : Int32) (s0 : Int32) (s1 : Int32) (Z : Tr) (hZ : zy Z0 Z) (hk7 : ∀ (x2 : Int32) (Z : Tr), zy Z0 Z → Ep (k7 x2 Z) (fun q => zy Z0 q))  : Ep (fJ_X4_judge_x_J28 k7 pa qa x1 x2 s0 s1 Z) (fun q => zy Z0 q) := by
  unfold fJ_X4_judge_x_J28
  refine Ep_ck ?_
  refine Ep_lt (fun Z_17 eZ_17 => ?_)
  have hZ_17 : zy Z0 Z_17 := by rw [eZ_17]; exact zy_s hZ (by omega)
  refine Ep_lt (fun y18 ey18 => ?_)
  exact hk7 y18 Z_17 hZ_17
set_option maxHeartbeats 1000000 in
set_option maxRecDepth 100000 in
theorem zyB_X4_judge_x_L7 {Z0 : Tr} (pa : Nat → Nat) (qa : Nat → Nat) (x1 : Int32)    (N : Nat) : ∀ (x2 : Int32) (Z : Tr), zy Z0 Z → Ep (lpF (fun _ _ => none) (fB_X4_judge_x_L7 pa qa x1) N x2 Z) (fun q => zy Z0 q) := by
  induction N with
  | zero => intro x2 Z _; exact Ep_none
  | succ N ih =>
    intro x2 Z hZ
    show Ep (fB_X4_judge_x_L7 pa qa x1 (lpF (fun _ _ => none) (fB_X4_judge_x_L7 pa qa x1) N) x2 Z) _
    have hk7 := ih
    clear ih
    generalize lpF (fun _ _ => none) (fB_X4_judge_x_L7 pa qa x1) N = k7 at hk7 ⊢
    unfold fB_X4_judge_x_L7
    refine Ep_ite (fun _ => ?_) (fun _ => ?_)
    · refine Ep_lt (fun y5 ey5 => ?_)
      exact zyL_X4_judge_x_L39 pa qa y5 Z hZ
    · refine Ep_ite (fun _ => ?_) (fun _ => ?_)
      · exact zyJ_X4_judge_x_J28 k7 pa qa x1 x2 0 x2 Z hZ hk7
      · exact zyJ_X4_judge_x_J28 k7 pa qa x1 x2 1 x2 Z hZ hk7
set_option maxHeartbeats 1000000 in
set_option maxRecDepth 100000 in
theorem zyL_X4_judge_x_L7 {Z0 : Tr} (pa : Nat → Nat) (qa : Nat → Nat) (x1 : Int32)    (x2 : Int32) (Z : Tr) (hZ : zy Z0 Z) : Ep (fL_X4_judge_x_L7 pa qa x1 x2 Z) (fun q => zy Z0 q) := by
  unfold fL_X4_judge_x_L7
  exact zyB_X4_judge_x_L7 pa qa x1 2000 x2 Z hZ
set_option maxHeartbeats 1000000 in
set_option maxRecDepth 100000 in
theorem zy_X4_judge_x {Z0 : Tr} (pa : Nat → Nat) (qa : Nat → Nat) (Z : Tr) (hZ : zy Z0 Z)   : Ep (f_X4_judge_x pa qa Z) (fun q => zy Z0 q) := by
  unfold f_X4_judge_x
  refine Ep_any (fun r1 => ?_)
  exact zyL_X4_judge_x_L7 pa qa r1 0 Z hZ
set_option maxHeartbeats 1000000 in
set_option maxRecDepth 100000 in
theorem zyB_X7_got_L21 {Z0 : Tr} (pa : Nat → Nat) (qa : Nat → Nat) (P : Tr) (Z : Tr) (q4 : Nat) (x1 : Int32) (hZ : zy Z0 Z)   (N : Nat) : ∀ (x2 : Int32) (x3 : Int32) (L : Lo) (Tu : Tr) (q2 : Nat), Ep (lpF (fun _ _ _ _ _ => none) (fB_X7_got_L21 pa qa P Z q4 x1) N x2 x3 L Tu q2) (fun q => zy Z0 q.2.2.2.1) := by
  induction N with
  | zero => intro x2 x3 L Tu q2; exact Ep_none
  | succ N ih =>
    intro x2 x3 L Tu q2
    show Ep (fB_X7_got_L21 pa qa P Z q4 x1 (lpF (fun _ _ _ _ _ => none) (fB_X7_got_L21 pa qa P Z q4 x1) N) x2 x3 L Tu q2) _
    have hk21 := ih
    clear ih
    generalize lpF (fun _ _ _ _ _ => none) (fB_X7_got_L21 pa qa P Z q4 x1) N = k21 at hk21 ⊢
    unfold fB_X7_got_L21
    refine Ep_ck ?_
    refine Ep_ck ?_
    refine Ep_ite (fun _ => ?_) (fun _ => ?_)
    · exact Ep_some hZ
    · refine Ep_any (fun q => ?_)
      refine Ep_lt (fun r11 er11 => ?_)
      refine Ep_lt (fun L_12 eL_12 => ?_)
      refine Ep_lt (fun Tu_13 eTu_13 => ?_)
      refine Ep_lt (fun q2_14 eq2_14 => ?_)
      refine Ep_ite (fun _ => ?_) (fun _ => ?_)
      · refine Ep_lt (fun y18 ey18 => ?_)
        exact hk21 x2 y18 L_12 Tu_13 q2_14
      · refine Ep_lt (fun y19 ey19 => ?_)
        refine Ep_lt (fun y20 ey20 => ?_)
        exact hk21 y19 y20 L_12 Tu_13 q2_14
set_option maxHeartbeats 1000000 in
set_option maxRecDepth 100000 in
theorem zyL_X7_got_L21 {Z0 : Tr} (pa : Nat → Nat) (qa : Nat → Nat) (P : Tr) (Z : Tr) (q4 : Nat) (x1 : Int32) (hZ : zy Z0 Z)   (x2 : Int32) (x3 : Int32) (L : Lo) (Tu : Tr) (q2 : Nat)  : Ep (fL_X7_got_L21 pa qa P Z q4 x1 x2 x3 L Tu q2) (fun q => zy Z0 q.2.2.2.1) := by
  unfold fL_X7_got_L21
  exact zyB_X7_got_L21 pa qa P Z q4 x1 hZ 2000 x2 x3 L Tu q2
set_option maxHeartbeats 1000000 in
set_option maxRecDepth 100000 in
theorem zy_X7_got {Z0 : Tr} (pa : Nat → Nat) (qa : Nat → Nat) (P : Tr) (L : Lo) (Tu : Tr) (Z : Tr) (q2 : Nat) (q4 : Nat) (x1 : Int32) (hZ : zy Z0 Z)   : Ep (f_X7_got pa qa P L Tu Z q2 q4 x1) (fun q => zy Z0 q.2.2.2.1) := by
  unfold f_X7_got
  refine Ep_any (fun r1 => ?_)
  refine Ep_ite (fun _ => ?_) (fun _ => ?_)
  · exact Ep_some hZ
  · refine Ep_bd (zy_X4_judge_x pa qa Z hZ) (fun Z_5 hZ_5 => ?_)
    exact zyL_X7_got_L21 pa qa P Z_5 q4 x1 hZ_5 0 0 L Tu q2
