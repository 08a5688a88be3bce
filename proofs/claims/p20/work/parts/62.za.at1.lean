-- 62.za.at1
/-! the class: the stop, the image's mark stay -/
def tz (T T1 : Tr) : Prop := T1 0 0 = T 0 0
theorem tz_s {T0 T : Tr} {a i : Nat} {v : Int32} (h : tz T0 T) (hn : ¬ (a = 0 ∧ i = 0)) : tz T0 (st T a i v) := by
  unfold tz at h ⊢; rw [st_no (fun e => hn ⟨e.1.symm, e.2.symm⟩)]; exact h
theorem tz_c {T0 T : Tr} {a : Nat} {f : Nat → Int32} (h : tz T0 T) (ha : ¬ 0 = a) : tz T0 (stC T a f) := by
  unfold tz at h ⊢; rw [stC_oth ha]; exact h
def zy (Z Z1 : Tr) : Prop := ∀ a j, ((a = 0 ∧ j ≤ 1) ∨ (3 ≤ a ∧ a ≤ 6)) → Z1 a j = Z a j
theorem zy_r {Z : Tr} : zy Z Z := fun _ _ _ => rfl
theorem zy_s {Z0 Z : Tr} {a i : Nat} {v : Int32} (h : zy Z0 Z) (hn : ¬ ((a = 0 ∧ i ≤ 1) ∨ (3 ≤ a ∧ a ≤ 6))) : zy Z0 (st Z a i v) := fun b j hb => by
  rw [st_no (fun e => by obtain ⟨e1, e2⟩ := e; subst e1 e2; exact hn hb)]; exact h b j hb
theorem zy_c {Z0 Z : Tr} {a : Nat} {f : Nat → Int32} (h : zy Z0 Z) (hn : ¬ (a = 0 ∨ (3 ≤ a ∧ a ≤ 6))) : zy Z0 (stC Z a f) := fun b j hb => by
  rw [stC_oth (fun e => hn (by omega))]; exact h b j hb
def xz (X X1 : Tr) : Prop := X1 0 4 = X 0 4
theorem xz_s {X0 X : Tr} {a i : Nat} {v : Int32} (h : xz X0 X) (hn : ¬ (a = 0 ∧ i = 4)) : xz X0 (st X a i v) := by
  unfold xz at h ⊢; rw [st_no (fun e => hn ⟨e.1.symm, e.2.symm⟩)]; exact h
set_option maxHeartbeats 1000000 in
set_option maxRecDepth 100000 in
theorem tzJ_X6_takeAway_J70 {T0 : Tr} (P : Tr) (x1 : Int32) (x2 : Int32) (x4 : Int32) (T : Tr) (hT : tz T0 T)   : Ep (fJ_X6_takeAway_J70 P x1 x2 x4 T) (fun q => tz T0 q) := by
  unfold fJ_X6_takeAway_J70
  refine Ep_ck ?_
  refine Ep_lt (fun T_10 eT_10 => ?_)
  have hT_10 : tz T0 T_10 := by rw [eT_10]; exact tz_s hT (by omega)
  refine Ep_ck ?_
  refine Ep_lt (fun T_12 eT_12 => ?_)
  have hT_12 : tz T0 T_12 := by rw [eT_12]; exact tz_s hT_10 (by omega)
  refine Ep_lt (fun T_13 eT_13 => ?_)
  have hT_13 : tz T0 T_13 := by rw [eT_13]; exact tz_s hT_12 (by omega)
  refine Ep_lt (fun T_14 eT_14 => ?_)
  have hT_14 : tz T0 T_14 := by rw [eT_14]; exact tz_s hT_13 (by omega)
  exact Ep_some hT_14
set_option maxHeartbeats 1000000 in
set_option maxRecDepth 100000 in
theorem tzB_X6_takeAway_L22 {T0 : Tr} (P : Tr) (x1 : Int32) (x2 : Int32) (x4 : Int32)    (N : Nat) : ∀ (x5 : Int32) (T : Tr), tz T0 T → Ep (lpF (fun _ _ => none) (fB_X6_takeAway_L22 P x1 x2 x4) N x5 T) (fun q => tz T0 q) := by
  induction N with
  | zero => intro x5 T _; exact Ep_none
  | succ N ih =>
    intro x5 T hT
    show Ep (fB_X6_takeAway_L22 P x1 x2 x4 (lpF (fun _ _ => none) (fB_X6_takeAway_L22 P x1 x2 x4) N) x5 T) _
    have hk22 := ih
    clear ih
    generalize lpF (fun _ _ => none) (fB_X6_takeAway_L22 P x1 x2 x4) N = k22 at hk22 ⊢
    unfold fB_X6_takeAway_L22
    refine Ep_ck ?_
    refine Ep_ite (fun _ => ?_) (fun _ => ?_)
    · exact tzJ_X6_takeAway_J70 P x1 x2 x4 T hT
    · refine Ep_ck ?_
      refine Ep_ck ?_
      refine Ep_lt (fun T_17 eT_17 => ?_)
      have hT_17 : tz T0 T_17 := by rw [eT_17]; exact tz_s hT (by omega)
      refine Ep_lt (fun y18 ey18 => ?_)
      exact hk22 y18 T_17 hT_17
set_option maxHeartbeats 1000000 in
set_option maxRecDepth 100000 in
theorem tzL_X6_takeAway_L22 {T0 : Tr} (P : Tr) (x1 : Int32) (x2 : Int32) (x4 : Int32)    (x5 : Int32) (T : Tr) (hT : tz T0 T) : Ep (fL_X6_takeAway_L22 P x1 x2 x4 x5 T) (fun q => tz T0 q) := by
  unfold fL_X6_takeAway_L22
  exact tzB_X6_takeAway_L22 P x1 x2 x4 2000 x5 T hT
set_option maxHeartbeats 1000000 in
set_option maxRecDepth 100000 in
theorem tz_X6_takeAway {T0 : Tr} (T : Tr) (P : Tr) (x1 : Int32) (x2 : Int32) (hT : tz T0 T)   : Ep (f_X6_takeAway T P x1 x2) (fun q => tz T0 q) := by
  unfold f_X6_takeAway
  refine Ep_any (fun r1 => ?_)
  refine Ep_ite (fun _ => ?_) (fun _ => ?_)
  · refine Ep_ck ?_
    refine Ep_lt (fun y6 ey6 => ?_)
    exact tzL_X6_takeAway_L22 P x1 x2 y6 r1 T hT
  · exact Ep_some hT
set_option maxHeartbeats 1000000 in
set_option maxRecDepth 100000 in
theorem tz_X6_putOn {T0 : Tr} (T : Tr) (P : Tr) (x1 : Int32) (x2 : Int32) (hT : tz T0 T)   : Ep (f_X6_putOn T P x1 x2) (fun q => tz T0 q) := by
  unfold f_X6_putOn
  refine Ep_ck ?_
  refine Ep_lt (fun y2 ey2 => ?_)
  refine Ep_ite (fun _ => ?_) (fun _ => ?_)
  · exact Ep_some hT
  · refine Ep_ck ?_
    refine Ep_lt (fun T_5 eT_5 => ?_)
    have hT_5 : tz T0 T_5 := by rw [eT_5]; exact tz_s hT (by omega)
    refine Ep_lt (fun T_6 eT_6 => ?_)
    have hT_6 : tz T0 T_6 := by rw [eT_6]; exact tz_s hT_5 (by omega)
    refine Ep_ck ?_
    refine Ep_lt (fun T_8 eT_8 => ?_)
    have hT_8 : tz T0 T_8 := by rw [eT_8]; exact tz_s hT_6 (by omega)
    refine Ep_lt (fun T_9 eT_9 => ?_)
    have hT_9 : tz T0 T_9 := by rw [eT_9]; exact tz_s hT_8 (by omega)
    refine Ep_lt (fun T_10 eT_10 => ?_)
    have hT_10 : tz T0 T_10 := by rw [eT_10]; exact tz_s hT_9 (by omega)
    exact Ep_some hT_10
set_option maxHeartbeats 1000000 in
set_option maxRecDepth 100000 in
theorem tzJ_X6_turnOver_J129 {T0 : Tr} (k52 : Int32 → Tr → Option (Int32 × Tr)) (P : Tr) (x1 : Int32) (x2 : Int32) (x3 : Int32) (x4 : Int32) (x5 : Int32) (x6 : Int32) (T : Tr) (hT : tz T0 T) (hk52 : ∀ (x4 : Int32) (T : Tr), tz T0 T → Ep (k52 x4 T) (fun q => tz T0 q.2))  : Ep (fJ_X6_turnOver_J129 k52 P x1 x2 x3 x4 x5 x6 T) (fun q => tz T0 q.2) := by
  unfold fJ_X6_turnOver_J129
  refine Ep_ck ?_
  refine Ep_lt (fun T_10 eT_10 => ?_)
  have hT_10 : tz T0 T_10 := by rw [eT_10]; exact tz_s hT (by omega)
  refine Ep_lt (fun y11 ey11 => ?_)
  exact hk52 y11 T_10 hT_10
set_option maxHeartbeats 1000000 in
set_option maxRecDepth 100000 in
theorem tzB_X6_turnOver_L78 {T0 : Tr} (k52 : Int32 → Tr → Option (Int32 × Tr)) (P : Tr) (x1 : Int32) (x2 : Int32) (x3 : Int32) (x4 : Int32) (x5 : Int32)  (hk52 : ∀ (x4 : Int32) (T : Tr), tz T0 T → Ep (k52 x4 T) (fun q => tz T0 q.2))  (N : Nat) : ∀ (x6 : Int32) (T : Tr), tz T0 T → Ep (lpF (fun _ _ => none) (fB_X6_turnOver_L78 k52 P x1 x2 x3 x4 x5) N x6 T) (fun q => tz T0 q.2) := by
  induction N with
  | zero => intro x6 T _; exact Ep_none
  | succ N ih =>
    intro x6 T hT
    show Ep (fB_X6_turnOver_L78 k52 P x1 x2 x3 x4 x5 (lpF (fun _ _ => none) (fB_X6_turnOver_L78 k52 P x1 x2 x3 x4 x5) N) x6 T) _
    have hk78 := ih
    clear ih
    generalize lpF (fun _ _ => none) (fB_X6_turnOver_L78 k52 P x1 x2 x3 x4 x5) N = k78 at hk78 ⊢
    unfold fB_X6_turnOver_L78
    refine Ep_ite (fun _ => ?_) (fun _ => ?_)
    · exact tzJ_X6_turnOver_J129 k52 P x1 x2 x3 x4 x5 x6 T hT hk52
    · refine Ep_ck ?_
      refine Ep_any (fun r13 => ?_)
      refine Ep_ite (fun _ => ?_) (fun _ => ?_)
      · exact tzJ_X6_turnOver_J129 k52 P x1 x2 x3 x4 x5 x6 T hT hk52
      · refine Ep_ck ?_
        refine Ep_lt (fun T_18 eT_18 => ?_)
        have hT_18 : tz T0 T_18 := by rw [eT_18]; exact tz_s hT (by omega)
        refine Ep_lt (fun y19 ey19 => ?_)
        exact hk78 y19 T_18 hT_18
set_option maxHeartbeats 1000000 in
set_option maxRecDepth 100000 in
theorem tzL_X6_turnOver_L78 {T0 : Tr} (k52 : Int32 → Tr → Option (Int32 × Tr)) (P : Tr) (x1 : Int32) (x2 : Int32) (x3 : Int32) (x4 : Int32) (x5 : Int32)  (hk52 : ∀ (x4 : Int32) (T : Tr), tz T0 T → Ep (k52 x4 T) (fun q => tz T0 q.2))  (x6 : Int32) (T : Tr) (hT : tz T0 T) : Ep (fL_X6_turnOver_L78 k52 P x1 x2 x3 x4 x5 x6 T) (fun q => tz T0 q.2) := by
  unfold fL_X6_turnOver_L78
  exact tzB_X6_turnOver_L78 k52 P x1 x2 x3 x4 x5 hk52 2000 x6 T hT
set_option maxHeartbeats 1000000 in
set_option maxRecDepth 100000 in
theorem tzB_X6_turnOver_L52 {T0 : Tr} (P : Tr) (x1 : Int32) (x2 : Int32) (x3 : Int32)    (N : Nat) : ∀ (x4 : Int32) (T : Tr), tz T0 T → Ep (lpF (fun _ _ => none) (fB_X6_turnOver_L52 P x1 x2 x3) N x4 T) (fun q => tz T0 q.2) := by
  induction N with
  | zero => intro x4 T _; exact Ep_none
  | succ N ih =>
    intro x4 T hT
    show Ep (fB_X6_turnOver_L52 P x1 x2 x3 (lpF (fun _ _ => none) (fB_X6_turnOver_L52 P x1 x2 x3) N) x4 T) _
    have hk52 := ih
    clear ih
    generalize lpF (fun _ _ => none) (fB_X6_turnOver_L52 P x1 x2 x3) N = k52 at hk52 ⊢
    unfold fB_X6_turnOver_L52
    refine Ep_ck ?_
    refine Ep_ite (fun _ => ?_) (fun _ => ?_)
    · exact Ep_some hT
    · refine Ep_ck ?_
      refine Ep_lt (fun y7 ey7 => ?_)
      exact tzL_X6_turnOver_L78 k52 P x1 x2 x3 x4 y7 hk52 x4 T hT
set_option maxHeartbeats 1000000 in
set_option maxRecDepth 100000 in
theorem tzL_X6_turnOver_L52 {T0 : Tr} (P : Tr) (x1 : Int32) (x2 : Int32) (x3 : Int32)    (x4 : Int32) (T : Tr) (hT : tz T0 T) : Ep (fL_X6_turnOver_L52 P x1 x2 x3 x4 T) (fun q => tz T0 q.2) := by
  unfold fL_X6_turnOver_L52
  exact tzB_X6_turnOver_L52 P x1 x2 x3 2000 x4 T hT
set_option maxHeartbeats 1000000 in
set_option maxRecDepth 100000 in
theorem tzB_X6_turnOver_L10 {T0 : Tr} (T : Tr) (P : Tr) (x1 : Int32) (x2 : Int32) (hT : tz T0 T)   (N : Nat) : ∀ (x3 : Int32) (x4 : Int32), Ep (lpF (fun _ _ => none) (fB_X6_turnOver_L10 T P x1 x2) N x3 x4) (fun q => tz T0 q.2) := by
  induction N with
  | zero => intro x3 x4; exact Ep_none
  | succ N ih =>
    intro x3 x4
    show Ep (fB_X6_turnOver_L10 T P x1 x2 (lpF (fun _ _ => none) (fB_X6_turnOver_L10 T P x1 x2) N) x3 x4) _
    have hk10 := ih
    clear ih
    generalize lpF (fun _ _ => none) (fB_X6_turnOver_L10 T P x1 x2) N = k10 at hk10 ⊢
    unfold fB_X6_turnOver_L10
    refine Ep_ck ?_
    refine Ep_ite (fun _ => ?_) (fun _ => ?_)
    · exact tzL_X6_turnOver_L52 P x1 x2 x3 1 T hT
    · refine Ep_ck ?_
      refine Ep_any (fun r21 => ?_)
      refine Ep_ite (fun _ => ?_) (fun _ => ?_)
      · refine Ep_lt (fun y25 ey25 => ?_)
        exact hk10 x3 y25
      · refine Ep_lt (fun y26 ey26 => ?_)
        refine Ep_lt (fun y27 ey27 => ?_)
        exact hk10 y26 y27
set_option maxHeartbeats 1000000 in
set_option maxRecDepth 100000 in
theorem tzL_X6_turnOver_L10 {T0 : Tr} (T : Tr) (P : Tr) (x1 : Int32) (x2 : Int32) (hT : tz T0 T)   (x3 : Int32) (x4 : Int32)  : Ep (fL_X6_turnOver_L10 T P x1 x2 x3 x4) (fun q => tz T0 q.2) := by
  unfold fL_X6_turnOver_L10
  exact tzB_X6_turnOver_L10 T P x1 x2 hT 2000 x3 x4
set_option maxHeartbeats 1000000 in
set_option maxRecDepth 100000 in
theorem tz_X6_turnOver {T0 : Tr} (T : Tr) (P : Tr) (x1 : Int32) (hT : tz T0 T)   : Ep (f_X6_turnOver T P x1) (fun q => tz T0 q.2) := by
  unfold f_X6_turnOver
  refine Ep_lt (fun y1 ey1 => ?_)
  exact tzL_X6_turnOver_L10 T P x1 y1 hT 0 0
set_option maxHeartbeats 1000000 in
set_option maxRecDepth 100000 in
theorem tzB_X6_setFree_L2 {T0 : Tr} (P : Tr) (x1 : Int32) (x2 : Int32)    (N : Nat) : ∀ (x3 : Int32) (T : Tr), tz T0 T → Ep (lpF (fun _ _ => none) (fB_X6_setFree_L2 P x1 x2) N x3 T) (fun q => tz T0 q) := by
  induction N with
  | zero => intro x3 T _; exact Ep_none
  | succ N ih =>
    intro x3 T hT
    show Ep (fB_X6_setFree_L2 P x1 x2 (lpF (fun _ _ => none) (fB_X6_setFree_L2 P x1 x2) N) x3 T) _
    have hk2 := ih
    clear ih
    generalize lpF (fun _ _ => none) (fB_X6_setFree_L2 P x1 x2) N = k2 at hk2 ⊢
    unfold fB_X6_setFree_L2
    refine Ep_ite (fun _ => ?_) (fun _ => ?_)
    · exact Ep_some hT
    · refine Ep_ck ?_
      refine Ep_ite (fun _ => ?_) (fun _ => ?_)
      · refine Ep_ite (fun _ => ?_) (fun _ => ?_)
        · refine Ep_bd (tz_X6_takeAway T P x3 x2 hT) (fun T_7 hT_7 => ?_)
          refine Ep_lt (fun y10 ey10 => ?_)
          exact hk2 y10 T_7 hT_7
        · refine Ep_lt (fun y6 ey6 => ?_)
          exact hk2 y6 T hT
      · refine Ep_lt (fun y4 ey4 => ?_)
        exact hk2 y4 T hT
set_option maxHeartbeats 1000000 in
set_option maxRecDepth 100000 in
theorem tzL_X6_setFree_L2 {T0 : Tr} (P : Tr) (x1 : Int32) (x2 : Int32)    (x3 : Int32) (T : Tr) (hT : tz T0 T) : Ep (fL_X6_setFree_L2 P x1 x2 x3 T) (fun q => tz T0 q) := by
  unfold fL_X6_setFree_L2
  exact tzB_X6_setFree_L2 P x1 x2 2000 x3 T hT
set_option maxHeartbeats 1000000 in
set_option maxRecDepth 100000 in
theorem tz_X6_setFree {T0 : Tr} (T : Tr) (P : Tr) (x1 : Int32) (x2 : Int32) (hT : tz T0 T)   : Ep (f_X6_setFree T P x1 x2) (fun q => tz T0 q) := by
  unfold f_X6_setFree
  exact tzL_X6_setFree_L2 P x1 x2 0 T hT
set_option maxHeartbeats 1000000 in
set_option maxRecDepth 100000 in
theorem tzJ_X6_takeDown_J192 {T0 : Tr} (k7 : Int32 → Int32 → Int32 → Tr → Lo → Option (Int32 × Tr × Lo)) (P : Tr) (x1 : Int32) (x2 : Int32) (x3 : Int32) (x4 : Int32) (T : Tr) (L : Lo) (hT : tz T0 T) (hk7 : ∀ (x2 : Int32) (x3 : Int32) (x4 : Int32) (T : Tr) (L : Lo), tz T0 T → Ep (k7 x2 x3 x4 T L) (fun q => tz T0 q.2.1))  : Ep (fJ_X6_takeDown_J192 k7 P x1 x2 x3 x4 T L) (fun q => tz T0 q.2.1) := by
  unfold fJ_X6_takeDown_J192
  refine Ep_any (fun r8 => ?_)
  refine Ep_ite (fun _ => ?_) (fun _ => ?_)
  · refine Ep_ck ?_
    refine Ep_lt (fun T_14 eT_14 => ?_)
    have hT_14 : tz T0 T_14 := by rw [eT_14]; exact tz_s hT (by omega)
    refine Ep_lt (fun y15 ey15 => ?_)
    exact hk7 x2 x3 y15 T_14 L hT_14
  · refine Ep_lt (fun y12 ey12 => ?_)
    exact hk7 x2 x3 y12 T L hT
set_option maxHeartbeats 1000000 in
set_option maxRecDepth 100000 in
theorem tzJ_X6_takeDown_J176 {T0 : Tr} (k7 : Int32 → Int32 → Int32 → Tr → Lo → Option (Int32 × Tr × Lo)) (P : Tr) (x1 : Int32) (x2 : Int32) (x3 : Int32) (x4 : Int32) (T : Tr) (L : Lo) (hT : tz T0 T) (hk7 : ∀ (x2 : Int32) (x3 : Int32) (x4 : Int32) (T : Tr) (L : Lo), tz T0 T → Ep (k7 x2 x3 x4 T L) (fun q => tz T0 q.2.1))  : Ep (fJ_X6_takeDown_J176 k7 P x1 x2 x3 x4 T L) (fun q => tz T0 q.2.1) := by
  unfold fJ_X6_takeDown_J176
  refine Ep_ite (fun _ => ?_) (fun _ => ?_)
  · refine Ep_bd (tz_X6_setFree T P x4 (5 : Int32) hT) (fun T_16 hT_16 => ?_)
    exact tzJ_X6_takeDown_J192 k7 P x1 x2 x3 x4 T_16 L hT_16 hk7
  · exact tzJ_X6_takeDown_J192 k7 P x1 x2 x3 x4 T L hT hk7
set_option maxHeartbeats 1000000 in
set_option maxRecDepth 100000 in
theorem tz_X6_worked {T0 : Tr} (T : Tr) (P : Tr) (L : Lo) (x1 : Int32) (x2 : Int32) (x3 : Int32) (hT : tz T0 T)   : Ep (f_X6_worked T P L x1 x2 x3) (fun q => tz T0 q.2.1) := by
  unfold f_X6_worked
  refine Ep_ck ?_
  refine Ep_lt (fun y2 ey2 => ?_)
  refine Ep_ck ?_
  refine Ep_ite (fun _ => ?_) (fun _ => ?_)
  · exact Ep_some hT
  · refine Ep_ite (fun _ => ?_) (fun _ => ?_)
    · refine Ep_lt (fun T_6 eT_6 => ?_)
      have hT_6 : tz T0 T_6 := by rw [eT_6]; exact tz_s hT (by omega)
      refine Ep_lt (fun T_7 eT_7 => ?_)
      have hT_7 : tz T0 T_7 := by rw [eT_7]; exact tz_s hT_6 (by omega)
      refine Ep_ck ?_
      refine Ep_any (fun r9 => ?_)
      refine Ep_lt (fun T_12 eT_12 => ?_)
      have hT_12 : tz T0 T_12 := by rw [eT_12]; exact tz_s hT_7 (by omega)
      refine Ep_lt (fun T_13 eT_13 => ?_)
      have hT_13 : tz T0 T_13 := by rw [eT_13]; exact tz_s hT_12 (by omega)
      refine Ep_lt (fun T_14 eT_14 => ?_)
      have hT_14 : tz T0 T_14 := by rw [eT_14]; exact tz_s hT_13 (by omega)
      refine Ep_lt (fun T_15 eT_15 => ?_)
      have hT_15 : tz T0 T_15 := by rw [eT_15]; exact tz_s hT_14 (by omega)
      refine Ep_lt (fun T_16 eT_16 => ?_)
      have hT_16 : tz T0 T_16 := by rw [eT_16]; exact tz_s hT_15 (by omega)
      refine Ep_any (fun q => ?_)
      refine Ep_lt (fun r17 er17 => ?_)
      refine Ep_lt (fun L_18 eL_18 => ?_)
      exact Ep_some hT_16
    · exact Ep_some hT
set_option maxHeartbeats 1000000 in
set_option maxRecDepth 100000 in
theorem tzB_X6_secondsFor_L26 {T0 : Tr} (P : Tr) (x2 : Int32) (x4 : Int32)    (N : Nat) : ∀ (x5 : Int32) (x6 : Int32) (T : Tr) (L : Lo), tz T0 T → Ep (lpF (fun _ _ _ _ => none) (fB_X6_secondsFor_L26 P x2 x4) N x5 x6 T L) (fun q => tz T0 q.2.1) := by
  induction N with
  | zero => intro x5 x6 T L _; exact Ep_none
  | succ N ih =>
    intro x5 x6 T L hT
    show Ep (fB_X6_secondsFor_L26 P x2 x4 (lpF (fun _ _ _ _ => none) (fB_X6_secondsFor_L26 P x2 x4) N) x5 x6 T L) _
    have hk26 := ih
    clear ih
    generalize lpF (fun _ _ _ _ => none) (fB_X6_secondsFor_L26 P x2 x4) N = k26 at hk26 ⊢
    unfold fB_X6_secondsFor_L26
    refine Ep_ck ?_
    refine Ep_ite (fun _ => ?_) (fun _ => ?_)
    · exact Ep_some hT
    · refine Ep_ck ?_
      refine Ep_lt (fun y10 ey10 => ?_)
      refine Ep_bd (tz_X6_worked T P L (0 : Int32) y10 x2 hT) (fun q hq => ?_)
      refine Ep_lt (fun r11 er11 => ?_)
      refine Ep_lt (fun T_12 eT_12 => ?_)
      have hT_12 : tz T0 T_12 := by rw [eT_12]; exact hq
      refine Ep_lt (fun L_13 eL_13 => ?_)
      refine Ep_ite (fun _ => ?_) (fun _ => ?_)
      · refine Ep_ite (fun _ => ?_) (fun _ => ?_)
        · refine Ep_lt (fun y18 ey18 => ?_)
          exact hk26 x5 y18 T_12 L_13 hT_12
        · refine Ep_ck ?_
          refine Ep_ck ?_
          refine Ep_lt (fun y21 ey21 => ?_)
          refine Ep_lt (fun y22 ey22 => ?_)
          exact hk26 y21 y22 T_12 L_13 hT_12
      · refine Ep_any (fun r23 => ?_)
        refine Ep_lt (fun y26 ey26 => ?_)
        refine Ep_lt (fun y27 ey27 => ?_)
        exact hk26 y26 y27 T_12 L_13 hT_12
set_option maxHeartbeats 1000000 in
set_option maxRecDepth 100000 in
theorem tzL_X6_secondsFor_L26 {T0 : Tr} (P : Tr) (x2 : Int32) (x4 : Int32)    (x5 : Int32) (x6 : Int32) (T : Tr) (L : Lo) (hT : tz T0 T) : Ep (fL_X6_secondsFor_L26 P x2 x4 x5 x6 T L) (fun q => tz T0 q.2.1) := by
  unfold fL_X6_secondsFor_L26
  exact tzB_X6_secondsFor_L26 P x2 x4 2000 x5 x6 T L hT
set_option maxHeartbeats 1000000 in
set_option maxRecDepth 100000 in
theorem tz_X6_secondsFor {T0 : Tr} (T : Tr) (P : Tr) (L : Lo) (x1 : Int32) (x2 : Int32) (hT : tz T0 T)   : Ep (f_X6_secondsFor T P L x1 x2) (fun q => tz T0 q.2.1) := by
  unfold f_X6_secondsFor
  refine Ep_any (fun r1 => ?_)
  refine Ep_ite (fun _ => ?_) (fun _ => ?_)
  · refine Ep_ck ?_
    refine Ep_lt (fun y6 ey6 => ?_)
    exact tzL_X6_secondsFor_L26 P x2 y6 0 r1 T L hT
  · exact Ep_some hT
set_option maxHeartbeats 1000000 in
set_option maxRecDepth 100000 in
theorem tzJ_X6_takeDown_J126 {T0 : Tr} (k7 : Int32 → Int32 → Int32 → Tr → Lo → Option (Int32 × Tr × Lo)) (k53 : Int32 → Int32 → Int32 → Tr → Lo → Option (Int32 × Tr × Lo)) (P : Tr) (x1 : Int32) (x4 : Int32) (x2 : Int32) (x5 : Int32) (x6 : Int32) (s0 : Int32) (T : Tr) (L : Lo) (hT : tz T0 T) (hk7 : ∀ (x2 : Int32) (x3 : Int32) (x4 : Int32) (T : Tr) (L : Lo), tz T0 T → Ep (k7 x2 x3 x4 T L) (fun q => tz T0 q.2.1)) (hk53 : ∀ (x2 : Int32) (x3 : Int32) (x5 : Int32) (T : Tr) (L : Lo), tz T0 T → Ep (k53 x2 x3 x5 T L) (fun q => tz T0 q.2.1))  : Ep (fJ_X6_takeDown_J126 k7 k53 P x1 x4 x2 x5 x6 s0 T L) (fun q => tz T0 q.2.1) := by
  unfold fJ_X6_takeDown_J126
  refine Ep_ite (fun _ => ?_) (fun _ => ?_)
  · refine Ep_lt (fun y32 ey32 => ?_)
    exact hk53 x2 s0 y32 T L hT
  · refine Ep_lt (fun y33 ey33 => ?_)
    refine Ep_ck ?_
    refine Ep_lt (fun T_35 eT_35 => ?_)
    have hT_35 : tz T0 T_35 := by rw [eT_35]; exact tz_s hT (by omega)
    refine Ep_any (fun r36 => ?_)
    refine Ep_lt (fun T_39 eT_39 => ?_)
    have hT_39 : tz T0 T_39 := by rw [eT_39]; exact tz_s hT_35 (by omega)
    refine Ep_bd (tz_X6_takeAway T_39 P x5 (2 : Int32) hT_39) (fun T_40 hT_40 => ?_)
    refine Ep_lt (fun y43 ey43 => ?_)
    exact hk53 y33 s0 y43 T_40 L hT_40
set_option maxHeartbeats 1000000 in
set_option maxRecDepth 100000 in
theorem tzB_X6_takeDown_L53 {T0 : Tr} (k7 : Int32 → Int32 → Int32 → Tr → Lo → Option (Int32 × Tr × Lo)) (P : Tr) (x1 : Int32) (x4 : Int32)  (hk7 : ∀ (x2 : Int32) (x3 : Int32) (x4 : Int32) (T : Tr) (L : Lo), tz T0 T → Ep (k7 x2 x3 x4 T L) (fun q => tz T0 q.2.1))  (N : Nat) : ∀ (x2 : Int32) (x3 : Int32) (x5 : Int32) (T : Tr) (L : Lo), tz T0 T → Ep (lpF (fun _ _ _ _ _ => none) (fB_X6_takeDown_L53 k7 P x1 x4) N x2 x3 x5 T L) (fun q => tz T0 q.2.1) := by
  induction N with
  | zero => intro x2 x3 x5 T L _; exact Ep_none
  | succ N ih =>
    intro x2 x3 x5 T L hT
    show Ep (fB_X6_takeDown_L53 k7 P x1 x4 (lpF (fun _ _ _ _ _ => none) (fB_X6_takeDown_L53 k7 P x1 x4) N) x2 x3 x5 T L) _
    have hk53 := ih
    clear ih
    generalize lpF (fun _ _ _ _ _ => none) (fB_X6_takeDown_L53 k7 P x1 x4) N = k53 at hk53 ⊢
    unfold fB_X6_takeDown_L53
    refine Ep_ite (fun _ => ?_) (fun _ => ?_)
    · exact tzJ_X6_takeDown_J176 k7 P x1 x2 x3 x4 T L hT hk7
    · refine Ep_ite (fun _ => ?_) (fun _ => ?_)
      · exact tzJ_X6_takeDown_J176 k7 P x1 x2 x3 x4 T L hT hk7
      · refine Ep_ck ?_
        refine Ep_ite (fun _ => ?_) (fun _ => ?_)
        · refine Ep_ite (fun _ => ?_) (fun _ => ?_)
          · refine Ep_ck ?_
            refine Ep_bd (tz_X6_secondsFor T P L x5 (T 10 x4.toNatClampNeg) hT) (fun q hq => ?_)
            refine Ep_lt (fun r25 er25 => ?_)
            refine Ep_lt (fun T_26 eT_26 => ?_)
            have hT_26 : tz T0 T_26 := by rw [eT_26]; exact hq
            refine Ep_lt (fun L_27 eL_27 => ?_)
            refine Ep_ite (fun _ => ?_) (fun _ => ?_)
            · exact tzJ_X6_takeDown_J126 k7 k53 P x1 x4 x2 x5 r25 0 T_26 L_27 hT_26 hk7 hk53
            · exact tzJ_X6_takeDown_J126 k7 k53 P x1 x4 x2 x5 r25 1 T_26 L_27 hT_26 hk7 hk53
          · refine Ep_lt (fun y44 ey44 => ?_)
            exact hk53 x2 x3 y44 T L hT
        · refine Ep_lt (fun y22 ey22 => ?_)
          exact hk53 x2 x3 y22 T L hT
set_option maxHeartbeats 1000000 in
set_option maxRecDepth 100000 in
theorem tzL_X6_takeDown_L53 {T0 : Tr} (k7 : Int32 → Int32 → Int32 → Tr → Lo → Option (Int32 × Tr × Lo)) (P : Tr) (x1 : Int32) (x4 : Int32)  (hk7 : ∀ (x2 : Int32) (x3 : Int32) (x4 : Int32) (T : Tr) (L : Lo), tz T0 T → Ep (k7 x2 x3 x4 T L) (fun q => tz T0 q.2.1))  (x2 : Int32) (x3 : Int32) (x5 : Int32) (T : Tr) (L : Lo) (hT : tz T0 T) : Ep (fL_X6_takeDown_L53 k7 P x1 x4 x2 x3 x5 T L) (fun q => tz T0 q.2.1) := by
  unfold fL_X6_takeDown_L53
  exact tzB_X6_takeDown_L53 k7 P x1 x4 hk7 2000 x2 x3 x5 T L hT
set_option maxHeartbeats 1000000 in
set_option maxRecDepth 100000 in
theorem tzB_X6_takeDown_L7 {T0 : Tr} (P : Tr) (x1 : Int32)    (N : Nat) : ∀ (x2 : Int32) (x3 : Int32) (x4 : Int32) (T : Tr) (L : Lo), tz T0 T → Ep (lpF (fun _ _ _ _ _ => none) (fB_X6_takeDown_L7 P x1) N x2 x3 x4 T L) (fun q => tz T0 q.2.1) := by
  induction N with
  | zero => intro x2 x3 x4 T L _; exact Ep_none
  | succ N ih =>
    intro x2 x3 x4 T L hT
    show Ep (fB_X6_takeDown_L7 P x1 (lpF (fun _ _ _ _ _ => none) (fB_X6_takeDown_L7 P x1) N) x2 x3 x4 T L) _
    have hk7 := ih
    clear ih
    generalize lpF (fun _ _ _ _ _ => none) (fB_X6_takeDown_L7 P x1) N = k7 at hk7 ⊢
    unfold fB_X6_takeDown_L7
    refine Ep_ite (fun _ => ?_) (fun _ => ?_)
    · exact Ep_some hT
    · refine Ep_ck ?_
      refine Ep_ite (fun _ => ?_) (fun _ => ?_)
      · refine Ep_ite (fun _ => ?_) (fun _ => ?_)
        · exact tzL_X6_takeDown_L53 k7 P x1 x4 hk7 x2 x3 0 T L hT
        · refine Ep_lt (fun y45 ey45 => ?_)
          exact hk7 x2 x3 y45 T L hT
      · refine Ep_lt (fun y4 ey4 => ?_)
        exact hk7 x2 x3 y4 T L hT
set_option maxHeartbeats 1000000 in
set_option maxRecDepth 100000 in
theorem tzL_X6_takeDown_L7 {T0 : Tr} (P : Tr) (x1 : Int32)    (x2 : Int32) (x3 : Int32) (x4 : Int32) (T : Tr) (L : Lo) (hT : tz T0 T) : Ep (fL_X6_takeDown_L7 P x1 x2 x3 x4 T L) (fun q => tz T0 q.2.1) := by
  unfold fL_X6_takeDown_L7
  exact tzB_X6_takeDown_L7 P x1 2000 x2 x3 x4 T L hT
set_option maxHeartbeats 1000000 in
set_option maxRecDepth 100000 in
theorem tz_X6_takeDown {T0 : Tr} (T : Tr) (P : Tr) (L : Lo) (x1 : Int32) (hT : tz T0 T)   : Ep (f_X6_takeDown T P L x1) (fun q => tz T0 q.2.1) := by
  unfold f_X6_takeDown
  exact tzL_X6_takeDown_L7 P x1 0 1 0 T L hT
set_option maxHeartbeats 1000000 in
set_option maxRecDepth 100000 in
theorem tzJ_X6_stow_J31 {T0 : Tr} (P : Tr) (x1 : Int32) (x2 : Int32) (T : Tr) (hT : tz T0 T)   : Ep (fJ_X6_stow_J31 P x1 x2 T) (fun q => tz T0 q) := by
  unfold fJ_X6_stow_J31
  refine Ep_ite (fun _ => ?_) (fun _ => ?_)
  · refine Ep_bd (tz_X6_putOn T P x2 x1 hT) (fun T_9 hT_9 => ?_)
    exact Ep_some hT_9
  · refine Ep_ck ?_
    refine Ep_lt (fun T_13 eT_13 => ?_)
    have hT_13 : tz T0 T_13 := by rw [eT_13]; exact tz_s hT (by omega)
    exact Ep_some hT_13
set_option maxHeartbeats 1000000 in
set_option maxRecDepth 100000 in
theorem tz_X6_stow {T0 : Tr} (T : Tr) (P : Tr) (x1 : Int32) (hT : tz T0 T)   : Ep (f_X6_stow T P x1) (fun q => tz T0 q) := by
  unfold f_X6_stow
  refine Ep_ck ?_
  refine Ep_lt (fun y2 ey2 => ?_)
  refine Ep_ite (fun _ => ?_) (fun _ => ?_)
  · refine Ep_any (fun r4 => ?_)
    refine Ep_ite (fun _ => ?_) (fun _ => ?_)
    · exact tzJ_X6_stow_J31 P x1 (-1) T hT
    · exact tzJ_X6_stow_J31 P x1 y2 T hT
  · refine Ep_any (fun r14 => ?_)
    exact tzJ_X6_stow_J31 P x1 r14 T hT
set_option maxHeartbeats 1000000 in
set_option maxRecDepth 100000 in
theorem tzB_X6_getIn_L47 {T0 : Tr} (k2 : Int32 → Tr → Option (Tr)) (P : Tr) (x1 : Int32)  (hk2 : ∀ (x1 : Int32) (T : Tr), tz T0 T → Ep (k2 x1 T) (fun q => tz T0 q))  (N : Nat) : ∀ (x2 : Int32) (T : Tr), tz T0 T → Ep (lpF (fun _ _ => none) (fB_X6_getIn_L47 k2 P x1) N x2 T) (fun q => tz T0 q) := by
  induction N with
  | zero => intro x2 T _; exact Ep_none
  | succ N ih =>
    intro x2 T hT
    show Ep (fB_X6_getIn_L47 k2 P x1 (lpF (fun _ _ => none) (fB_X6_getIn_L47 k2 P x1) N) x2 T) _
    have hk47 := ih
    clear ih
    generalize lpF (fun _ _ => none) (fB_X6_getIn_L47 k2 P x1) N = k47 at hk47 ⊢
    unfold fB_X6_getIn_L47
    refine Ep_ite (fun _ => ?_) (fun _ => ?_)
    · refine Ep_lt (fun y8 ey8 => ?_)
      exact hk2 y8 T hT
    · refine Ep_ck ?_
      refine Ep_ite (fun _ => ?_) (fun _ => ?_)
      · refine Ep_bd (tz_X6_stow T P x2 hT) (fun T_12 hT_12 => ?_)
        refine Ep_lt (fun y15 ey15 => ?_)
        exact hk47 y15 T_12 hT_12
      · refine Ep_lt (fun y11 ey11 => ?_)
        exact hk47 y11 T hT
set_option maxHeartbeats 1000000 in
set_option maxRecDepth 100000 in
theorem tzL_X6_getIn_L47 {T0 : Tr} (k2 : Int32 → Tr → Option (Tr)) (P : Tr) (x1 : Int32)  (hk2 : ∀ (x1 : Int32) (T : Tr), tz T0 T → Ep (k2 x1 T) (fun q => tz T0 q))  (x2 : Int32) (T : Tr) (hT : tz T0 T) : Ep (fL_X6_getIn_L47 k2 P x1 x2 T) (fun q => tz T0 q) := by
  unfold fL_X6_getIn_L47
  exact tzB_X6_getIn_L47 k2 P x1 hk2 2000 x2 T hT
set_option maxHeartbeats 1000000 in
set_option maxRecDepth 100000 in
theorem tzB_X6_getIn_L2 {T0 : Tr} (P : Tr)    (N : Nat) : ∀ (x1 : Int32) (T : Tr), tz T0 T → Ep (lpF (fun _ _ => none) (fB_X6_getIn_L2 P) N x1 T) (fun q => tz T0 q) := by
  induction N with
  | zero => intro x1 T _; exact Ep_none
  | succ N ih =>
    intro x1 T hT
    show Ep (fB_X6_getIn_L2 P (lpF (fun _ _ => none) (fB_X6_getIn_L2 P) N) x1 T) _
    have hk2 := ih
    clear ih
    generalize lpF (fun _ _ => none) (fB_X6_getIn_L2 P) N = k2 at hk2 ⊢
    unfold fB_X6_getIn_L2
    refine Ep_ite (fun _ => ?_) (fun _ => ?_)
    · exact Ep_some hT
    · refine Ep_ck ?_
      refine Ep_ite (fun _ => ?_) (fun _ => ?_)
      · refine Ep_ite (fun _ => ?_) (fun _ => ?_)
        · refine Ep_lt (fun T_6 eT_6 => ?_)
          have hT_6 : tz T0 T_6 := by rw [eT_6]; exact tz_s hT (by omega)
          exact tzL_X6_getIn_L47 k2 P x1 hk2 0 T_6 hT_6
        · refine Ep_lt (fun y16 ey16 => ?_)
          exact hk2 y16 T hT
      · refine Ep_lt (fun y4 ey4 => ?_)
        exact hk2 y4 T hT
set_option maxHeartbeats 1000000 in
set_option maxRecDepth 100000 in
theorem tzL_X6_getIn_L2 {T0 : Tr} (P : Tr)    (x1 : Int32) (T : Tr) (hT : tz T0 T) : Ep (fL_X6_getIn_L2 P x1 T) (fun q => tz T0 q) := by
  unfold fL_X6_getIn_L2
  exact tzB_X6_getIn_L2 P 2000 x1 T hT
set_option maxHeartbeats 1000000 in
set_option maxRecDepth 100000 in
theorem tz_X6_getIn {T0 : Tr} (T : Tr) (P : Tr) (hT : tz T0 T)   : Ep (f_X6_getIn T P) (fun q => tz T0 q) := by
  unfold f_X6_getIn
  exact tzL_X6_getIn_L2 P 0 T hT
set_option maxHeartbeats 1000000 in
set_option maxRecDepth 100000 in
theorem tzJ_X6_fallPercent_J57 {T0 : Tr} (P : Tr) (s0 : Int64) (T : Tr) (L : Lo) (hT : tz T0 T)   : Ep (fJ_X6_fallPercent_J57 P s0 T L) (fun q => tz T0 q.2.1) := by
  unfold fJ_X6_fallPercent_J57
  refine Ep_any (fun r12 => ?_)
  exact Ep_some hT
set_option maxHeartbeats 1000000 in
set_option maxRecDepth 100000 in
theorem tz_X6_fallPercent {T0 : Tr} (T : Tr) (P : Tr) (L : Lo) (x1 : Int32) (hT : tz T0 T)   : Ep (f_X6_fallPercent T P L x1) (fun q => tz T0 q.2.1) := by
  unfold f_X6_fallPercent
  refine Ep_ck ?_
  refine Ep_ck ?_
  refine Ep_bd (tz_X6_worked T P L (1 : Int32) x1 (T 10 (P 14 x1.toNatClampNeg).toNatClampNeg) hT) (fun q hq => ?_)
  refine Ep_lt (fun r3 er3 => ?_)
  refine Ep_lt (fun T_4 eT_4 => ?_)
  have hT_4 : tz T0 T_4 := by rw [eT_4]; exact hq
  refine Ep_lt (fun L_5 eL_5 => ?_)
  refine Ep_ite (fun _ => ?_) (fun _ => ?_)
  · refine Ep_any (fun r9 => ?_)
    exact tzJ_X6_fallPercent_J57 P ((((T_4 0 4) + ((10 : Int32) * r9)) - (P 15 x1.toNatClampNeg)).toInt64) T_4 L_5 hT_4
  · exact tzJ_X6_fallPercent_J57 P r3 T_4 L_5 hT_4
set_option maxHeartbeats 1000000 in
set_option maxRecDepth 100000 in
theorem tz_X6_happens {T0 : Tr} (T : Tr) (x1 : Int32) (hT : tz T0 T)   : Ep (f_X6_happens T x1) (fun q => tz T0 q.2) := by
  unfold f_X6_happens
  refine Ep_ite (fun _ => ?_) (fun _ => ?_)
  · refine Ep_ite (fun _ => ?_) (fun _ => ?_)
    · exact Ep_some hT
    · exact Ep_some hT
  · refine Ep_lt (fun T_2 eT_2 => ?_)
    have hT_2 : tz T0 T_2 := by rw [eT_2]; exact tz_s hT (by omega)
    refine Ep_ite (fun _ => ?_) (fun _ => ?_)
    · exact Ep_some hT_2
    · exact Ep_some hT_2
set_option maxHeartbeats 1000000 in
set_option maxRecDepth 100000 in
theorem tzB_X6_fallOff_L4 {T0 : Tr} (P : Tr)    (N : Nat) : ∀ (x1 : Int32) (x2 : Int32) (T : Tr) (L : Lo), tz T0 T → Ep (lpF (fun _ _ _ _ => none) (fB_X6_fallOff_L4 P) N x1 x2 T L) (fun q => tz T0 q.2.1) := by
  induction N with
  | zero => intro x1 x2 T L _; exact Ep_none
  | succ N ih =>
    intro x1 x2 T L hT
    show Ep (fB_X6_fallOff_L4 P (lpF (fun _ _ _ _ => none) (fB_X6_fallOff_L4 P) N) x1 x2 T L) _
    have hk4 := ih
    clear ih
    generalize lpF (fun _ _ _ _ => none) (fB_X6_fallOff_L4 P) N = k4 at hk4 ⊢
    unfold fB_X6_fallOff_L4
    refine Ep_ite (fun _ => ?_) (fun _ => ?_)
    · exact Ep_some hT
    · refine Ep_ite (fun _ => ?_) (fun _ => ?_)
      · exact Ep_some hT
      · refine Ep_any (fun r3 => ?_)
        refine Ep_ite (fun _ => ?_) (fun _ => ?_)
        · refine Ep_lt (fun y7 ey7 => ?_)
          exact hk4 x1 y7 T L hT
        · refine Ep_any (fun r8 => ?_)
          refine Ep_ite (fun _ => ?_) (fun _ => ?_)
          · refine Ep_lt (fun y12 ey12 => ?_)
            exact hk4 x1 y12 T L hT
          · refine Ep_bd (tz_X6_fallPercent T P L r3 hT) (fun q hq => ?_)
            refine Ep_lt (fun r13 er13 => ?_)
            refine Ep_lt (fun T_14 eT_14 => ?_)
            have hT_14 : tz T0 T_14 := by rw [eT_14]; exact hq
            refine Ep_lt (fun L_15 eL_15 => ?_)
            refine Ep_bd (tz_X6_happens T_14 r13 hT_14) (fun q hq => ?_)
            refine Ep_lt (fun r18 er18 => ?_)
            refine Ep_lt (fun T_19 eT_19 => ?_)
            have hT_19 : tz T0 T_19 := by rw [eT_19]; exact hq
            refine Ep_ite (fun _ => ?_) (fun _ => ?_)
            · refine Ep_lt (fun y23 ey23 => ?_)
              exact hk4 x1 y23 T_19 L_15 hT_19
            · refine Ep_bd (tz_X6_takeAway T_19 P r3 (3 : Int32) hT_19) (fun T_24 hT_24 => ?_)
              refine Ep_lt (fun y27 ey27 => ?_)
              refine Ep_lt (fun y28 ey28 => ?_)
              exact hk4 y27 y28 T_24 L_15 hT_24
set_option maxHeartbeats 1000000 in
set_option maxRecDepth 100000 in
theorem tzL_X6_fallOff_L4 {T0 : Tr} (P : Tr)    (x1 : Int32) (x2 : Int32) (T : Tr) (L : Lo) (hT : tz T0 T) : Ep (fL_X6_fallOff_L4 P x1 x2 T L) (fun q => tz T0 q.2.1) := by
  unfold fL_X6_fallOff_L4
  exact tzB_X6_fallOff_L4 P 2000 x1 x2 T L hT
set_option maxHeartbeats 1000000 in
set_option maxRecDepth 100000 in
theorem tz_X6_fallOff {T0 : Tr} (T : Tr) (P : Tr) (L : Lo) (hT : tz T0 T)   : Ep (f_X6_fallOff T P L) (fun q => tz T0 q.2.1) := by
  unfold f_X6_fallOff
  exact tzL_X6_fallOff_L4 P 0 0 T L hT
set_option maxHeartbeats 1000000 in
set_option maxRecDepth 100000 in
theorem tz_X6_stealPercent {T0 : Tr} (T : Tr) (P : Tr) (L : Lo) (x1 : Int32) (hT : tz T0 T)   : Ep (f_X6_stealPercent T P L x1) (fun q => tz T0 q.2.1) := by
  unfold f_X6_stealPercent
  refine Ep_ck ?_
  refine Ep_ck ?_
  refine Ep_bd (tz_X6_worked T P L (2 : Int32) x1 (T 10 (P 14 x1.toNatClampNeg).toNatClampNeg) hT) (fun q hq => ?_)
  refine Ep_lt (fun r3 er3 => ?_)
  refine Ep_lt (fun T_4 eT_4 => ?_)
  have hT_4 : tz T0 T_4 := by rw [eT_4]; exact hq
  refine Ep_lt (fun L_5 eL_5 => ?_)
  refine Ep_ite (fun _ => ?_) (fun _ => ?_)
  · exact Ep_some hT_4
  · refine Ep_any (fun r9 => ?_)
    exact Ep_some hT_4
set_option maxHeartbeats 1000000 in
set_option maxRecDepth 100000 in
theorem tzB_X6_stealAway_L2 {T0 : Tr} (P : Tr)    (N : Nat) : ∀ (x1 : Int32) (T : Tr) (L : Lo), tz T0 T → Ep (lpF (fun _ _ _ => none) (fB_X6_stealAway_L2 P) N x1 T L) (fun q => tz T0 q.1) := by
  induction N with
  | zero => intro x1 T L _; exact Ep_none
  | succ N ih =>
    intro x1 T L hT
    show Ep (fB_X6_stealAway_L2 P (lpF (fun _ _ _ => none) (fB_X6_stealAway_L2 P) N) x1 T L) _
    have hk2 := ih
    clear ih
    generalize lpF (fun _ _ _ => none) (fB_X6_stealAway_L2 P) N = k2 at hk2 ⊢
    unfold fB_X6_stealAway_L2
    refine Ep_ite (fun _ => ?_) (fun _ => ?_)
    · exact Ep_some hT
    · refine Ep_ite (fun _ => ?_) (fun _ => ?_)
      · exact Ep_some hT
      · refine Ep_ck ?_
        refine Ep_lt (fun y4 ey4 => ?_)
        refine Ep_ite (fun _ => ?_) (fun _ => ?_)
        · refine Ep_lt (fun y6 ey6 => ?_)
          exact hk2 y6 T L hT
        · refine Ep_ck ?_
          refine Ep_ite (fun _ => ?_) (fun _ => ?_)
          · refine Ep_bd (tz_X6_stealPercent T P L x1 hT) (fun q hq => ?_)
            refine Ep_lt (fun r10 er10 => ?_)
            refine Ep_lt (fun T_11 eT_11 => ?_)
            have hT_11 : tz T0 T_11 := by rw [eT_11]; exact hq
            refine Ep_lt (fun L_12 eL_12 => ?_)
            refine Ep_bd (tz_X6_happens T_11 r10 hT_11) (fun q hq => ?_)
            refine Ep_lt (fun r15 er15 => ?_)
            refine Ep_lt (fun T_16 eT_16 => ?_)
            have hT_16 : tz T0 T_16 := by rw [eT_16]; exact hq
            refine Ep_ite (fun _ => ?_) (fun _ => ?_)
            · refine Ep_lt (fun y20 ey20 => ?_)
              exact hk2 y20 T_16 L_12 hT_16
            · refine Ep_bd (tz_X6_takeAway T_16 P x1 (4 : Int32) hT_16) (fun T_21 hT_21 => ?_)
              refine Ep_lt (fun y24 ey24 => ?_)
              exact hk2 y24 T_21 L_12 hT_21
          · refine Ep_lt (fun y9 ey9 => ?_)
            exact hk2 y9 T L hT
set_option maxHeartbeats 1000000 in
set_option maxRecDepth 100000 in
theorem tzL_X6_stealAway_L2 {T0 : Tr} (P : Tr)    (x1 : Int32) (T : Tr) (L : Lo) (hT : tz T0 T) : Ep (fL_X6_stealAway_L2 P x1 T L) (fun q => tz T0 q.1) := by
  unfold fL_X6_stealAway_L2
  exact tzB_X6_stealAway_L2 P 2000 x1 T L hT
set_option maxHeartbeats 1000000 in
set_option maxRecDepth 100000 in
theorem tz_X6_stealAway {T0 : Tr} (T : Tr) (P : Tr) (L : Lo) (hT : tz T0 T)   : Ep (f_X6_stealAway T P L) (fun q => tz T0 q.1) := by
  unfold f_X6_stealAway
  exact tzL_X6_stealAway_L2 P 0 T L hT
set_option maxHeartbeats 1000000 in
set_option maxRecDepth 100000 in
theorem tzB_X6_begin_L133 {T0 : Tr} (pa : Nat → Nat) (P : Tr) (q : Nat)    (N : Nat) : ∀ (x2 : Int32) (T : Tr), tz T0 T → Ep (lpF (fun _ _ => none) (fB_X6_begin_L133 pa P q) N x2 T) (fun q => tz T0 q.1) := by
  induction N with
  | zero => intro x2 T _; exact Ep_none
  | succ N ih =>
    intro x2 T hT
    show Ep (fB_X6_begin_L133 pa P q (lpF (fun _ _ => none) (fB_X6_begin_L133 pa P q) N) x2 T) _
    have hk133 := ih
    clear ih
    generalize lpF (fun _ _ => none) (fB_X6_begin_L133 pa P q) N = k133 at hk133 ⊢
    unfold fB_X6_begin_L133
    refine Ep_ite (fun _ => ?_) (fun _ => ?_)
    · exact Ep_some hT
    · refine Ep_ck ?_
      refine Ep_lt (fun T_10 eT_10 => ?_)
      have hT_10 : tz T0 T_10 := by rw [eT_10]; exact tz_s hT (by omega)
      refine Ep_lt (fun T_11 eT_11 => ?_)
      have hT_11 : tz T0 T_11 := by rw [eT_11]; exact tz_s hT_10 (by omega)
      refine Ep_lt (fun y12 ey12 => ?_)
      exact hk133 y12 T_11 hT_11
set_option maxHeartbeats 1000000 in
set_option maxRecDepth 100000 in
theorem tzL_X6_begin_L133 {T0 : Tr} (pa : Nat → Nat) (P : Tr) (q : Nat)    (x2 : Int32) (T : Tr) (hT : tz T0 T) : Ep (fL_X6_begin_L133 pa P q x2 T) (fun q => tz T0 q.1) := by
  unfold fL_X6_begin_L133
  exact tzB_X6_begin_L133 pa P q 2000 x2 T hT
set_option maxHeartbeats 1000000 in
set_option maxRecDepth 100000 in
theorem tzB_X6_begin_L93 {T0 : Tr} (pa : Nat → Nat) (P : Tr) (q : Nat)    (N : Nat) : ∀ (x2 : Int32) (T : Tr), tz T0 T → Ep (lpF (fun _ _ => none) (fB_X6_begin_L93 pa P q) N x2 T) (fun q => tz T0 q.1) := by
  induction N with
  | zero => intro x2 T _; exact Ep_none
  | succ N ih =>
    intro x2 T hT
    show Ep (fB_X6_begin_L93 pa P q (lpF (fun _ _ => none) (fB_X6_begin_L93 pa P q) N) x2 T) _
    have hk93 := ih
    clear ih
    generalize lpF (fun _ _ => none) (fB_X6_begin_L93 pa P q) N = k93 at hk93 ⊢
    unfold fB_X6_begin_L93
    refine Ep_ite (fun _ => ?_) (fun _ => ?_)
    · exact tzL_X6_begin_L133 pa P q 0 T hT
    · refine Ep_ck ?_
      refine Ep_lt (fun T_14 eT_14 => ?_)
      have hT_14 : tz T0 T_14 := by rw [eT_14]; exact tz_s hT (by omega)
      refine Ep_lt (fun T_15 eT_15 => ?_)
      have hT_15 : tz T0 T_15 := by rw [eT_15]; exact tz_s hT_14 (by omega)
      refine Ep_lt (fun T_16 eT_16 => ?_)
      have hT_16 : tz T0 T_16 := by rw [eT_16]; exact tz_s hT_15 (by omega)
      refine Ep_lt (fun y17 ey17 => ?_)
      exact hk93 y17 T_16 hT_16
set_option maxHeartbeats 1000000 in
set_option maxRecDepth 100000 in
theorem tzL_X6_begin_L93 {T0 : Tr} (pa : Nat → Nat) (P : Tr) (q : Nat)    (x2 : Int32) (T : Tr) (hT : tz T0 T) : Ep (fL_X6_begin_L93 pa P q x2 T) (fun q => tz T0 q.1) := by
  unfold fL_X6_begin_L93
  exact tzB_X6_begin_L93 pa P q 2000 x2 T hT
set_option maxHeartbeats 1000000 in
set_option maxRecDepth 100000 in
theorem tzB_X6_begin_L41 {T0 : Tr} (pa : Nat → Nat) (P : Tr) (q : Nat)    (N : Nat) : ∀ (x2 : Int32) (T : Tr), tz T0 T → Ep (lpF (fun _ _ => none) (fB_X6_begin_L41 pa P q) N x2 T) (fun q => tz T0 q.1) := by
  induction N with
  | zero => intro x2 T _; exact Ep_none
  | succ N ih =>
    intro x2 T hT
    show Ep (fB_X6_begin_L41 pa P q (lpF (fun _ _ => none) (fB_X6_begin_L41 pa P q) N) x2 T) _
    have hk41 := ih
    clear ih
    generalize lpF (fun _ _ => none) (fB_X6_begin_L41 pa P q) N = k41 at hk41 ⊢
    unfold fB_X6_begin_L41
    refine Ep_ite (fun _ => ?_) (fun _ => ?_)
    · exact tzL_X6_begin_L93 pa P q 0 T hT
    · refine Ep_ck ?_
      refine Ep_lt (fun T_19 eT_19 => ?_)
      have hT_19 : tz T0 T_19 := by rw [eT_19]; exact tz_s hT (by omega)
      refine Ep_lt (fun T_20 eT_20 => ?_)
      have hT_20 : tz T0 T_20 := by rw [eT_20]; exact tz_s hT_19 (by omega)
      refine Ep_lt (fun T_21 eT_21 => ?_)
      have hT_21 : tz T0 T_21 := by rw [eT_21]; exact tz_s hT_20 (by omega)
      refine Ep_lt (fun T_22 eT_22 => ?_)
      have hT_22 : tz T0 T_22 := by rw [eT_22]; exact tz_s hT_21 (by omega)
      refine Ep_lt (fun y23 ey23 => ?_)
      exact hk41 y23 T_22 hT_22
set_option maxHeartbeats 1000000 in
set_option maxRecDepth 100000 in
theorem tzL_X6_begin_L41 {T0 : Tr} (pa : Nat → Nat) (P : Tr) (q : Nat)    (x2 : Int32) (T : Tr) (hT : tz T0 T) : Ep (fL_X6_begin_L41 pa P q x2 T) (fun q => tz T0 q.1) := by
  unfold fL_X6_begin_L41
  exact tzB_X6_begin_L41 pa P q 2000 x2 T hT
set_option maxHeartbeats 1000000 in
set_option maxRecDepth 100000 in
theorem ty_X0_bringRow_x_na16 {T0 : Tr} (pa : Nat → Nat) (qa : Nat → Nat) (Tn : Tr) (C : Tr) (x2 : Int32) (hTn : tz T0 Tn)   : Ep (f_X0_bringRow_x_na16 pa qa Tn C x2) (fun q => tz T0 q.2) := by
  unfold f_X0_bringRow_x_na16
  refine Ep_ck ?_
  refine Ep_lt (fun Tn_2 eTn_2 => ?_)
  have hTn_2 : tz T0 Tn_2 := by rw [eTn_2]; exact tz_c hTn (by decide)
  exact Ep_some hTn_2
set_option maxHeartbeats 1000000 in
set_option maxRecDepth 100000 in
theorem ty_X0_bringRow_x_na17 {T0 : Tr} (pa : Nat → Nat) (qa : Nat → Nat) (Tn : Tr) (C : Tr) (x2 : Int32) (hTn : tz T0 Tn)   : Ep (f_X0_bringRow_x_na17 pa qa Tn C x2) (fun q => tz T0 q.2) := by
  unfold f_X0_bringRow_x_na17
  refine Ep_ck ?_
  refine Ep_lt (fun Tn_2 eTn_2 => ?_)
  have hTn_2 : tz T0 Tn_2 := by rw [eTn_2]; exact tz_c hTn (by decide)
  exact Ep_some hTn_2
set_option maxHeartbeats 1000000 in
set_option maxRecDepth 100000 in
theorem ty_X0_bringRow_x_na18 {T0 : Tr} (pa : Nat → Nat) (qa : Nat → Nat) (Tn : Tr) (C : Tr) (x2 : Int32) (hTn : tz T0 Tn)   : Ep (f_X0_bringRow_x_na18 pa qa Tn C x2) (fun q => tz T0 q.2) := by
  unfold f_X0_bringRow_x_na18
  refine Ep_ck ?_
  refine Ep_lt (fun Tn_2 eTn_2 => ?_)
  have hTn_2 : tz T0 Tn_2 := by rw [eTn_2]; exact tz_c hTn (by decide)
  exact Ep_some hTn_2
set_option maxHeartbeats 1000000 in
set_option maxRecDepth 100000 in
theorem ty_X0_bringRow_x_na15 {T0 : Tr} (pa : Nat → Nat) (qa : Nat → Nat) (Tn : Tr) (C : Tr) (x2 : Int32) (hTn : tz T0 Tn)   : Ep (f_X0_bringRow_x_na15 pa qa Tn C x2) (fun q => tz T0 q.2) := by
  unfold f_X0_bringRow_x_na15
  refine Ep_ck ?_
  refine Ep_lt (fun Tn_2 eTn_2 => ?_)
  have hTn_2 : tz T0 Tn_2 := by rw [eTn_2]; exact tz_c hTn (by decide)
  exact Ep_some hTn_2
set_option maxHeartbeats 1000000 in
set_option maxRecDepth 100000 in
theorem ty_X0_bringRow_x_na10 {T0 : Tr} (pa : Nat → Nat) (qa : Nat → Nat) (Tn : Tr) (C : Tr) (x2 : Int32) (hTn : tz T0 Tn)   : Ep (f_X0_bringRow_x_na10 pa qa Tn C x2) (fun q => tz T0 q.2) := by
  unfold f_X0_bringRow_x_na10
  refine Ep_ck ?_
  refine Ep_lt (fun Tn_2 eTn_2 => ?_)
  have hTn_2 : tz T0 Tn_2 := by rw [eTn_2]; exact tz_c hTn (by decide)
  exact Ep_some hTn_2
set_option maxHeartbeats 1000000 in
set_option maxRecDepth 100000 in
theorem ty_X0_bringBack_x_na0 {T0 : Tr} (pa : Nat → Nat) (qa : Nat → Nat) (Tn : Tr) (C : Tr) (hTn : tz T0 Tn)   : Ep (f_X0_bringBack_x_na0 pa qa Tn C) (fun q => tz T0 q.1) := by
  unfold f_X0_bringBack_x_na0
  refine Ep_ite (fun _ => ?_) (fun _ => ?_)
  · exact Ep_some hTn
  · refine Ep_lt (fun C_2 eC_2 => ?_)
    refine Ep_lt (fun C_3 eC_3 => ?_)
    refine Ep_lt (fun y4 ey4 => ?_)
    refine Ep_bd (ty_X0_bringRow_x_na16 pa qa Tn C_3 y4 hTn) (fun q hq => ?_)
    refine Ep_lt (fun r5 er5 => ?_)
    refine Ep_lt (fun Tn_6 eTn_6 => ?_)
    have hTn_6 : tz T0 Tn_6 := by rw [eTn_6]; exact hq
    refine Ep_bd (ty_X0_bringRow_x_na17 pa qa Tn_6 C_3 r5 hTn_6) (fun q hq => ?_)
    refine Ep_lt (fun r9 er9 => ?_)
    refine Ep_lt (fun Tn_10 eTn_10 => ?_)
    have hTn_10 : tz T0 Tn_10 := by rw [eTn_10]; exact hq
    refine Ep_bd (ty_X0_bringRow_x_na18 pa qa Tn_10 C_3 r9 hTn_10) (fun q hq => ?_)
    refine Ep_lt (fun r13 er13 => ?_)
    refine Ep_lt (fun Tn_14 eTn_14 => ?_)
    have hTn_14 : tz T0 Tn_14 := by rw [eTn_14]; exact hq
    refine Ep_bd (ty_X0_bringRow_x_na15 pa qa Tn_14 C_3 r13 hTn_14) (fun q hq => ?_)
    refine Ep_lt (fun r17 er17 => ?_)
    refine Ep_lt (fun Tn_18 eTn_18 => ?_)
    have hTn_18 : tz T0 Tn_18 := by rw [eTn_18]; exact hq
    refine Ep_bd (ty_X0_bringRow_x_na10 pa qa Tn_18 C_3 r17 hTn_18) (fun q hq => ?_)
    refine Ep_lt (fun r21 er21 => ?_)
    refine Ep_lt (fun Tn_22 eTn_22 => ?_)
    have hTn_22 : tz T0 Tn_22 := by rw [eTn_22]; exact hq
    exact Ep_some hTn_22
set_option maxHeartbeats 1000000 in
set_option maxRecDepth 100000 in
theorem xzB_X7_listComing_L4 {X0 : Tr} (pa : Nat → Nat) (qa : Nat → Nat) (P : Tr) (Tn : Tr) (q4 : Nat)    (N : Nat) : ∀ (x1 : Int32) (x2 : Int32) (X : Tr), xz X0 X → Ep (lpF (fun _ _ _ => none) (fB_X7_listComing_L4 pa qa P Tn q4) N x1 x2 X) (fun q => xz X0 q.2) := by
  induction N with
  | zero => intro x1 x2 X _; exact Ep_none
  | succ N ih =>
    intro x1 x2 X hX
    show Ep (fB_X7_listComing_L4 pa qa P Tn q4 (lpF (fun _ _ _ => none) (fB_X7_listComing_L4 pa qa P Tn q4) N) x1 x2 X) _
    have hk4 := ih
    clear ih
    generalize lpF (fun _ _ _ => none) (fB_X7_listComing_L4 pa qa P Tn q4) N = k4 at hk4 ⊢
    unfold fB_X7_listComing_L4
    refine Ep_ck ?_
    refine Ep_ite (fun _ => ?_) (fun _ => ?_)
    · exact Ep_some hX
    · refine Ep_any (fun r3 => ?_)
      refine Ep_ite (fun _ => ?_) (fun _ => ?_)
      · refine Ep_lt (fun y7 ey7 => ?_)
        exact hk4 x1 y7 X hX
      · refine Ep_ck ?_
        refine Ep_lt (fun X_9 eX_9 => ?_)
        have hX_9 : xz X0 X_9 := by rw [eX_9]; exact xz_s hX (by omega)
        refine Ep_lt (fun y10 ey10 => ?_)
        refine Ep_lt (fun y11 ey11 => ?_)
        exact hk4 y10 y11 X_9 hX_9
set_option maxHeartbeats 1000000 in
set_option maxRecDepth 100000 in
theorem xzL_X7_listComing_L4 {X0 : Tr} (pa : Nat → Nat) (qa : Nat → Nat) (P : Tr) (Tn : Tr) (q4 : Nat)    (x1 : Int32) (x2 : Int32) (X : Tr) (hX : xz X0 X) : Ep (fL_X7_listComing_L4 pa qa P Tn q4 x1 x2 X) (fun q => xz X0 q.2) := by
  unfold fL_X7_listComing_L4
  exact xzB_X7_listComing_L4 pa qa P Tn q4 2000 x1 x2 X hX
set_option maxHeartbeats 1000000 in
set_option maxRecDepth 100000 in
theorem xz_X7_listComing {X0 : Tr} (pa : Nat → Nat) (qa : Nat → Nat) (X : Tr) (P : Tr) (Tn : Tr) (q4 : Nat) (hX : xz X0 X)   : Ep (f_X7_listComing pa qa X P Tn q4) (fun q => xz X0 q.2) := by
  unfold f_X7_listComing
  exact xzL_X7_listComing_L4 pa qa P Tn q4 0 0 X hX
set_option maxHeartbeats 1000000 in
set_option maxRecDepth 100000 in
theorem xz_X7_least {X0 : Tr} (pa : Nat → Nat) (qa : Nat → Nat) (X : Tr) (P : Tr) (L : Lo) (Tn : Tr) (Tu : Tr) (Tv : Tr) (q0 : Nat) (q2 : Nat) (q3 : Nat) (q4 : Nat) (x1 : Int32) (hX : xz X0 X)   : Ep (f_X7_least pa qa X P L Tn Tu Tv q0 q2 q3 q4 x1) (fun q => xz X0 q.2.1) := by
  unfold f_X7_least
  refine Ep_ite (fun _ => ?_) (fun _ => ?_)
  · exact Ep_some hX
  · refine Ep_ite (fun _ => ?_) (fun _ => ?_)
    · exact Ep_some hX
    · refine Ep_ite (fun _ => ?_) (fun _ => ?_)
      · refine Ep_bd (xz_X7_listComing pa qa X P Tn q4 hX) (fun q hq => ?_)
        refine Ep_lt (fun r4 er4 => ?_)
        refine Ep_lt (fun X_5 eX_5 => ?_)
        have hX_5 : xz X0 X_5 := by rw [eX_5]; exact hq
        refine Ep_ite (fun _ => ?_) (fun _ => ?_)
        · refine Ep_any (fun q => ?_)
          refine Ep_lt (fun r9 er9 => ?_)
          refine Ep_lt (fun L_10 eL_10 => ?_)
          refine Ep_lt (fun Tu_11 eTu_11 => ?_)
          refine Ep_lt (fun Tv_12 eTv_12 => ?_)
          refine Ep_lt (fun q2_13 eq2_13 => ?_)
          refine Ep_lt (fun q3_14 eq3_14 => ?_)
          refine Ep_ite (fun _ => ?_) (fun _ => ?_)
          · refine Ep_ite (fun _ => ?_) (fun _ => ?_)
            · exact Ep_some hX_5
            · refine Ep_ite (fun _ => ?_) (fun _ => ?_)
              · refine Ep_any (fun r20 => ?_)
                exact Ep_some hX_5
              · exact Ep_some hX_5
          · exact Ep_some hX_5
        · exact Ep_some hX_5
      · exact Ep_some hX
set_option maxHeartbeats 1000000 in
set_option maxRecDepth 100000 in
theorem xzB_X7_workOutCosts_L16 {X0 : Tr} (k2 : Int32 → Tr → Lo → Tr → Nat → Option (Tr × Lo × Tr × Nat)) (pa : Nat → Nat) (qa : Nat → Nat) (P : Tr) (Tn : Tr) (q0 : Nat) (q4 : Nat) (x1 : Int32) (x2 : Int32) (x3 : Int32)  (hk2 : ∀ (x3 : Int32) (X : Tr) (L : Lo) (Tu : Tr) (q2 : Nat), xz X0 X → Ep (k2 x3 X L Tu q2) (fun q => xz X0 q.1))  (N : Nat) : ∀ (x4 : Int32) (X : Tr) (L : Lo) (Tu : Tr) (q2 : Nat), xz X0 X → Ep (lpF (fun _ _ _ _ _ => none) (fB_X7_workOutCosts_L16 k2 pa qa P Tn q0 q4 x1 x2 x3) N x4 X L Tu q2) (fun q => xz X0 q.1) := by
  induction N with
  | zero => intro x4 X L Tu q2 _; exact Ep_none
  | succ N ih =>
    intro x4 X L Tu q2 hX
    show Ep (fB_X7_workOutCosts_L16 k2 pa qa P Tn q0 q4 x1 x2 x3 (lpF (fun _ _ _ _ _ => none) (fB_X7_workOutCosts_L16 k2 pa qa P Tn q0 q4 x1 x2 x3) N) x4 X L Tu q2) _
    have hk16 := ih
    clear ih
    generalize lpF (fun _ _ _ _ _ => none) (fB_X7_workOutCosts_L16 k2 pa qa P Tn q0 q4 x1 x2 x3) N = k16 at hk16 ⊢
    unfold fB_X7_workOutCosts_L16
    refine Ep_ck ?_
    refine Ep_ite (fun _ => ?_) (fun _ => ?_)
    · refine Ep_lt (fun y5 ey5 => ?_)
      exact hk2 y5 X L Tu q2 hX
    · refine Ep_any (fun q => ?_)
      refine Ep_lt (fun Tu_6 eTu_6 => ?_)
      refine Ep_lt (fun q2_7 eq2_7 => ?_)
      refine Ep_ck ?_
      refine Ep_lt (fun Tu_11 eTu_11 => ?_)
      refine Ep_ck ?_
      refine Ep_lt (fun Tu_13 eTu_13 => ?_)
      refine Ep_ck ?_
      refine Ep_any (fun q => ?_)
      refine Ep_lt (fun Tu_15 eTu_15 => ?_)
      refine Ep_lt (fun L_16 eL_16 => ?_)
      refine Ep_any (fun r19 => ?_)
      refine Ep_ck ?_
      refine Ep_lt (fun X_23 eX_23 => ?_)
      have hX_23 : xz X0 X_23 := by rw [eX_23]; exact xz_s hX (by omega)
      refine Ep_any (fun r24 => ?_)
      refine Ep_lt (fun X_27 eX_27 => ?_)
      have hX_27 : xz X0 X_27 := by rw [eX_27]; exact xz_s hX_23 (by omega)
      refine Ep_lt (fun y28 ey28 => ?_)
      exact hk16 y28 X_27 L_16 Tu_15 (pa 0) hX_27
set_option maxHeartbeats 1000000 in
set_option maxRecDepth 100000 in
theorem xzL_X7_workOutCosts_L16 {X0 : Tr} (k2 : Int32 → Tr → Lo → Tr → Nat → Option (Tr × Lo × Tr × Nat)) (pa : Nat → Nat) (qa : Nat → Nat) (P : Tr) (Tn : Tr) (q0 : Nat) (q4 : Nat) (x1 : Int32) (x2 : Int32) (x3 : Int32)  (hk2 : ∀ (x3 : Int32) (X : Tr) (L : Lo) (Tu : Tr) (q2 : Nat), xz X0 X → Ep (k2 x3 X L Tu q2) (fun q => xz X0 q.1))  (x4 : Int32) (X : Tr) (L : Lo) (Tu : Tr) (q2 : Nat) (hX : xz X0 X) : Ep (fL_X7_workOutCosts_L16 k2 pa qa P Tn q0 q4 x1 x2 x3 x4 X L Tu q2) (fun q => xz X0 q.1) := by
  unfold fL_X7_workOutCosts_L16
  exact xzB_X7_workOutCosts_L16 k2 pa qa P Tn q0 q4 x1 x2 x3 hk2 2000 x4 X L Tu q2 hX
set_option maxHeartbeats 1000000 in
set_option maxRecDepth 100000 in
theorem xzB_X7_workOutCosts_L2 {X0 : Tr} (pa : Nat → Nat) (qa : Nat → Nat) (P : Tr) (Tn : Tr) (q0 : Nat) (q4 : Nat) (x1 : Int32) (x2 : Int32)    (N : Nat) : ∀ (x3 : Int32) (X : Tr) (L : Lo) (Tu : Tr) (q2 : Nat), xz X0 X → Ep (lpF (fun _ _ _ _ _ => none) (fB_X7_workOutCosts_L2 pa qa P Tn q0 q4 x1 x2) N x3 X L Tu q2) (fun q => xz X0 q.1) := by
  induction N with
  | zero => intro x3 X L Tu q2 _; exact Ep_none
  | succ N ih =>
    intro x3 X L Tu q2 hX
    show Ep (fB_X7_workOutCosts_L2 pa qa P Tn q0 q4 x1 x2 (lpF (fun _ _ _ _ _ => none) (fB_X7_workOutCosts_L2 pa qa P Tn q0 q4 x1 x2) N) x3 X L Tu q2) _
    have hk2 := ih
    clear ih
    generalize lpF (fun _ _ _ _ _ => none) (fB_X7_workOutCosts_L2 pa qa P Tn q0 q4 x1 x2) N = k2 at hk2 ⊢
    unfold fB_X7_workOutCosts_L2
    refine Ep_ck ?_
    refine Ep_ite (fun _ => ?_) (fun _ => ?_)
    · exact Ep_some hX
    · exact xzL_X7_workOutCosts_L16 k2 pa qa P Tn q0 (pa 0) x1 x2 x3 hk2 0 X L Tu q2 hX
set_option maxHeartbeats 1000000 in
set_option maxRecDepth 100000 in
theorem xzL_X7_workOutCosts_L2 {X0 : Tr} (pa : Nat → Nat) (qa : Nat → Nat) (P : Tr) (Tn : Tr) (q0 : Nat) (q4 : Nat) (x1 : Int32) (x2 : Int32)    (x3 : Int32) (X : Tr) (L : Lo) (Tu : Tr) (q2 : Nat) (hX : xz X0 X) : Ep (fL_X7_workOutCosts_L2 pa qa P Tn q0 q4 x1 x2 x3 X L Tu q2) (fun q => xz X0 q.1) := by
  unfold fL_X7_workOutCosts_L2
  exact xzB_X7_workOutCosts_L2 pa qa P Tn q0 q4 x1 x2 2000 x3 X L Tu q2 hX
set_option maxHeartbeats 1000000 in
set_option maxRecDepth 100000 in
theorem xz_X7_workOutCosts {X0 : Tr} (pa : Nat → Nat) (qa : Nat → Nat) (X : Tr) (P : Tr) (L : Lo) (Tn : Tr) (Tu : Tr) (q0 : Nat) (q2 : Nat) (q4 : Nat) (x1 : Int32) (x2 : Int32) (hX : xz X0 X)   : Ep (f_X7_workOutCosts pa qa X P L Tn Tu q0 q2 q4 x1 x2) (fun q => xz X0 q.1) := by
  unfold f_X7_workOutCosts
  exact xzL_X7_workOutCosts_L2 pa qa P Tn q0 q4 x1 x2 0 X L Tu q2 hX
set_option maxHeartbeats 1000000 in
set_option maxRecDepth 100000 in
theorem xzB_X7_rests_L22 {X0 : Tr} (pa : Nat → Nat) (qa : Nat → Nat) (X : Tr) (P : Tr) (L : Lo) (Tn : Tr) (Tu : Tr) (q0 : Nat) (q2 : Nat) (q4 : Nat) (hX : xz X0 X)   (N : Nat) : ∀ (x3 : Int32) (x4 : Int32), Ep (lpF (fun _ _ => none) (fB_X7_rests_L22 pa qa X P L Tn Tu q0 q2 q4) N x3 x4) (fun q => xz X0 q.2.1) := by
  induction N with
  | zero => intro x3 x4; exact Ep_none
  | succ N ih =>
    intro x3 x4
    show Ep (fB_X7_rests_L22 pa qa X P L Tn Tu q0 q2 q4 (lpF (fun _ _ => none) (fB_X7_rests_L22 pa qa X P L Tn Tu q0 q2 q4) N) x3 x4) _
    have hk22 := ih
    clear ih
    generalize lpF (fun _ _ => none) (fB_X7_rests_L22 pa qa X P L Tn Tu q0 q2 q4) N = k22 at hk22 ⊢
    unfold fB_X7_rests_L22
    refine Ep_ite (fun _ => ?_) (fun _ => ?_)
    · exact Ep_some hX
    · refine Ep_any (fun r12 => ?_)
      refine Ep_ite (fun _ => ?_) (fun _ => ?_)
      · refine Ep_lt (fun y16 ey16 => ?_)
        exact hk22 x3 y16
      · refine Ep_lt (fun y17 ey17 => ?_)
        refine Ep_lt (fun y18 ey18 => ?_)
        exact hk22 y17 y18
set_option maxHeartbeats 1000000 in
set_option maxRecDepth 100000 in
theorem xzL_X7_rests_L22 {X0 : Tr} (pa : Nat → Nat) (qa : Nat → Nat) (X : Tr) (P : Tr) (L : Lo) (Tn : Tr) (Tu : Tr) (q0 : Nat) (q2 : Nat) (q4 : Nat) (hX : xz X0 X)   (x3 : Int32) (x4 : Int32)  : Ep (fL_X7_rests_L22 pa qa X P L Tn Tu q0 q2 q4 x3 x4) (fun q => xz X0 q.2.1) := by
  unfold fL_X7_rests_L22
  exact xzB_X7_rests_L22 pa qa X P L Tn Tu q0 q2 q4 hX 2000 x3 x4
set_option maxHeartbeats 1000000 in
set_option maxRecDepth 100000 in
theorem xz_X7_rests {X0 : Tr} (pa : Nat → Nat) (qa : Nat → Nat) (X : Tr) (P : Tr) (L : Lo) (Tn : Tr) (Tu : Tr) (q0 : Nat) (q2 : Nat) (q4 : Nat) (x1 : Int32) (x2 : Int32) (hX : xz X0 X)   : Ep (f_X7_rests pa qa X P L Tn Tu q0 q2 q4 x1 x2) (fun q => xz X0 q.2.1) := by
  unfold f_X7_rests
  refine Ep_any (fun r1 => ?_)
  refine Ep_ite (fun _ => ?_) (fun _ => ?_)
  · exact Ep_some hX
  · refine Ep_bd (xz_X7_workOutCosts pa qa X P L Tn Tu q0 q2 q4 x1 x2 hX) (fun q hq => ?_)
    refine Ep_lt (fun X_5 eX_5 => ?_)
    have hX_5 : xz X0 X_5 := by rw [eX_5]; exact hq
    refine Ep_lt (fun L_6 eL_6 => ?_)
    refine Ep_lt (fun Tu_7 eTu_7 => ?_)
    refine Ep_lt (fun q2_8 eq2_8 => ?_)
    exact xzL_X7_rests_L22 pa qa X_5 P L_6 Tn Tu_7 q0 q2_8 q4 hX_5 0 0
set_option maxHeartbeats 1000000 in
set_option maxRecDepth 100000 in
theorem xzJ_X7_rest_J49 {X0 : Tr} (pa : Nat → Nat) (qa : Nat → Nat) (P : Tr) (Tn : Tr) (q0 : Nat) (q4 : Nat) (x5 : Int32) (X : Tr) (L : Lo) (Tu : Tr) (q2 : Nat) (hX : xz X0 X)   : Ep (fJ_X7_rest_J49 pa qa P Tn q0 q4 x5 X L Tu q2) (fun q => xz X0 q.2.1) := by
  unfold fJ_X7_rest_J49
  exact Ep_some hX
set_option maxHeartbeats 1000000 in
set_option maxRecDepth 100000 in
theorem xzB_X7_rest_L27 {X0 : Tr} (pa : Nat → Nat) (qa : Nat → Nat) (X : Tr) (P : Tr) (L : Lo) (Tn : Tr) (Tu : Tr) (q0 : Nat) (q2 : Nat) (q4 : Nat) (x3 : Int32) (hX : xz X0 X)   (N : Nat) : ∀ (x4 : Int32) (x5 : Int32), Ep (lpF (fun _ _ => none) (fB_X7_rest_L27 pa qa X P L Tn Tu q0 q2 q4 x3) N x4 x5) (fun q => xz X0 q.2.1) := by
  induction N with
  | zero => intro x4 x5; exact Ep_none
  | succ N ih =>
    intro x4 x5
    show Ep (fB_X7_rest_L27 pa qa X P L Tn Tu q0 q2 q4 x3 (lpF (fun _ _ => none) (fB_X7_rest_L27 pa qa X P L Tn Tu q0 q2 q4 x3) N) x4 x5) _
    have hk27 := ih
    clear ih
    generalize lpF (fun _ _ => none) (fB_X7_rest_L27 pa qa X P L Tn Tu q0 q2 q4 x3) N = k27 at hk27 ⊢
    unfold fB_X7_rest_L27
    refine Ep_ite (fun _ => ?_) (fun _ => ?_)
    · exact Ep_some hX
    · refine Ep_any (fun r13 => ?_)
      refine Ep_ite (fun _ => ?_) (fun _ => ?_)
      · refine Ep_lt (fun y17 ey17 => ?_)
        exact hk27 x4 y17
      · refine Ep_ite (fun _ => ?_) (fun _ => ?_)
        · exact xzJ_X7_rest_J49 pa qa P Tn q0 q4 x5 X L Tu q2 hX
        · refine Ep_lt (fun y19 ey19 => ?_)
          refine Ep_lt (fun y20 ey20 => ?_)
          exact hk27 y19 y20
set_option maxHeartbeats 1000000 in
set_option maxRecDepth 100000 in
theorem xzL_X7_rest_L27 {X0 : Tr} (pa : Nat → Nat) (qa : Nat → Nat) (X : Tr) (P : Tr) (L : Lo) (Tn : Tr) (Tu : Tr) (q0 : Nat) (q2 : Nat) (q4 : Nat) (x3 : Int32) (hX : xz X0 X)   (x4 : Int32) (x5 : Int32)  : Ep (fL_X7_rest_L27 pa qa X P L Tn Tu q0 q2 q4 x3 x4 x5) (fun q => xz X0 q.2.1) := by
  unfold fL_X7_rest_L27
  exact xzB_X7_rest_L27 pa qa X P L Tn Tu q0 q2 q4 x3 hX 2000 x4 x5
set_option maxHeartbeats 1000000 in
set_option maxRecDepth 100000 in
theorem xz_X7_rest {X0 : Tr} (pa : Nat → Nat) (qa : Nat → Nat) (X : Tr) (P : Tr) (L : Lo) (Tn : Tr) (Tu : Tr) (q0 : Nat) (q2 : Nat) (q4 : Nat) (x1 : Int32) (x2 : Int32) (x3 : Int32) (hX : xz X0 X)   : Ep (f_X7_rest pa qa X P L Tn Tu q0 q2 q4 x1 x2 x3) (fun q => xz X0 q.2.1) := by
  unfold f_X7_rest
  refine Ep_ite (fun _ => ?_) (fun _ => ?_)
  · exact Ep_some hX
  · refine Ep_any (fun r2 => ?_)
    refine Ep_ite (fun _ => ?_) (fun _ => ?_)
    · exact Ep_some hX
    · refine Ep_bd (xz_X7_workOutCosts pa qa X P L Tn Tu q0 q2 q4 x1 x2 hX) (fun q hq => ?_)
      refine Ep_lt (fun X_6 eX_6 => ?_)
      have hX_6 : xz X0 X_6 := by rw [eX_6]; exact hq
      refine Ep_lt (fun L_7 eL_7 => ?_)
      refine Ep_lt (fun Tu_8 eTu_8 => ?_)
      refine Ep_lt (fun q2_9 eq2_9 => ?_)
      exact xzL_X7_rest_L27 pa qa X_6 P L_7 Tn Tu_8 q0 q2_9 q4 x3 hX_6 0 0
set_option maxHeartbeats 1000000 in
set_option maxRecDepth 100000 in
theorem twJ_X7_move_J69 {T0 : Tr} (pa : Nat → Nat) (qa : Nat → Nat) (P : Tr) (q0 : Nat) (q4 : Nat) (x1 : Int32) (x2 : Int32) (Tn : Tr) (C : Tr) (hTn : tz T0 Tn)   : Ep (fJ_X7_move_J69 pa qa P q0 q4 x1 x2 Tn C) (fun q => tz T0 q.2.1) := by
  unfold fJ_X7_move_J69
  refine Ep_any (fun C_17 => ?_)
  refine Ep_ck ?_
  refine Ep_bd (tz_X6_takeAway Tn P x1 (1 : Int32) hTn) (fun Tn_21 hTn_21 => ?_)
  refine Ep_bd (tz_X6_putOn Tn_21 P x2 x1 hTn_21) (fun Tn_24 hTn_24 => ?_)
  exact Ep_some hTn_24
set_option maxHeartbeats 1000000 in
set_option maxRecDepth 100000 in
theorem tw_X7_move {T0 : Tr} (pa : Nat → Nat) (qa : Nat → Nat) (P : Tr) (Tn : Tr) (C : Tr) (q0 : Nat) (q4 : Nat) (x1 : Int32) (x2 : Int32) (hTn : tz T0 Tn)   : Ep (f_X7_move pa qa P Tn C q0 q4 x1 x2) (fun q => tz T0 q.2.1) := by
  unfold f_X7_move
  refine Ep_any (fun r1 => ?_)
  refine Ep_ite (fun _ => ?_) (fun _ => ?_)
  · exact Ep_some hTn
  · refine Ep_any (fun r5 => ?_)
    refine Ep_ite (fun _ => ?_) (fun _ => ?_)
    · exact Ep_some hTn
    · refine Ep_ck ?_
      refine Ep_ite (fun _ => ?_) (fun _ => ?_)
      · exact Ep_some hTn
      · refine Ep_ck ?_
        refine Ep_any (fun r12 => ?_)
        refine Ep_ite (fun _ => ?_) (fun _ => ?_)
        · exact Ep_some hTn
        · refine Ep_ite (fun _ => ?_) (fun _ => ?_)
          · exact twJ_X7_move_J69 pa qa P (pa 0) q4 x1 x2 Tn C hTn
          · refine Ep_any (fun r27 => ?_)
            refine Ep_ite (fun _ => ?_) (fun _ => ?_)
            · exact Ep_some hTn
            · exact twJ_X7_move_J69 pa qa P (pa 0) q4 x1 x2 Tn C hTn
set_option maxHeartbeats 1000000 in
set_option maxRecDepth 100000 in
theorem tw_X7_turn {T0 : Tr} (pa : Nat → Nat) (qa : Nat → Nat) (P : Tr) (Tn : Tr) (Tv : Tr) (C : Tr) (q0 : Nat) (q3 : Nat) (q4 : Nat) (x1 : Int32) (hTn : tz T0 Tn)   : Ep (f_X7_turn pa qa P Tn Tv C q0 q3 q4 x1) (fun q => tz T0 q.2.1) := by
  unfold f_X7_turn
  refine Ep_any (fun r1 => ?_)
  refine Ep_ite (fun _ => ?_) (fun _ => ?_)
  · exact Ep_some hTn
  · refine Ep_any (fun q => ?_)
    refine Ep_lt (fun Tv_5 eTv_5 => ?_)
    refine Ep_lt (fun q3_6 eq3_6 => ?_)
    refine Ep_ck ?_
    refine Ep_bd (tz_X6_turnOver Tn P x1 hTn) (fun q hq => ?_)
    refine Ep_lt (fun r10 er10 => ?_)
    refine Ep_lt (fun Tn_11 eTn_11 => ?_)
    have hTn_11 : tz T0 Tn_11 := by rw [eTn_11]; exact hq
    refine Ep_ite (fun _ => ?_) (fun _ => ?_)
    · exact Ep_some hTn_11
    · refine Ep_any (fun C_15 => ?_)
      exact Ep_some hTn_11
set_option maxHeartbeats 1000000 in
set_option maxRecDepth 100000 in
theorem tw_X7_help {T0 : Tr} (pa : Nat → Nat) (qa : Nat → Nat) (P : Tr) (Tn : Tr) (C : Tr) (q4 : Nat) (x1 : Int32) (x2 : Int32) (hTn : tz T0 Tn)   : Ep (f_X7_help pa qa P Tn C q4 x1 x2) (fun q => tz T0 q.2.1) := by
  unfold f_X7_help
  refine Ep_any (fun r1 => ?_)
  refine Ep_ite (fun _ => ?_) (fun _ => ?_)
  · exact Ep_some hTn
  · refine Ep_ite (fun _ => ?_) (fun _ => ?_)
    · exact Ep_some hTn
    · refine Ep_ite (fun _ => ?_) (fun _ => ?_)
      · exact Ep_some hTn
      · refine Ep_ck ?_
        refine Ep_ite (fun _ => ?_) (fun _ => ?_)
        · exact Ep_some hTn
        · refine Ep_any (fun C_9 => ?_)
          refine Ep_lt (fun Tn_12 eTn_12 => ?_)
          have hTn_12 : tz T0 Tn_12 := by rw [eTn_12]; exact tz_s hTn (by omega)
          exact Ep_some hTn_12
set_option maxHeartbeats 1000000 in
set_option maxRecDepth 100000 in
theorem tw_X7_undo {T0 : Tr} (pa : Nat → Nat) (qa : Nat → Nat) (Tn : Tr) (C : Tr) (hTn : tz T0 Tn)   : Ep (f_X7_undo pa qa Tn C) (fun q => tz T0 q.2.1) := by
  unfold f_X7_undo
  refine Ep_ite (fun _ => ?_) (fun _ => ?_)
  · exact Ep_some hTn
  · refine Ep_bd (ty_X0_bringBack_x_na0 pa qa Tn C hTn) (fun q hq => ?_)
    refine Ep_lt (fun Tn_2 eTn_2 => ?_)
    have hTn_2 : tz T0 Tn_2 := by rw [eTn_2]; exact hq
    refine Ep_lt (fun C_3 eC_3 => ?_)
    exact Ep_some hTn_2
set_option maxHeartbeats 1000000 in
set_option maxRecDepth 100000 in
theorem tw_X7_law {T0 : Tr} (pa : Nat → Nat) (qa : Nat → Nat) (P : Tr) (L : Lo) (Tn : Tr) (q0 : Nat) (q4 : Nat) (x1 : Int32) (x2 : Int32) (hTn : tz T0 Tn)   : Ep (f_X7_law pa qa P L Tn q0 q4 x1 x2) (fun q => tz T0 q.2.2) := by
  unfold f_X7_law
  refine Ep_ite (fun _ => ?_) (fun _ => ?_)
  · exact Ep_some hTn
  · refine Ep_ite (fun _ => ?_) (fun _ => ?_)
    · exact Ep_some hTn
    · refine Ep_any (fun r3 => ?_)
      refine Ep_ite (fun _ => ?_) (fun _ => ?_)
      · exact Ep_some hTn
      · refine Ep_ck ?_
        refine Ep_ck ?_
        refine Ep_ck ?_
        refine Ep_ck ?_
        refine Ep_bd (tz_X6_worked Tn P L x1 x2 (Tn 10 (P 14 x2.toNatClampNeg).toNatClampNeg) hTn) (fun q hq => ?_)
        refine Ep_lt (fun r11 er11 => ?_)
        refine Ep_lt (fun Tn_12 eTn_12 => ?_)
        have hTn_12 : tz T0 Tn_12 := by rw [eTn_12]; exact hq
        refine Ep_lt (fun L_13 eL_13 => ?_)
        exact Ep_some hTn_12
set_option maxHeartbeats 1000000 in
set_option maxRecDepth 100000 in
theorem zyB_X4_judge_x_L39 {Z0 : Tr} (pa : Nat → Nat) (qa : Nat → Nat)    (N : Nat) : ∀ (x2 : Int32) (Z : Tr), zy Z0 Z → Ep (lpF (fun _ _ => none) (fB_X4_judge_x_L39 pa qa) N x2 Z) (fun q => zy Z0 q) := by
  induction N with
  | zero => intro x2 Z _; exact Ep_none
  | succ N ih =>
    intro x2 Z hZ
    show Ep (fB_X4_judge_x_L39 pa qa (lpF (fun _ _ => none) (fB_X4_judge_x_L39 pa qa) N) x2 Z) _
    have hk39 := ih
    clear ih
    generalize lpF (fun _ _ => none) (fB_X4_judge_x_L39 pa qa) N = k39 at hk39 ⊢
    unfold fB_X4_judge_x_L39
    refine Ep_ite (fun _ => ?_) (fun _ => ?_)
    · exact Ep_some hZ
    · refine Ep_ck ?_
      refine Ep_ite (fun _ => ?_) (fun _ => ?_)
      · refine Ep_lt (fun y9 ey9 => ?_)
        exact hk39 y9 Z hZ
      · refine Ep_ite (fun _ => ?_) (fun _ => ?_)
        · refine Ep_ck ?_
          refine Ep_lt (fun Z_13 eZ_13 => ?_)
          have hZ_13 : zy Z0 Z_13 := by rw [eZ_13]; exact zy_s hZ (by omega)
          refine Ep_lt (fun y14 ey14 => ?_)
          exact hk39 y14 Z_13 hZ_13
        · refine Ep_lt (fun y11 ey11 => ?_)
          exact hk39 y11 Z hZ
set_option maxHeartbeats 1000000 in
set_option maxRecDepth 100000 in
theorem zyL_X4_judge_x_L39 {Z0 : Tr} (pa : Nat → Nat) (qa : Nat → Nat)    (x2 : Int32) (Z : Tr) (hZ : zy Z0 Z) : Ep (fL_X4_judge_x_L39 pa qa x2 Z) (fun q => zy Z0 q) := by
  unfold fL_X4_judge_x_L39
  exact zyB_X4_judge_x_L39 pa qa 2000 x2 Z hZ
set_option maxHeartbeats 1000000 in
set_option maxRecDepth 100000 in
theorem zyJ_X4_judge_x_J28 {Z0 : Tr} (k7 : Int32 → Tr → Option (Tr)) (pa : Nat → Nat) (qa : Nat → Nat) (x1 : Int32) (x2 : Int32) (s0 : Int32) (s1 : Int32) (Z : Tr) (hZ : zy Z0 Z) (hk7 : ∀ (x2 : Int32) (Z : Tr), zy Z0 Z → Ep (k7 x2 Z) (fun q => zy Z0 q))  : Ep (fJ_X4_judge_x_J28 k7 pa qa x1 x2 s0 s1 Z) (fun q => zy Z0 q) := by
  unfold fJ_X4_judge_x_J28
  refine Ep_ck ?_
  refine Ep_lt (fun Z_17 eZ_17 => ?_)
  have hZ_17 : zy Z0 Z_17 := by rw [eZ_17]; exact zy_s hZ (by omega)
  refine Ep_lt (fun y18 ey18 => ?_)
  exact hk7 y18 Z_17 hZ_17
set_option maxHeartbeats 1000000 in
set_option maxRecDepth 100000 in
theorem zyB_X4_judge_x_L7 {Z0 : Tr} (pa : Nat → Nat) (qa : Nat → Nat) (x1 : Int32)    (N : Nat) : ∀ (x2 : Int32) (Z : Tr), zy Z0 Z → Ep (lpF (fun _ _ => none) (fB_X4_judge_x_L7 pa qa x1) N x2 Z) (fun q => zy Z0 q) := by
  induction N with
  | zero => intro x2 Z _; exact Ep_none
  | succ N ih =>
    intro x2 Z hZ
    show Ep (fB_X4_judge_x_L7 pa qa x1 (lpF (fun _ _ => none) (fB_X4_judge_x_L7 pa qa x1) N) x2 Z) _
    have hk7 := ih
    clear ih
    generalize lpF (fun _ _ => none) (fB_X4_judge_x_L7 pa qa x1) N = k7 at hk7 ⊢
    unfold fB_X4_judge_x_L7
    refine Ep_ite (fun _ => ?_) (fun _ => ?_)
    · refine Ep_lt (fun y5 ey5 => ?_)
      exact zyL_X4_judge_x_L39 pa qa y5 Z hZ
    · refine Ep_ite (fun _ => ?_) (fun _ => ?_)
      · exact zyJ_X4_judge_x_J28 k7 pa qa x1 x2 0 x2 Z hZ hk7
      · exact zyJ_X4_judge_x_J28 k7 pa qa x1 x2 1 x2 Z hZ hk7
set_option maxHeartbeats 1000000 in
set_option maxRecDepth 100000 in
theorem zyL_X4_judge_x_L7 {Z0 : Tr} (pa : Nat → Nat) (qa : Nat → Nat) (x1 : Int32)    (x2 : Int32) (Z : Tr) (hZ : zy Z0 Z) : Ep (fL_X4_judge_x_L7 pa qa x1 x2 Z) (fun q => zy Z0 q) := by
  unfold fL_X4_judge_x_L7
  exact zyB_X4_judge_x_L7 pa qa x1 2000 x2 Z hZ
set_option maxHeartbeats 1000000 in
set_option maxRecDepth 100000 in
theorem zy_X4_judge_x {Z0 : Tr} (pa : Nat → Nat) (qa : Nat → Nat) (Z : Tr) (hZ : zy Z0 Z)   : Ep (f_X4_judge_x pa qa Z) (fun q => zy Z0 q) := by
  unfold f_X4_judge_x
  refine Ep_any (fun r1 => ?_)
  exact zyL_X4_judge_x_L7 pa qa r1 0 Z hZ
set_option maxHeartbeats 1000000 in
set_option maxRecDepth 100000 in
theorem zyB_X7_got_L21 {Z0 : Tr} (pa : Nat → Nat) (qa : Nat → Nat) (P : Tr) (Z : Tr) (q4 : Nat) (x1 : Int32) (hZ : zy Z0 Z)   (N : Nat) : ∀ (x2 : Int32) (x3 : Int32) (L : Lo) (Tu : Tr) (q2 : Nat), Ep (lpF (fun _ _ _ _ _ => none) (fB_X7_got_L21 pa qa P Z q4 x1) N x2 x3 L Tu q2) (fun q => zy Z0 q.2.2.2.1) := by
  induction N with
  | zero => intro x2 x3 L Tu q2; exact Ep_none
  | succ N ih =>
    intro x2 x3 L Tu q2
    show Ep (fB_X7_got_L21 pa qa P Z q4 x1 (lpF (fun _ _ _ _ _ => none) (fB_X7_got_L21 pa qa P Z q4 x1) N) x2 x3 L Tu q2) _
    have hk21 := ih
    clear ih
    generalize lpF (fun _ _ _ _ _ => none) (fB_X7_got_L21 pa qa P Z q4 x1) N = k21 at hk21 ⊢
    unfold fB_X7_got_L21
    refine Ep_ck ?_
    refine Ep_ck ?_
    refine Ep_ite (fun _ => ?_) (fun _ => ?_)
    · exact Ep_some hZ
    · refine Ep_any (fun q => ?_)
      refine Ep_lt (fun r11 er11 => ?_)
      refine Ep_lt (fun L_12 eL_12 => ?_)
      refine Ep_lt (fun Tu_13 eTu_13 => ?_)
      refine Ep_lt (fun q2_14 eq2_14 => ?_)
      refine Ep_ite (fun _ => ?_) (fun _ => ?_)
      · refine Ep_lt (fun y18 ey18 => ?_)
        exact hk21 x2 y18 L_12 Tu_13 q2_14
      · refine Ep_lt (fun y19 ey19 => ?_)
        refine Ep_lt (fun y20 ey20 => ?_)
        exact hk21 y19 y20 L_12 Tu_13 q2_14
set_option maxHeartbeats 1000000 in
set_option maxRecDepth 100000 in
theorem zyL_X7_got_L21 {Z0 : Tr} (pa : Nat → Nat) (qa : Nat → Nat) (P : Tr) (Z : Tr) (q4 : Nat) (x1 : Int32) (hZ : zy Z0 Z)   (x2 : Int32) (x3 : Int32) (L : Lo) (Tu : Tr) (q2 : Nat)  : Ep (fL_X7_got_L21 pa qa P Z q4 x1 x2 x3 L Tu q2) (fun q => zy Z0 q.2.2.2.1) := by
  unfold fL_X7_got_L21
  exact zyB_X7_got_L21 pa qa P Z q4 x1 hZ 2000 x2 x3 L Tu q2
set_option maxHeartbeats 1000000 in
set_option maxRecDepth 100000 in
theorem zy_X7_got {Z0 : Tr} (pa : Nat → Nat) (qa : Nat → Nat) (P : Tr) (L : Lo) (Tu : Tr) (Z : Tr) (q2 : Nat) (q4 : Nat) (x1 : Int32) (hZ : zy Z0 Z)   : Ep (f_X7_got pa qa P L Tu Z q2 q4 x1) (fun q => zy Z0 q.2.2.2.1) := by
  unfold f_X7_got
  refine Ep_any (fun r1 => ?_)
  refine Ep_ite (fun _ => ?_) (fun _ => ?_)
  · exact Ep_some hZ
  · refine Ep_bd (zy_X4_judge_x pa qa Z hZ) (fun Z_5 hZ_5 => ?_)
    exact zyL_X7_got_L21 pa qa P Z_5 q4 x1 hZ_5 0 0 L Tu q2
-- 62.za.at2
/-! the stop of both -/
theorem tz_r {T : Tr} : tz T T := rfl
theorem e_cpy (T T2 : Tr) (q q2 : Nat) : Ep (f_X6_copy T T2 q q2) (fun r => r.1 0 0 = T2 0 0) := by
  unfold f_X6_copy
  refine Ep_lt (fun A1 e1 => Ep_lt (fun A2 e2 => Ep_lt (fun A3 e3 => Ep_lt (fun A4 e4 => Ep_lt (fun A5 e5 => Ep_lt (fun A6 e6 => Ep_lt (fun A7 e7 => Ep_lt (fun A8 e8 => Ep_lt (fun A9 e9 => Ep_lt (fun A10 e10 => Ep_lt (fun A11 e11 => Ep_lt (fun A12 e12 => Ep_lt (fun A13 e13 => Ep_lt (fun A14 e14 => Ep_lt (fun A15 e15 => Ep_some ?_)))))))))))))))
  show A15 0 0 = T2 0 0
  rw [e15, stC_oth (by decide), e14, stC_oth (by decide), e13, stC_oth (by decide), e12, stC_oth (by decide), e11, stC_oth (by decide), e10, stC_oth (by decide), e9, stC_oth (by decide), e8, stC_oth (by decide), e7, stC_oth (by decide), e6, stC_oth (by decide), e5, st_ne (by decide), e4, st_ne (by decide), e3, st_ne (by decide), e2, st_ne (by decide), e1, st_same]
theorem st_way (T P : Tr) (L : Lo) : Ep (f_X6_wayOn T P L) (fun q => q.1 0 0 = T 0 0 + 1) := by
  unfold f_X6_wayOn
  refine Ep_bd (tz_X6_fallOff T P L tz_r) (fun q hq => Ep_lt (fun r1 _ => Ep_lt (fun T2 e2 => Ep_lt (fun L3 _ => Ep_bd (tz_X6_stealAway T2 P L3 (T0 := T) (by rw [e2]; exact hq)) (fun u hu => Ep_lt (fun T6 e6 => Ep_lt (fun L7 _ => Ep_lt (fun T10 e10 => Ep_some ?_))))))))
  have h6 : T6 0 0 = T 0 0 := by rw [e6]; exact hu
  show T10 0 0 = _
  rw [e10, st_same, h6]
theorem st_pass (T P : Tr) (L : Lo) : Ep (f_X6_passStop T P L) (fun q => ¬ (20 : Int32) < T 0 0 → q.1 0 0 = T 0 0 + 1) := by
  unfold f_X6_passStop
  refine Ep_ite (fun c => Ep_some (fun n => absurd c n)) (fun _ => Ep_ck (Ep_bd (tz_X6_takeDown T P L _ tz_r) (fun q hq => Ep_lt (fun r3 _ => Ep_lt (fun T4 e4 => Ep_lt (fun L5 _ => Ep_bd (tz_X6_getIn T4 P (T0 := T) (by rw [e4]; exact hq)) (fun T8 h8 => Ep_bd (st_way T8 P L5) (fun u hu => Ep_lt (fun T11 e11 => Ep_lt (fun L12 _ => Ep_some (fun _ => ?_)))))))))))
  have h8 : T8 0 0 = T 0 0 := h8
  show T11 0 0 = _
  rw [e11, hu, h8]
/-- but for the stop -/
def zg (S S1 : Tr) : Prop := ∀ a j, zcl a j → ¬ a = 62 → S1 a j = S a j
theorem zg_f {S S1 : Tr} (h : zf S S1) : zg S S1 := fun a j q _ => h a j q
theorem zg_t {S S1 S2 : Tr} (h1 : zg S S1) (h2 : zg S1 S2) : zg S S2 := fun a j q n => (h2 a j q n).trans (h1 a j q n)
theorem z62 {S S1 : Tr} (h : zf S S1) : S1 62 0 = S 62 0 := h 62 0 (Or.inr (Or.inl ⟨rfl, rfl⟩))
theorem sg_on (S : Tr) (L : Lo) : Ep (f_X8_goOn S L (0 : Int32)) (fun q => q.1 62 0 = S 62 0 + 1 ∧ zg S q.1) := by
  have J : ∀ (A : Tr) (L : Lo), zf S A → Ep (fJ_X8_goOn_J26 (0 : Int32) A L) (fun q => q.1 62 0 = S 62 0 + 1 ∧ zg S q.1) := fun A L h => by
    unfold fJ_X8_goOn_J26
    refine Ep_ck (Ep_lt (fun S11 e11 => Ep_some ⟨?_, fun a j q n => ?_⟩))
    · show S11 62 0 = S 62 0 + 1
      have e11 : S11 = st A 62 0 (A 62 0 + 1) := e11
      rw [e11, st_same, z62 h]
    · show S11 a j = S a j
      rw [e11, st_oth n]; exact h a j q
  unfold f_X8_goOn
  exact Ep_bd (zf_X8_outs S L 0 zf_r) (fun q hq => Ep_lt (fun S1 e1 => Ep_lt (fun L2 _ => Ep_bd (zf_X8_ins (S0 := S) S1 0 (by rw [e1]; exact hq)) (fun S5 h5 => Ep_ck (Ep_ite (fun _ => J S5 L2 h5) (fun _ => Ep_bd (zf_X8_onTheWay (S0 := S) S5 L2 0 h5) (fun u hu => Ep_lt (fun S12 e12 => Ep_lt (fun L13 _ => J S12 L13 (by rw [e12]; exact hu))))))))))
def goQ (S : Tr) (q : Int32 × Lo × Tr × Tr) (q' : Int32 × Tr × Lo) : Prop := q.1 = q'.1 ∧ q.2.2.1 0 0 = q'.2.1 62 0 ∧ zg S q'.2.1
theorem e_goL (pa qa : Nat → Nat) {P C S0 : Tr} {q0 : Nat} {x1 : Int32} {s m : Nat} (hx1 : x1.toInt = m) (hs : s + m ≤ 21) (N : Nat) : ∀ (n : Nat) (x : Int32) (L LM : Lo) (T S : Tr), x.toInt = n → n ≤ m → T 0 0 = S 62 0 → (T 0 0).toInt = ((s + n : Nat) : Int) → zg S0 S → E2 (lpF (fun _ _ _ => none) (fB_X7_go_L36 pa qa P C q0 x1) N x L T) (lpF (fun _ _ _ => none) (fB_X8_go_L41 x1) N x S LM) (goQ S0) := by
  induction N with
  | zero => intro n x L LM T S _ _ _ _ _; exact E2_nl
  | succ N ih =>
    intro n x L LM T S hx hn h62 hs0 hz
    show E2 (fB_X7_go_L36 pa qa P C q0 x1 (lpF (fun _ _ _ => none) (fB_X7_go_L36 pa qa P C q0 x1) N) x L T) (fB_X8_go_L41 x1 (lpF (fun _ _ _ => none) (fB_X8_go_L41 x1) N) x S LM) _
    generalize lpF (fun _ _ _ => none) (fB_X7_go_L36 pa qa P C q0 x1) N = k at ih ⊢
    generalize lpF (fun _ _ _ => none) (fB_X8_go_L41 x1) N = k' at ih ⊢
    unfold fB_X7_go_L36 fB_X8_go_L41
    refine E2_it Iff.rfl (fun _ _ => ?_) (fun c _ => E2_ckl (fun _ => ?_))
    · have e : ∀ (A : Tr) (C1 : Tr) (L L1 : Lo), zg S0 A → A 62 0 = S 62 0 → ∀ v, E2 (some ((T 0 0), L, T, C1)) (fJ_X8_go_J75 v A L1) (goQ S0) := fun A C1 L L1 ha h6 v => by
        unfold fJ_X8_go_J75
        refine E2_ltr (fun S14 e14 => E2_some ⟨?_, ?_, fun a j q n => ?_⟩)
        · show T 0 0 = S14 62 0
          rw [e14, st_oth (by decide), h6, h62]
        · show T 0 0 = S14 62 0
          rw [e14, st_oth (by decide), h6, h62]
        · show S14 a j = S0 a j
          rw [e14, st_no (fun g => by rcases q with q | ⟨q, _⟩ | ⟨_, q | q | q | q⟩ <;> omega)]; exact ha a j q n
      unfold fJ_X7_go_J54 fJ_X8_go_J57
      refine E2_ltr (fun S12 e12 => ?_)
      have ha : zg S0 S12 := fun a j q n => by
        rw [e12, st_no (fun g => by rcases q with q | ⟨q, _⟩ | ⟨_, q | q | q | q⟩ <;> omega)]; exact hz a j q n
      have h6 : S12 62 0 = S 62 0 := by rw [e12, st_oth (by decide)]
      exact E2_it Iff.rfl (fun _ _ => e S12 C L LM ha h6 _) (fun _ _ => E2_ltl (fun C7 _ => e S12 C7 L LM ha h6 _))
    · have lt := tq_len hx1 hx c
      have n20 : ¬ (20 : Int32) < T 0 0 := fun g => by
        have := tq_lt (x := (20 : Int32)) (y := T 0 0) (a := 20) (by decide) hs0 g
        omega
      refine E2_bd (R := fun q q' => q.1 0 0 = T 0 0 + 1 ∧ q'.1 62 0 = S 62 0 + 1 ∧ zg S q'.1) (E2_ep (st_pass T P L) (sg_on S LM) (fun a b ha hb => ⟨ha n20, hb.1, hb.2⟩)) (fun q q' hq => ?_)
      obtain ⟨g1, g2, g3⟩ := hq
      refine E2_ltl (fun T9 e9 => E2_ltl (fun L10 _ => E2_ltl (fun y ey => E2_ltr (fun S15 e15 => E2_ltr (fun L16 _ => E2_ltr (fun y' ey' => ?_))))))
      subst ey ey'
      refine ih (n + 1) (x + 1) L10 L16 T9 S15 (by rw [i_addK hx (y := 1) (by decide) (by omega) (by omega)]; omega) (by omega) ?_ ?_ ?_
      · rw [e9, g1, e15, g2, h62]
      · rw [e9, g1, i_addK hs0 (y := 1) (by decide) (by omega) (by omega)]; omega
      · rw [e15]; exact zg_t hz g3
theorem e_go (pa qa : Nat → Nat) (P : Tr) (L : Lo) (Tn C : Tr) (q0 : Nat) (S : Tr) (LM : Lo) (x1 : Int32) (h : Tn 0 0 = S 62 0) (hS : iR BM S) : E2 (f_X7_go pa qa P L Tn C q0 x1) (f_X8_go S LM x1) (goQ S) := by
  unfold f_X7_go f_X8_go f_X8_isIn
  refine E2_ltr (fun S1 e1 => ?_)
  have z1 : zf S S1 := by rw [e1]; exact zf_s zf_r (by omega)
  have no : ∀ v : Int32, E2 (some (v, L, Tn, C)) (some (v, S1, LM)) (goQ S) := fun v => E2_some ⟨rfl, h.trans (z62 z1).symm, zg_f z1⟩
  by_cases c : x1 < 0
  · refine E2_pl c ?_
    rw [if_pos c]
    exact E2_sr (E2_pr rfl (no _))
  refine E2_ql c ?_
  rw [if_neg c]
  by_cases d : (21 : Int32) < x1
  · refine E2_pl d ?_
    rw [if_pos d]
    exact E2_sr (E2_pr rfl (no _))
  refine E2_ql d ?_
  rw [if_neg d, h, ← z62 z1]
  refine E2_sr (E2_qr (by decide) (E2_it Iff.rfl (fun f _ => ?_) (fun _ _ => no _)))
  have c0 := tq_ltn (x := x1) (y := (0 : Int32)) rfl (b := 0) (by decide) c
  have b62 : 0 ≤ (S 62 0).toInt ∧ (S 62 0).toInt ≤ 21 := hS 62 0
  have d0 := tq_ltn (x := (21 : Int32)) (y := x1) (a := 21) (by decide) rfl d
  obtain ⟨m, hm⟩ : ∃ m : Nat, x1.toInt = m := ⟨x1.toInt.toNat, by omega⟩
  obtain ⟨s, hs⟩ : ∃ s : Nat, (S 62 0).toInt = s := ⟨(S 62 0).toInt.toNat, by omega⟩
  have hsm : s + m ≤ 21 := by
    have := tq_le (x := S1 62 0 + x1) (y := (21 : Int32)) (a := (s : Int) + m) (by rw [z62 z1]; exact i_addK hs hm (by omega) (by omega)) (b := 21) (by decide) f
    omega
  refine E2_ltl (fun T4 e4 => E2_br (zf_X8_plainTried S1 z1) (fun S7 h7 => E2_ltr (fun S10 e10 => ?_)))
  have z10 : zf S S10 := by rw [e10]; exact zf_s h7 (by omega)
  have t4 : T4 0 0 = S 62 0 := by rw [e4, st_ne (by decide)]; exact h
  unfold fL_X7_go_L36 fL_X8_go_L41
  exact e_goL pa qa hm hsm 2000 0 0 L LM T4 S10 (by decide) (by omega) (t4.trans (z62 z10).symm) (by rw [t4, hs]; rfl) (zg_f z10)
/-! an image is kept, is brought back -/
def kpQ (S : Tr) (q : Int32 × Tr × Lo) : Prop := q.1 = S 62 0 ∧ q.2.1 62 0 = S 62 0 ∧ q.2.1 0 84 = 1 ∧ q.2.1 0 89 = S 62 0 ∧ zk S q.2.1
theorem k_k47 (S0 : Tr) (L : Lo) (N : Nat) : ∀ (x : Int32) (S : Tr), S 62 0 = S0 62 0 → S 0 84 = 1 → zk S0 S → Ep (lpF (fun _ _ => none) (fB_X8_keep_L47 L) N x S) (kpQ S0) := by
  induction N with
  | zero => intro x S _ _ _; exact Ep_none
  | succ N ih =>
    intro x S h1 h2 h3
    show Ep (fB_X8_keep_L47 L (lpF (fun _ _ => none) (fB_X8_keep_L47 L) N) x S) _
    generalize lpF (fun _ _ => none) (fB_X8_keep_L47 L) N = k at ih ⊢
    unfold fB_X8_keep_L47 fJ_X8_keep_J86
    refine Ep_ite (fun _ => Ep_lt (fun S8 e8 => Ep_lt (fun S9 e9 => Ep_lt (fun L10 _ => Ep_some ?_)))) (fun _ => Ep_ck (Ep_lt (fun S12 e12 => Ep_ck (Ep_lt (fun S14 e14 => Ep_lt (fun y _ => ih y S14 ?_ ?_ ?_))))))
    · have s62 : S9 62 0 = S0 62 0 := by rw [e9, st_oth (by decide), e8, st_oth (by decide)]; exact h1
      refine ⟨s62, s62, ?_, ?_, ?_⟩
      · show S9 0 84 = 1
        rw [e9, st_ne (by decide), e8, st_ne (by decide)]; exact h2
      · show S9 0 89 = S0 62 0
        rw [e9, st_same, e8, st_oth (by decide)]; exact h1
      · show zk S0 S9
        rw [e9, e8]; exact zk_s (zk_s h3 (by omega)) (by omega)
    · rw [e14, st_oth (by decide), e12, st_oth (by decide)]; exact h1
    · rw [e14, st_oth (by decide), e12, st_oth (by decide)]; exact h2
    · rw [e14, e12]; exact zk_s (zk_s h3 (by omega)) (by omega)
theorem k_keep (S : Tr) (L : Lo) : Ep (f_X8_keep S L) (kpQ S) := by
  have lp : ∀ (N : Nat) (x : Int32) (A : Tr), A 62 0 = S 62 0 → A 0 84 = 1 → zk S A → Ep (lpF (fun _ _ => none) (fB_X8_keep_L21 L) N x A) (kpQ S) := by
    intro N
    induction N with
    | zero => intro x A _ _ _; exact Ep_none
    | succ N ih =>
      intro x A h1 h2 h3
      show Ep (fB_X8_keep_L21 L (lpF (fun _ _ => none) (fB_X8_keep_L21 L) N) x A) _
      generalize lpF (fun _ _ => none) (fB_X8_keep_L21 L) N = k at ih ⊢
      unfold fB_X8_keep_L21 fL_X8_keep_L47
      refine Ep_ite (fun _ => k_k47 S L 2000 0 A h1 h2 h3) (fun _ => Ep_ck (Ep_ck (Ep_lt (fun S18 e18 => Ep_lt (fun y _ => ih y S18 ?_ ?_ ?_)))))
      · rw [e18, st_oth (by decide)]; exact h1
      · rw [e18, st_oth (by decide)]; exact h2
      · rw [e18]; exact zk_s h3 (by omega)
  unfold f_X8_keep fL_X8_keep_L21
  refine Ep_lt (fun S1 e1 => Ep_lt (fun S2 e2 => Ep_bd (zf_X8_put_86 (S0 := S2) S2 0 zf_r) (fun S3 h3 => lp 2000 0 S3 ?_ ?_ ?_)))
  · rw [z62 h3, e2, st_oth (by decide), e1, st_oth (by decide)]
  · rw [h3 0 84 (Or.inr (Or.inr ⟨rfl, by omega⟩)), e2, st_same]
  · intro a j q
    rw [zk_f h3 a j q, e2, st_no (fun g => by rcases q with q | ⟨_, q | q⟩ <;> omega), e1, st_no (fun g => by rcases q with q | ⟨_, q | q⟩ <;> omega)]
def bkQ (S : Tr) (q : Int32 × Tr × Lo) : Prop := (S 0 84 = 0 ∧ q.1 = -1 ∧ q.2.1 62 0 = S 62 0 ∧ q.2.1 0 84 = S 0 84 ∧ q.2.1 0 89 = S 0 89 ∧ zk S q.2.1) ∨ (¬ S 0 84 = 0 ∧ q.1 = S 0 89 ∧ q.2.1 62 0 = S 0 89 ∧ q.2.1 0 84 = S 0 84 ∧ q.2.1 0 89 = S 0 89 ∧ zk S q.2.1)
theorem b_k51 (S0 : Tr) (L : Lo) (h0 : ¬ S0 0 84 = 0) (N : Nat) : ∀ (x : Int32) (S : Tr), S 0 84 = S0 0 84 → S 0 89 = S0 0 89 → zk S0 S → Ep (lpF (fun _ _ => none) (fB_X8_back_L51 L) N x S) (bkQ S0) := by
  induction N with
  | zero => intro x S _ _ _; exact Ep_none
  | succ N ih =>
    intro x S h1 h2 h3
    show Ep (fB_X8_back_L51 L (lpF (fun _ _ => none) (fB_X8_back_L51 L) N) x S) _
    generalize lpF (fun _ _ => none) (fB_X8_back_L51 L) N = k at ih ⊢
    unfold fB_X8_back_L51 fJ_X8_back_J90
    refine Ep_ite (fun _ => Ep_lt (fun S8 e8 => Ep_lt (fun S9 e9 => Ep_lt (fun L10 _ => Ep_lt (fun S11 e11 => Ep_some (Or.inr ?_)))))) (fun _ => Ep_ck (Ep_lt (fun S13 e13 => Ep_ck (Ep_lt (fun S15 e15 => Ep_lt (fun y _ => ih y S15 ?_ ?_ ?_))))))
    · have s62 : S11 62 0 = S0 0 89 := by rw [e11, st_oth (by decide), e9, st_same, e8, st_oth (by decide)]; exact h2
      refine ⟨h0, s62, s62, ?_, ?_, ?_⟩
      · show S11 0 84 = S0 0 84
        rw [e11, st_ne (by decide), e9, st_oth (by decide), e8, st_oth (by decide)]; exact h1
      · show S11 0 89 = S0 0 89
        rw [e11, st_ne (by decide), e9, st_oth (by decide), e8, st_oth (by decide)]; exact h2
      · show zk S0 S11
        rw [e11, e9, e8]; exact zk_s (zk_s (zk_s h3 (by omega)) (by omega)) (by omega)
    · rw [e15, st_oth (by decide), e13, st_oth (by decide)]; exact h1
    · rw [e15, st_oth (by decide), e13, st_oth (by decide)]; exact h2
    · rw [e15, e13]; exact zk_s (zk_s h3 (by omega)) (by omega)
theorem k_back (S : Tr) (L : Lo) : Ep (f_X8_back S L) (bkQ S) := by
  have lp : ¬ S 0 84 = 0 → ∀ (N : Nat) (x : Int32) (A : Tr), A 0 84 = S 0 84 → A 0 89 = S 0 89 → zk S A → Ep (lpF (fun _ _ => none) (fB_X8_back_L25 L) N x A) (bkQ S) := by
    intro h0 N
    induction N with
    | zero => intro x A _ _ _; exact Ep_none
    | succ N ih =>
      intro x A h1 h2 h3
      show Ep (fB_X8_back_L25 L (lpF (fun _ _ => none) (fB_X8_back_L25 L) N) x A) _
      generalize lpF (fun _ _ => none) (fB_X8_back_L25 L) N = k at ih ⊢
      unfold fB_X8_back_L25 fL_X8_back_L51
      refine Ep_ite (fun _ => b_k51 S L h0 2000 0 A h1 h2 h3) (fun _ => Ep_ck (Ep_ck (Ep_lt (fun S19 e19 => Ep_lt (fun y _ => ih y S19 ?_ ?_ ?_)))))
      · rw [e19, st_oth (by decide)]; exact h1
      · rw [e19, st_oth (by decide)]; exact h2
      · rw [e19]; exact zk_s h3 (by omega)
  unfold f_X8_back fL_X8_back_L25
  refine Ep_lt (fun S1 e1 => ?_)
  have z1 : zf S S1 := by rw [e1]; exact zf_s zf_r (by omega)
  have a84 : S1 0 84 = S 0 84 := z1 0 84 (Or.inr (Or.inr ⟨rfl, by omega⟩))
  have a89 : S1 0 89 = S 0 89 := z1 0 89 (Or.inr (Or.inr ⟨rfl, by omega⟩))
  refine Ep_ite (fun c => Ep_some (Or.inl ⟨a84.symm.trans c, rfl, z62 z1, a84, a89, zk_f z1⟩)) (fun c => Ep_bd (zf_X8_take_86 (S0 := S1) S1 0 zf_r) (fun S3 h3 => ?_))
  have h0 : ¬ S 0 84 = 0 := fun g => c (a84.trans g)
  refine lp h0 2000 0 S3 ((h3 0 84 (Or.inr (Or.inr ⟨rfl, by omega⟩))).trans a84) ((h3 0 89 (Or.inr (Or.inr ⟨rfl, by omega⟩))).trans a89) (fun a j q => (zk_f h3 a j q).trans (zk_f z1 a j q))
-- 62.za.at3
/-! a new text: the stop is 0 -/
theorem af_J (S : Tr) : Ep (fJ_X8_atFirst_J134 0 S) (fun q => q 62 0 = 0) := by
  unfold fJ_X8_atFirst_J134
  refine Ep_ck (Ep_lt (fun S5 _ => Ep_lt (fun S6 e6 => Ep_lt (fun S7 e7 => Ep_some ?_))))
  have e6 : S6 = st S5 62 0 0 := e6
  show S7 62 0 = 0
  rw [e7, st_oth (by decide), e6, st_same]
theorem af_64 (N : Nat) : ∀ (x : Int32) (S : Tr), Ep (lpF (fun _ _ => none) (fB_X8_atFirst_L64 0) N x S) (fun q => q 62 0 = 0) := by
  induction N with
  | zero => intro x S; exact Ep_none
  | succ N ih =>
    intro x S
    show Ep (fB_X8_atFirst_L64 0 (lpF (fun _ _ => none) (fB_X8_atFirst_L64 0) N) x S) _
    generalize lpF (fun _ _ => none) (fB_X8_atFirst_L64 0) N = k at ih ⊢
    unfold fB_X8_atFirst_L64
    exact Ep_ite (fun _ => af_J S) (fun _ => Ep_ck (Ep_ck (Ep_lt (fun S10 _ => Ep_lt (fun S11 _ => Ep_lt (fun S12 _ => Ep_lt (fun S13 _ => Ep_lt (fun y _ => ih y S13))))))))
theorem af_40 (N : Nat) : ∀ (x : Int32) (S : Tr), Ep (lpF (fun _ _ => none) (fB_X8_atFirst_L40 0) N x S) (fun q => q 62 0 = 0) := by
  induction N with
  | zero => intro x S; exact Ep_none
  | succ N ih =>
    intro x S
    show Ep (fB_X8_atFirst_L40 0 (lpF (fun _ _ => none) (fB_X8_atFirst_L40 0) N) x S) _
    generalize lpF (fun _ _ => none) (fB_X8_atFirst_L40 0) N = k at ih ⊢
    unfold fB_X8_atFirst_L40 fL_X8_atFirst_L64
    exact Ep_ite (fun _ => af_64 2000 0 S) (fun _ => Ep_ck (Ep_lt (fun S16 _ => Ep_lt (fun y _ => ih y S16))))
theorem af_2 (N : Nat) : ∀ (x : Int32) (S : Tr), Ep (lpF (fun _ _ => none) (fB_X8_atFirst_L2 0) N x S) (fun q => q 62 0 = 0) := by
  induction N with
  | zero => intro x S; exact Ep_none
  | succ N ih =>
    intro x S
    show Ep (fB_X8_atFirst_L2 0 (lpF (fun _ _ => none) (fB_X8_atFirst_L2 0) N) x S) _
    generalize lpF (fun _ _ => none) (fB_X8_atFirst_L2 0) N = k at ih ⊢
    unfold fB_X8_atFirst_L2 fL_X8_atFirst_L40
    exact Ep_ite (fun _ => af_40 2000 0 S) (fun _ => Ep_ck (Ep_lt (fun S19 _ => Ep_lt (fun S20 _ => Ep_lt (fun y _ => ih y S20)))))
theorem k_b62 (S : Tr) (L : Lo) : Ep (f_X8_begin S L) (fun q => q.1 62 0 = 0) := by
  unfold f_X8_begin f_X8_atFirst fL_X8_atFirst_L2
  refine Ep_bd (af_2 2000 0 S) (fun S1 h1 => Ep_lt (fun L4 _ => Ep_bd (zf_X8_plainTried (S0 := S1) S1 zf_r) (fun S5 h5 => Ep_lt (fun S8 e8 => Ep_lt (fun S9 e9 => Ep_lt (fun S10 e10 => Ep_lt (fun S11 e11 => Ep_some ?_)))))))
  have h1 : S1 62 0 = 0 := h1
  show S11 62 0 = 0
  rw [e11, st_oth (by decide), e10, st_oth (by decide), e9, st_oth (by decide), e8, st_oth (by decide), z62 h5, h1]
theorem k_k62 (T : Tr) (L : Lo) : Ep (f_X8_keepText T L) (fun q => q.1 62 0 = 0) := by
  unfold f_X8_keepText
  refine Ep_lt (fun S1 _ => Ep_lt (fun S2 _ => Ep_lt (fun S3 _ => Ep_lt (fun S4 _ => Ep_any (fun A1 => Ep_any (fun A2 => Ep_any (fun A3 => Ep_any (fun A4 => Ep_any (fun A5 => Ep_any (fun A6 => Ep_any (fun A7 => Ep_any (fun A8 => Ep_any (fun A9 => Ep_any (fun A10 => Ep_any (fun A11 => Ep_any (fun A12 => ?_))))))))))))))))
  refine ke_139 L A12 (fun T36 _ => ?_) 2000 0 A12 (by decide) (by decide) (fun j hj => absurd hj (by rw [show (0 : Int32).toInt = 0 by decide]; omega)) (fun _ _ _ => rfl)
  unfold fJ_X8_keepText_J164
  refine Ep_any (fun B1 => Ep_any (fun B2 => Ep_any (fun B3 => Ep_any (fun B4 => Ep_any (fun B5 => Ep_bd (k_b62 B5 L) (fun q hq => Ep_lt (fun S57 e57 => Ep_lt (fun L58 _ => Ep_some ?_))))))))
  show S57 62 0 = 0
  rw [e57]; exact hq
-- 62.zaz.10.z1
/-! class and reference side by side: what is kept of a text, a train -/
def lwK (P S : Tr) (k : Nat) : Prop := (P (30 + 3 * k) 1 = 0 ∧ S 36 k = 0) ∨ (S 36 k = 1 ∧ ∃ f s : Nat, 1 ≤ s ∧ (P (30 + 3 * k) 1).toInt = s ∧ (S 37 k).toInt = f ∧ (S 38 k).toInt = f + s ∧ f + s ≤ 64 ∧ (hs (P (31 + 3 * k)) s).length = 1 ∧ ∀ i, i < s → nd (P (31 + 3 * k)) (S 39) (S 40) (S 41) f i)
def pKa (P S : Tr) : Prop := ∀ i : Nat, (i : Int) < (S 0 12).toInt → P 8 i = S 24 i ∧ P 9 i = S 25 i
def pKe (P S : Tr) : Prop := ∀ p : Nat, (p : Int) < (S 0 13).toInt → P 10 p = S 26 p ∧ P 11 p = S 27 p ∧ P 12 p = S 28 p ∧ P 13 p = S 29 p ∧ 0 ≤ (S 27 p).toInt ∧ (S 27 p).toInt ≤ 19
def pKi (P S : Tr) : Prop := ∀ i : Nat, (i : Int) < (S 0 14).toInt → P 14 i = S 30 i ∧ P 15 i = S 31 i ∧ P 16 i = S 32 i ∧ P 17 i = S 33 i ∧ 1 ≤ (S 31 i).toInt ∧ (S 31 i).toInt ≤ 99 ∧ (S 33 i).toInt < (S 0 12).toInt
def pKn (P S : Tr) : Prop := P 0 0 = S 0 12 ∧ P 0 1 = S 0 13 ∧ P 0 2 = S 0 14 ∧ P 0 3 = S 0 15 ∧ P 0 4 = S 23 0 ∧ P 0 5 = S 23 1 ∧ P 0 6 = S 23 2 ∧ ∀ i : Nat, (i : Int) < (S 0 12).toInt → 0 ≤ (S 24 i).toInt
def pK (P S : Tr) : Prop := pKn P S ∧ pKa P S ∧ pKe P S ∧ pKi P S ∧ (∀ t : Nat, t < 21 → P 18 t = S 34 t) ∧ ∀ k, k < 3 → lwK P S k
/-- the sum of the first n -/
def wsm (g : Nat → Int32) : Nat → Int32
  | 0 => 0
  | n + 1 => wsm g n + g n
theorem wsm_cg {g g' : Nat → Int32} : ∀ {n : Nat}, (∀ k, k < n → g k = g' k) → wsm g n = wsm g' n
  | 0, _ => rfl
  | n + 1, h => by
    show wsm g n + g n = wsm g' n + g' n
    rw [wsm_cg (fun k hk => h k (by omega)), h n (by omega)]
def wgt (P T : Tr) (p k : Nat) : Int32 := P 15 (T 16 (10 * p + k)).toNatClampNeg
/-- one stack -/
def stk1 (b : Nat) (P T S : Tr) (p : Nat) : Prop := T 17 p = S 56 (5 * b + p) ∧ (∀ k : Nat, (k : Int) < (S 56 (5 * b + p)).toInt → T 16 (10 * p + k) = S 55 (50 * b + 10 * p + k)) ∧ T 18 p = wsm (wgt P T p) (T 17 p).toNatClampNeg
def stk (b : Nat) (P T S : Tr) : Prop := ∀ p, p < 5 → stk1 b P T S p
/-- persons and pieces of a train, what changes on the way -/
def pcs (b : Nat) (T S : Tr) : Prop := ∀ i : Nat, (i : Int) < (S 0 14).toInt → T 14 i = S 53 (10 * b + i) ∧ T 15 i = S 54 (10 * b + i)
def prs (b : Nat) (T S : Tr) : Prop := ∀ p : Nat, (p : Int) < (S 0 13).toInt → T 11 p = S 59 (6 * b + p) ∧ T 12 p = S 60 (6 * b + p)
def dyn (b : Nat) (P T S : Tr) : Prop := T 0 0 = S 62 b ∧ T 0 1 = S 61 b ∧ prs b T S ∧ pcs b T S ∧ stk b P T S
/-- what doesn't -/
def sta (b : Nat) (T S : Tr) : Prop := (∀ p : Nat, (p : Int) < (S 0 13).toInt → T 9 p = S 57 (6 * b + p) ∧ T 10 p = (if S 0 69 = 0 then S 58 (6 * b + p) else 99)) ∧ (∀ i : Nat, (i : Int) < (S 0 14).toInt → T 13 i = (if (S 72 i).toInt < 0 then S 33 i else S 72 i) ∧ (T 13 i).toInt < (S 0 12).toInt) ∧ T 0 3 = S 0 64 ∧ T 0 4 = (if S 0 68 = 0 then S 23 1 else 0) ∧ T 0 5 = S 0 65 ∧ (T 0 6 = 0 ↔ ¬ S 0 66 = 0) ∧ (T 0 7 = 0 ↔ ¬ S 0 67 = 0) ∧ 0 ≤ (S 0 64).toInt ∧ (S 0 64).toInt ≤ 2
/-- what holds of a train of the reference -/
def inv (b : Nat) (S : Tr) : Prop := (∀ i : Nat, (i : Int) < (S 0 14).toInt → (S 53 (10 * b + i) = 1 → S 59 (6 * b + (S 30 i).toNatClampNeg) = 1) ∧ (S 59 (6 * b + (S 30 i).toNatClampNeg) = 0 → S 53 (10 * b + i) = 0) ∧ (S 54 (10 * b + i)).toInt < (S 0 12).toInt) ∧ ∀ p : Nat, (p : Int) < (S 0 13).toInt → (S 59 (6 * b + p) = 0 ∨ S 59 (6 * b + p) = 1 ∨ S 59 (6 * b + p) = 2) ∧ 0 ≤ (S 57 (6 * b + p)).toInt ∧ (S 57 (6 * b + p)).toInt ≤ 19
def drw (T : Tr) (L : Lo) : Prop := ¬ T 0 5 = 0 → L 0 63 = (T 0 2).toInt64 ∧ 0 ≤ (T 0 2).toInt
/-- all that the reference keeps by itself -/
def rI (b : Nat) (S : Tr) : Prop := iR BM S ∧ pI S ∧ gI b S
/-! frames -/
def o51 (S S1 : Tr) : Prop := (∀ a j, ¬ (a = 0 ∧ j = 51) → S1 a j = S a j) ∧ (S1 0 51 = S 0 51 ∨ S1 0 51 = 0 ∨ S1 0 51 = 1)
def oL (L L1 : Lo) : Prop := ∀ a j, a ≠ 50 → a ≠ 51 → L1 a j = L a j
def o19 (T T1 : Tr) : Prop := ∀ a j, a ≠ 19 → T1 a j = T a j
/-- what moves of a train of the class may change -/
def Mc (a j : Nat) : Bool := (Nat.beq a 0 && Nat.ble j 2) || Nat.beq a 11 || Nat.beq a 12 || (Nat.ble 14 a && Nat.ble a 19)
def cM (T T1 : Tr) : Prop := ∀ a j, Mc a j = false → T1 a j = T a j
/-- of a train of the reference -/
def Mb (b a j : Nat) : Bool := (Nat.beq a 0 && (Nat.beq j 51 || Nat.beq j 72)) || Nat.beq a 74 || ((Nat.beq a 53 || Nat.beq a 54) && inB 10 b j) || (Nat.beq a 55 && inB 50 b j) || (Nat.beq a 56 && inB 5 b j) || ((Nat.beq a 59 || Nat.beq a 60) && inB 6 b j) || ((Nat.beq a 61 || Nat.beq a 62 || Nat.beq a 63) && inB 1 b j)
def aM (b : Nat) (S S1 : Tr) : Prop := ∀ a j, Mb b a j = false → S1 a j = S a j
theorem cM_r {T : Tr} : cM T T := fun _ _ _ => rfl
theorem cM_t {T T1 T2 : Tr} (h1 : cM T T1) (h2 : cM T1 T2) : cM T T2 := fun a j h => (h2 a j h).trans (h1 a j h)
theorem cM_s {T T1 : Tr} {a i : Nat} {v : Int32} (h : cM T T1) (hw : Mc a i = true) : cM T (st T1 a i v) := fun c j hf => by
  rcases st_or (S := T1) (a := a) (i := i) (b := c) (j := j) (v := v) with e | ⟨e1, e2⟩
  · rw [e]; exact h c j hf
  · subst e1; subst e2; rw [hw] at hf; cases hf
theorem cM_19 {T T1 : Tr} (h : o19 T T1) : cM T T1 := fun a j hf => h a j (fun e => by subst e; cases hf)
theorem aM_r {b : Nat} {S : Tr} : aM b S S := fun _ _ _ => rfl
theorem aM_t {b : Nat} {S S1 S2 : Tr} (h1 : aM b S S1) (h2 : aM b S1 S2) : aM b S S2 := fun a j h => (h2 a j h).trans (h1 a j h)
theorem aM_s {b : Nat} {z S : Tr} {a i : Nat} {v : Int32} (h : aM b z S) (hw : Mb b a i = true) : aM b z (st S a i v) := fun c j hf => by
  rcases st_or (S := S) (a := a) (i := i) (b := c) (j := j) (v := v) with e | ⟨e1, e2⟩
  · rw [e]; exact h c j hf
  · subst e1; subst e2; rw [hw] at hf; cases hf
theorem aM_51 {b : Nat} {S S1 : Tr} (h : o51 S S1) : aM b S S1 := fun a j hf => h.1 a j (fun e => by obtain ⟨rfl, rfl⟩ := e; simp [Mb] at hf)
theorem Mb_53 {b j : Nat} (h : inB 10 b j = true) : Mb b 53 j = true := by unfold Mb; rw [h]; simp
theorem Mb_54 {b j : Nat} (h : inB 10 b j = true) : Mb b 54 j = true := by unfold Mb; rw [h]; simp
theorem Mb_55 {b j : Nat} (h : inB 50 b j = true) : Mb b 55 j = true := by unfold Mb; rw [h]; simp
theorem Mb_56 {b j : Nat} (h : inB 5 b j = true) : Mb b 56 j = true := by unfold Mb; rw [h]; simp
theorem Mb_59 {b j : Nat} (h : inB 6 b j = true) : Mb b 59 j = true := by unfold Mb; rw [h]; simp
theorem Mb_60 {b j : Nat} (h : inB 6 b j = true) : Mb b 60 j = true := by unfold Mb; rw [h]; simp
theorem Mb_61 {b : Nat} : Mb b 61 b = true := by unfold Mb; rw [inB_of (n := 1) (by omega) (by omega)]; simp
theorem Mb_62 {b : Nat} : Mb b 62 b = true := by unfold Mb; rw [inB_of (n := 1) (by omega) (by omega)]; simp
theorem Mb_63 {b : Nat} : Mb b 63 b = true := by unfold Mb; rw [inB_of (n := 1) (by omega) (by omega)]; simp
/-- the text's cells stay -/
theorem aM_p {b a j : Nat} (h : a ≤ 52) (h0 : a ≠ 0) : Mb b a j = false := by
  have e : ∀ k, 53 ≤ k → Nat.beq a k = false := fun k hk => by
    rw [← Bool.not_eq_true]; intro q; have := Nat.eq_of_beq_eq_true q; omega
  have e0 : Nat.beq a 0 = false := by rw [← Bool.not_eq_true]; intro q; exact h0 (Nat.eq_of_beq_eq_true q)
  unfold Mb
  rw [e 53 (by omega), e 54 (by omega), e 55 (by omega), e 56 (by omega), e 59 (by omega), e 60 (by omega), e 61 (by omega), e 62 (by omega), e 63 (by omega), e 74 (by omega), e0]
  rfl
theorem aM_0 {b j : Nat} (h : j ≠ 51) (h2 : j ≠ 72) : Mb b 0 j = false := by
  have e1 : Nat.beq j 51 = false := by rw [← Bool.not_eq_true]; intro q; exact h (Nat.eq_of_beq_eq_true q)
  have e2 : Nat.beq j 72 = false := by rw [← Bool.not_eq_true]; intro q; exact h2 (Nat.eq_of_beq_eq_true q)
  unfold Mb
  rw [e1, e2]; rfl
theorem pKn_o {P S S1 : Tr} (h : pKn P S) (e0 : ∀ j, 12 ≤ j → j ≤ 15 → S1 0 j = S 0 j) (e : ∀ j, S1 23 j = S 23 j) (e24 : ∀ j, S1 24 j = S 24 j) : pKn P S1 := by
  obtain ⟨h0, h1, h2, h3, h4, h5, h6, h7⟩ := h
  have z12 := e0 12 (by omega) (by omega)
  exact ⟨h0.trans z12.symm, h1.trans (e0 13 (by omega) (by omega)).symm, h2.trans (e0 14 (by omega) (by omega)).symm, h3.trans (e0 15 (by omega) (by omega)).symm, h4.trans (e 0).symm, h5.trans (e 1).symm, h6.trans (e 2).symm, fun i hi => by rw [z12] at hi; rw [e24]; exact h7 i hi⟩
theorem pK_o {P S S1 : Tr} (h : pK P S) (e0 : ∀ j, 12 ≤ j → j ≤ 15 → S1 0 j = S 0 j) (e : ∀ a j, 23 ≤ a → a ≤ 41 → S1 a j = S a j) : pK P S1 := by
  obtain ⟨h1, h2, h3, h4, h5, h6⟩ := h
  have f12 := e0 12 (by omega) (by omega)
  have f13 := e0 13 (by omega) (by omega)
  have f14 := e0 14 (by omega) (by omega)
  refine ⟨pKn_o h1 e0 (fun j => e 23 j (by omega) (by omega)) (fun j => e 24 j (by omega) (by omega)), fun i hi => ?_, fun i hi => ?_, fun i hi => ?_, fun t ht => ?_, fun k hk => ?_⟩
  · rw [f12] at hi; rw [e 24 i (by omega) (by omega), e 25 i (by omega) (by omega)]; exact h2 i hi
  · rw [f13] at hi; rw [e 26 i (by omega) (by omega), e 27 i (by omega) (by omega), e 28 i (by omega) (by omega), e 29 i (by omega) (by omega)]; exact h3 i hi
  · rw [f14] at hi; rw [f12, e 30 i (by omega) (by omega), e 31 i (by omega) (by omega), e 32 i (by omega) (by omega), e 33 i (by omega) (by omega)]; exact h4 i hi
  · rw [e 34 t (by omega) (by omega)]; exact h5 t ht
  · have e39 : S1 39 = S 39 := funext (fun j => e 39 j (by omega) (by omega))
    have e40 : S1 40 = S 40 := funext (fun j => e 40 j (by omega) (by omega))
    have e41 : S1 41 = S 41 := funext (fun j => e 41 j (by omega) (by omega))
    unfold lwK
    rw [e 36 k (by omega) (by omega), e 37 k (by omega) (by omega), e 38 k (by omega) (by omega), e39, e40, e41]
    exact h6 k hk
theorem pK_M {b : Nat} {P S S1 : Tr} (h : pK P S) (a : aM b S S1) : pK P S1 := pK_o h (fun j h1 h2 => a 0 j (aM_0 (by omega) (by omega))) (fun c j h1 h2 => a c j (aM_p (by omega) (by omega)))
theorem pK_51 {P S S1 : Tr} (h : pK P S) (a : o51 S S1) : pK P S1 := pK_M (b := 0) h (aM_51 a)
theorem Mb_rows {b a j : Nat} (h : a = 57 ∨ a = 58 ∨ a = 72) : Mb b a j = false := by
  rcases h with rfl | rfl | rfl <;> rfl
theorem sta_M {b : Nat} {T T1 S S1 : Tr} (h : sta b T S) (c : cM T T1) (a : aM b S S1) : sta b T1 S1 := by
  obtain ⟨h1, h2, h3, h4, h5, h6, h7, h8⟩ := h
  have z : ∀ j, j ≠ 51 → j ≠ 72 → S1 0 j = S 0 j := fun j q q2 => a 0 j (aM_0 q q2)
  refine ⟨fun p hp => ?_, fun i hi => ?_, ?_, ?_, ?_, ?_, ?_, by rw [z 64 (by omega) (by omega)]; exact h8⟩
  · rw [z 13 (by omega) (by omega)] at hp
    rw [c 9 p rfl, c 10 p rfl, z 69 (by omega) (by omega), a 57 _ (Mb_rows (by omega)), a 58 _ (Mb_rows (by omega))]; exact h1 p hp
  · rw [z 14 (by omega) (by omega)] at hi
    rw [c 13 i rfl, z 12 (by omega) (by omega), a 72 _ (Mb_rows (by omega)), a 33 _ (aM_p (by omega) (by omega))]; exact h2 i hi
  · rw [c 0 3 rfl, z 64 (by omega) (by omega)]; exact h3
  · rw [c 0 4 rfl, z 68 (by omega) (by omega), a 23 _ (aM_p (by omega) (by omega))]; exact h4
  · rw [c 0 5 rfl, z 65 (by omega) (by omega)]; exact h5
  · rw [c 0 6 rfl, z 66 (by omega) (by omega)]; exact h6
  · rw [c 0 7 rfl, z 67 (by omega) (by omega)]; exact h7
theorem stk1_o {b p : Nat} {P T T1 S S1 : Tr} (h : stk1 b P T S p) (e16 : ∀ j, 10 * p ≤ j → j < 10 * p + 10 → T1 16 j = T 16 j) (e17 : T1 17 p = T 17 p) (e18 : T1 18 p = T 18 p) (f55 : ∀ j, 50 * b + 10 * p ≤ j → j < 50 * b + 10 * p + 10 → S1 55 j = S 55 j) (f56 : S1 56 (5 * b + p) = S 56 (5 * b + p)) (hm : 0 ≤ (S 56 (5 * b + p)).toInt ∧ (S 56 (5 * b + p)).toInt ≤ 10) : stk1 b P T1 S1 p := by
  obtain ⟨h1, h2, h3⟩ := h
  have hn : (T 17 p).toNatClampNeg ≤ 10 := by rw [h1, i_cl]; omega
  refine ⟨by rw [e17, f56]; exact h1, fun k hk => ?_, ?_⟩
  · rw [f56] at hk
    rw [e16 _ (by omega) (by omega), f55 _ (by omega) (by omega)]; exact h2 k hk
  · rw [e18, e17, h3]
    refine wsm_cg (fun k hk => ?_)
    unfold wgt
    rw [e16 _ (by omega) (by omega)]
theorem stk_e {b : Nat} {P T T1 S S1 : Tr} (h : stk b P T S) (e16 : ∀ j, T1 16 j = T 16 j) (e17 : ∀ j, T1 17 j = T 17 j) (e18 : ∀ j, T1 18 j = T 18 j) (f55 : ∀ j, S1 55 j = S 55 j) (f56 : ∀ j, S1 56 j = S 56 j) (hS : iR BM S) : stk b P T1 S1 := fun p hp => stk1_o (h p hp) (fun j _ _ => e16 j) (e17 p) (e18 p) (fun j _ _ => f55 j) (f56 _) (BM56 hS _)
theorem dyn_e {b : Nat} {P T T1 S S1 : Tr} (h : dyn b P T S) (hS : iR BM S) (e : ∀ a j, (a = 0 ∧ j ≤ 1) ∨ a = 11 ∨ a = 12 ∨ (14 ≤ a ∧ a ≤ 18) → T1 a j = T a j) (f : ∀ a j, (a = 0 ∧ 12 ≤ j ∧ j ≤ 15) ∨ (53 ≤ a ∧ a ≤ 62) → S1 a j = S a j) : dyn b P T1 S1 := by
  obtain ⟨h1, h2, h3, h4, h5⟩ := h
  refine ⟨by rw [e 0 0 (by omega), f 62 _ (by omega)]; exact h1, by rw [e 0 1 (by omega), f 61 _ (by omega)]; exact h2, fun p hp => ?_, fun i hi => ?_, ?_⟩
  · rw [f 0 13 (by omega)] at hp
    rw [e 11 p (by omega), e 12 p (by omega), f 59 _ (by omega), f 60 _ (by omega)]; exact h3 p hp
  · rw [f 0 14 (by omega)] at hi
    rw [e 14 i (by omega), e 15 i (by omega), f 53 _ (by omega), f 54 _ (by omega)]; exact h4 i hi
  · exact stk_e h5 (fun j => e 16 j (by omega)) (fun j => e 17 j (by omega)) (fun j => e 18 j (by omega)) (fun j => f 55 j (by omega)) (fun j => f 56 j (by omega)) hS
theorem dyn_19 {b : Nat} {P T T1 S S1 : Tr} (h : dyn b P T S) (hS : iR BM S) (e : o19 T T1) (f : o51 S S1) : dyn b P T1 S1 := dyn_e h hS (fun a j q => e a j (by omega)) (fun a j q => f.1 a j (by omega))
theorem inv_e {b : Nat} {S S1 : Tr} (h : inv b S) (e : ∀ a j, (a = 0 ∧ 12 ≤ j ∧ j ≤ 15) ∨ a = 30 ∨ a = 53 ∨ a = 54 ∨ a = 57 ∨ a = 59 → S1 a j = S a j) : inv b S1 := by
  refine ⟨fun i hi => ?_, fun p hp => ?_⟩
  · rw [e 0 14 (by omega)] at hi
    rw [e 53 _ (by omega), e 54 _ (by omega), e 30 _ (by omega), e 59 _ (by omega), e 0 12 (by omega)]; exact h.1 i hi
  · rw [e 0 13 (by omega)] at hp
    rw [e 59 _ (by omega), e 57 _ (by omega)]; exact h.2 p hp
theorem inv_51 {b : Nat} {S S1 : Tr} (h : inv b S) (f : o51 S S1) : inv b S1 := inv_e h (fun a j q => f.1 a j (by omega))
theorem drw_e {T T1 : Tr} {L L1 : Lo} (h : drw T L) (e5 : T1 0 5 = T 0 5) (e2 : T1 0 2 = T 0 2) (eL : L1 0 63 = L 0 63) : drw T1 L1 := by unfold drw at h ⊢; rw [e5, e2, eL]; exact h
theorem o51_r {S : Tr} : o51 S S := ⟨fun _ _ _ => rfl, Or.inl rfl⟩
theorem o51_t {S T U : Tr} (h1 : o51 S T) (h2 : o51 T U) : o51 S U := ⟨fun a j h => (h2.1 a j h).trans (h1.1 a j h), by
  rcases h2.2 with e | e
  · rw [e]; exact h1.2
  · exact Or.inr e⟩
theorem o51_s {S T : Tr} {v : Int32} (h : o51 S T) (hv : v = 0 ∨ v = 1 := by decide) : o51 S (st T 0 51 v) := ⟨fun a j hn => by rw [st_no hn]; exact h.1 a j hn, Or.inr (by rw [st_same]; exact hv)⟩
theorem oL_r {L : Lo} : oL L L := fun _ _ _ _ => rfl
theorem oL_t {L M N : Lo} (h1 : oL L M) (h2 : oL M N) : oL L N := fun a j h h' => (h2 a j h h').trans (h1 a j h h')
theorem stL_oth {L : Lo} {a b i : Nat} {v : Int64} (h : b ≠ a) : stL L a i v b = L b := by
  have : Nat.beq b a = false := by rw [← Bool.not_eq_true]; intro e; exact h (Nat.eq_of_beq_eq_true e)
  simp [stL, this]
theorem stL_same {L : Lo} {a i : Nat} {v : Int64} : stL L a i v a i = v := by simp [stL, vp_updL]
theorem stL_ne {L : Lo} {a i j : Nat} {v : Int64} (h : j ≠ i) : stL L a i v a j = L a j := by simp [stL, vp_updL, h]
theorem oL_s {L M : Lo} {a i : Nat} {v : Int64} (h : oL L M) (ha : a = 50 ∨ a = 51) : oL L (stL M a i v) := fun c j h1 h2 => by rw [stL_oth (by omega)]; exact h c j h1 h2
theorem o19_r {T : Tr} : o19 T T := fun _ _ _ => rfl
theorem o19_t {S T U : Tr} (h1 : o19 S T) (h2 : o19 T U) : o19 S U := fun a j h => (h2 a j h).trans (h1 a j h)
theorem o19_s {S T : Tr} {i : Nat} {v : Int32} (h : o19 S T) : o19 S (st T 19 i v) := fun a j hn => by rw [st_oth hn]; exact h a j hn
theorem BM_51 {S S1 : Tr} (h : iR BM S) (f : o51 S S1) : iR BM S1 := fun a j => by
  by_cases c : a = 0 ∧ j = 51
  · obtain ⟨rfl, rfl⟩ := c
    rcases f.2 with e | e | e
    · rw [e]; exact h 0 51
    · rw [e]; exact (by decide : (0 : Int) ≤ (0 : Int32).toInt ∧ (0 : Int32).toInt ≤ (1 : Int))
    · rw [e]; exact (by decide : (0 : Int) ≤ (1 : Int32).toInt ∧ (1 : Int32).toInt ≤ (1 : Int))
  · rw [f.1 a j c]; exact h a j
theorem rI_51 {b : Nat} {S S1 : Tr} (h : rI b S) (f : o51 S S1) : rI b S1 := by
  have a : aT S S1 := fun c j q => f.1 c j (fun e => by obtain ⟨rfl, rfl⟩ := e; cases q)
  exact ⟨BM_51 h.1 f, pI_aT h.2.1 a, gI_aT h.2.2 a⟩
/-! places -/
theorem jx {c x y : Int32} (k : Nat) {n : Nat} (hc : c.toInt = k) (hk : k ≤ 100) (hx : 0 ≤ x.toInt ∧ x.toInt ≤ 1) (hy : y.toInt = n) (hn : n ≤ 1000) : ((c * x) + y).toNatClampNeg = k * x.toNatClampNeg + n := by
  rw [(ix1 k hc hk hx (y := y) ⟨by omega, by omega⟩).2, i_cn hy]
theorem jx3 {x y z : Int32} {p k : Nat} (hx : 0 ≤ x.toInt ∧ x.toInt ≤ 1) (hy : y.toInt = p) (hp : p ≤ 4) (hz : z.toInt = k) (hk : k ≤ 1000) : ((((50 : Int32) * x) + ((10 : Int32) * y)) + z).toNatClampNeg = 50 * x.toNatClampNeg + 10 * p + k := by
  rw [(ix2 hx (y := y) (z := z) ⟨by omega, by omega⟩ ⟨by omega, by omega⟩).2, i_cn hy, i_cn hz]
theorem jy {y z : Int32} {p k : Nat} (hy : y.toInt = p) (hp : p ≤ 4) (hz : z.toInt = k) (hk : k ≤ 1000) : ((y * 10) + z).toNatClampNeg = 10 * p + k ∧ ((y * 10) + z).toInt = 10 * p + k := by
  have e1 : (y * 10).toInt = y.toInt * 10 := i_mulR 10 (by decide) (by omega) (by omega)
  have e2 : ((y * 10) + z).toInt = 10 * p + k := by rw [i_addK (x := 10 * p) (y := k) (by rw [e1, hy]; omega) hz (by omega) (by omega)]
  exact ⟨i_cn (n := 10 * p + k) (by rw [e2]; omega), e2⟩
theorem i_p1 {x : Int32} {n : Nat} (hx : x.toInt = n) (hn : n ≤ 100000) : (x + 1).toInt = ((n + 1 : Nat) : Int) := by rw [i_addK hx (y := 1) (by decide) (by omega) (by omega)]; omega
/-- where a piece lies -/
theorem wh {b i : Nat} {S : Tr} (hS : iR BM S) (hg : gS b S) (hi : i < 10) (hl : 0 ≤ (S 54 (10 * b + i)).toInt) : ∃ p pos : Nat, p < 5 ∧ (S 54 (10 * b + i)).toInt = p ∧ (pos : Int) < (S 56 (5 * b + p)).toInt ∧ (S 55 (50 * b + 10 * p + pos)).toInt = i ∧ (∀ k : Nat, (k : Int) < (S 56 (5 * b + p)).toInt → (S 55 (50 * b + 10 * p + k)).toInt = i → k = pos) ∧ pos ≤ 9 := by
  have hb := BM54 hS (10 * b + i)
  obtain ⟨p, hp⟩ : ∃ p : Nat, (S 54 (10 * b + i)).toInt = p := ⟨(S 54 (10 * b + i)).toInt.toNat, by omega⟩
  have hp5 : p < 5 := by omega
  obtain ⟨g1, g2, g3⟩ := hg
  obtain ⟨pos, hk, hs⟩ := g2 i p hi hp
  have hk : (pos : Int) < (S 56 (5 * b + p)).toInt := hk
  have hs : (S 55 (50 * b + 10 * p + pos)).toInt = i := hs
  have := BM56 hS (5 * b + p)
  exact ⟨p, pos, hp5, hp, hk, hs, fun k h1 h2 => g3 p k pos hp5 h1 hk (show (S 55 (50 * b + 10 * p + k)).toInt = (S 55 (50 * b + 10 * p + pos)).toInt by omega), by omega⟩
/-- what lies at a level -/
theorem sk_at {b p k : Nat} {S : Tr} (hS : iR BM S) (hg : gS b S) (hp : p < 5) (hk : (k : Int) < (S 56 (5 * b + p)).toInt) : ∃ i : Nat, i < 10 ∧ (S 55 (50 * b + 10 * p + k)).toInt = i ∧ (i : Int) < (S 0 14).toInt ∧ (S 54 (10 * b + i)).toInt = p := by
  have hb := BM55 hS (50 * b + 10 * p + k)
  obtain ⟨i, hi⟩ : ∃ i : Nat, (S 55 (50 * b + 10 * p + k)).toInt = i := ⟨(S 55 (50 * b + 10 * p + k)).toInt.toNat, by omega⟩
  obtain ⟨h1, h2⟩ := hg.1 p k hp hk
  have h1 : (S 54 (10 * b + (S 55 (50 * b + 10 * p + k)).toInt.toNat)).toInt = p := h1
  have h2 : (S 55 (50 * b + 10 * p + k)).toInt < (S 0 14).toInt := h2
  rw [show (S 55 (50 * b + 10 * p + k)).toInt.toNat = i by omega] at h1
  exact ⟨i, by omega, hi, by omega, h1⟩
-- 62.zaz.11.z2
/-! levels, what lies above, weights, room -/
theorem e_lvl {T : Tr} {x1 : Int32} {i p h pos : Nat} (hi : x1.toInt = i) (hl : (T 15 i).toInt = p) (hp : p ≤ 4) (hh : (T 17 p).toInt = h) (h10 : h ≤ 10) (hpos : pos < h) (hs : T 16 (10 * p + pos) = x1) (hu : ∀ k, k < h → T 16 (10 * p + k) = x1 → k = pos) : Ep (f_X6_level T x1) (fun q => q.toInt = pos) := by
  have lp : ∀ (N n : Nat) (y x3 : Int32), y.toInt = p → x3.toInt = n → n ≤ pos → Ep (lpF (fun _ => none) (fB_X6_level_L13 T x1 y) N x3) (fun q => q.toInt = pos) := by
    intro N
    induction N with
    | zero => intro n y x3 _ _ _; exact Ep_none
    | succ N ih =>
      intro n y x3 hy hn hnp
      show Ep (fB_X6_level_L13 T x1 y (lpF (fun _ => none) (fB_X6_level_L13 T x1 y) N) x3) _
      have ih := fun n x3 => ih n y x3 hy
      generalize lpF (fun _ => none) (fB_X6_level_L13 T x1 y) N = k at ih ⊢
      unfold fB_X6_level_L13
      rw [i_cn hy, (jy hy hp hn (by omega)).1]
      refine Ep_ck (Ep_ite (fun c => ?_) (fun _ => Ep_ck (Ep_ite (fun c => Ep_some ?_) (fun c => Ep_lt (fun y4 e4 => ih (n + 1) y4 (by rw [e4]; exact i_p1 hn (by omega)) ?_)))))
      · have := tq_le hh hn c
        omega
      · rw [hn, hu n (by omega) c]
      · by_cases g : n = pos
        · exact absurd (by rw [g]; exact hs) c
        · omega
  unfold f_X6_level fL_X6_level_L13
  rw [i_cn hi]
  refine Ep_ck (Ep_lt (fun y2 e2 => Ep_ite (fun c => ?_) (fun _ => lp 2000 0 y2 0 (by rw [e2]; exact hl) (by decide) (by omega))))
  have := tq_lt (x := y2) (y := (0 : Int32)) (a := (p : Int)) (b := 0) (by rw [e2]; exact hl) (by decide) c
  omega
theorem e_lvn {T : Tr} {x1 : Int32} {i : Nat} (hi : x1.toInt = i) (hl : (T 15 i).toInt < 0) : Ep (f_X6_level T x1) (fun q => q = -1) := by
  unfold f_X6_level
  rw [i_cn hi]
  refine Ep_ck (Ep_lt (fun y2 e2 => Ep_ite (fun _ => Ep_some rfl) (fun c => ?_)))
  have := tq_ltn (x := y2) (y := (0 : Int32)) (b := 0) (by rw [e2]) (by decide) c
  omega
/-- where a piece of both lies -/
def at2 (b : Nat) (T S : Tr) (i p pos : Nat) : Prop := (T 15 i).toInt = p ∧ p ≤ 4 ∧ T 15 i = S 54 (10 * b + i) ∧ T 17 p = S 56 (5 * b + p) ∧ (pos : Int) < (S 56 (5 * b + p)).toInt ∧ pos ≤ 9 ∧ (S 56 (5 * b + p)).toInt ≤ 10 ∧ (T 16 (10 * p + pos)).toInt = i ∧ (∀ k : Nat, (k : Int) < (S 56 (5 * b + p)).toInt → T 16 (10 * p + k) = S 55 (50 * b + 10 * p + k)) ∧ ∀ k : Nat, (k : Int) < (S 56 (5 * b + p)).toInt → (T 16 (10 * p + k)).toInt = i → k = pos
theorem at2_of {b i : Nat} {P T S : Tr} (hS : iR BM S) (hg : gS b S) (hd : pcs b T S) (hk : stk b P T S) (hi : (i : Int) < (S 0 14).toInt) (hl : 0 ≤ (S 54 (10 * b + i)).toInt) : ∃ p pos, at2 b T S i p pos := by
  have h14 : (S 0 14).toInt ≤ 10 := (hS 0 14).2
  obtain ⟨p, pos, h1, h2, h3, h4, h5, h6⟩ := wh hS hg (i := i) (by omega) hl
  obtain ⟨k1, k2, k3⟩ := hk p h1
  have e := (hd i hi).2
  have m := BM56 hS (5 * b + p)
  refine ⟨p, pos, by rw [e]; exact h2, by omega, e, k1, h3, h6, m.2, by rw [k2 pos h3]; exact h4, fun k hk => k2 k hk, fun k hk h => h5 k hk (by rw [← k2 k hk]; exact h)⟩
theorem at_lvl {b i p pos : Nat} {T S : Tr} {x1 : Int32} (h : at2 b T S i p pos) (hi : x1.toInt = i) : Ep (f_X6_level T x1) (fun q => q.toInt = pos) := by
  obtain ⟨h1, h2, h3, h4, h5, h6, h7, h8, h9, h10⟩ := h
  refine e_lvl (h := (S 56 (5 * b + p)).toInt.toNat) hi h1 h2 (by rw [h4]; omega) (by omega) (by omega) (Int32.toInt_inj.mp (h8.trans hi.symm)) (fun k hk hx => h10 k (by omega) (by rw [hx]; exact hi))
theorem at_bel {b i p pos : Nat} {T S : Tr} {xb x1 : Int32} (h : at2 b T S i p pos) (hb : xb.toNatClampNeg = b) (hxb : 0 ≤ xb.toInt ∧ xb.toInt ≤ 1) (hS : iR BM S) (hg : gS b S) (hi : x1.toInt = i) (hi9 : i ≤ 9) : Ep (f_X8_belowOf S xb x1) (fun q => q.toInt = pos) := by
  obtain ⟨h1, h2, h3, h4, h5, h6, h7, h8, h9, h10⟩ := h
  have j10 : (((10 : Int32) * xb) + x1).toNatClampNeg = 10 * b + i := by rw [jx 10 (by decide) (by omega) hxb hi (by omega), hb]
  have hly : (S 54 (((10 : Int32) * xb) + x1).toNatClampNeg).toInt = p := by rw [j10, ← h3]; exact h1
  have j5 : (((5 : Int32) * xb) + (S 54 (((10 : Int32) * xb) + x1).toNatClampNeg)).toNatClampNeg = 5 * b + p := by rw [jx 5 (by decide) (by omega) hxb hly (by omega), hb]
  refine Ep_mono (D_to (t_X8_belowOf S xb x1 hS hxb ⟨by omega, by omega⟩ (by rw [hb]; exact hg) (by omega))) (fun q hq => ?_)
  obtain ⟨q0, q1, q2⟩ := hq
  rw [j5] at q1
  obtain ⟨k, hk⟩ : ∃ k : Nat, q.toInt = k := ⟨q.toInt.toNat, by omega⟩
  rw [hb, i_cn hly, i_cn hk] at q2
  have := h10 k (by omega) (by rw [h9 k (by omega), q2]; exact hi)
  omega
theorem e_abv {b i p pos : Nat} {T S : Tr} {xb x1 : Int32} (h : at2 b T S i p pos) (hb : xb.toNatClampNeg = b) (hxb : 0 ≤ xb.toInt ∧ xb.toInt ≤ 1) (hS : iR BM S) (hg : gS b S) (hi : x1.toInt = i) (hi9 : i ≤ 9) : Ep (f_X6_above T x1) (fun q => q.toInt = (S 56 (5 * b + p)).toInt - 1 - pos) ∧ Ep (f_X8_aboveOf S xb x1) (fun q => q.toInt = (S 56 (5 * b + p)).toInt - 1 - pos) := by
  have h' := h
  obtain ⟨h1, h2, h3, h4, h5, h6, h7, h8, h9, h10⟩ := h
  constructor
  · unfold f_X6_above
    rw [i_cn hi]
    refine Ep_ck (Ep_lt (fun y2 e2 => ?_))
    have hy : y2.toInt = p := by rw [e2]; exact h1
    refine Ep_ite (fun _ => Ep_ck (Ep_bd (at_lvl h' hi) (fun r hr => Ep_some ?_))) (fun c => ?_)
    · rw [i_cn hy, h4]
      rw [i_subK (x := (S 56 (5 * b + p)).toInt - 1) (i_subK rfl (by decide) (by omega) (by omega)) hr (by omega) (by omega)]
    · have := tq_len (y := y2) (x := (0 : Int32)) (a := 0) (by decide) hy c
      omega
  · have j10 : (((10 : Int32) * xb) + x1).toNatClampNeg = 10 * b + i := by rw [jx 10 (by decide) (by omega) hxb hi (by omega), hb]
    have hly : (S 54 (10 * b + i)).toInt = p := by rw [← h3]; exact h1
    have j5 : (((5 : Int32) * xb) + (S 54 (10 * b + i))).toNatClampNeg = 5 * b + p := by rw [jx 5 (by decide) (by omega) hxb hly (by omega), hb]
    unfold f_X8_aboveOf
    rw [j10, j5]
    refine Ep_ck (Ep_ite (fun _ => Ep_ck (Ep_bd (at_bel h' hb hxb hS hg hi hi9) (fun r hr => Ep_some ?_))) (fun c => ?_))
    · rw [i_subK (x := (S 56 (5 * b + p)).toInt - 1) (i_subK rfl (by decide) (by omega) (by omega)) hr (by omega) (by omega)]
    · have := tq_len (x := (0 : Int32)) (a := 0) (by decide) hly c
      omega
theorem e_ab0 {T : Tr} {x1 : Int32} {i : Nat} (hi : x1.toInt = i) (hl : (T 15 i).toInt < 0) : Ep (f_X6_above T x1) (fun q => q = 0) := by
  unfold f_X6_above
  rw [i_cn hi]
  refine Ep_ck (Ep_lt (fun y2 e2 => Ep_ite (fun c => ?_) (fun _ => Ep_some rfl)))
  have := tq_le (x := (0 : Int32)) (y := y2) (a := 0) (by decide) (by rw [e2]) c
  omega
theorem e_ab1 {b i : Nat} {S : Tr} {xb x1 : Int32} (hb : xb.toNatClampNeg = b) (hxb : 0 ≤ xb.toInt ∧ xb.toInt ≤ 1) (hi : x1.toInt = i) (hi9 : i ≤ 9) (hl : (S 54 (10 * b + i)).toInt < 0) : Ep (f_X8_aboveOf S xb x1) (fun q => q = 0) := by
  have j10 : (((10 : Int32) * xb) + x1).toNatClampNeg = 10 * b + i := by rw [jx 10 (by decide) (by omega) hxb hi (by omega), hb]
  unfold f_X8_aboveOf
  rw [j10]
  refine Ep_ck (Ep_ite (fun c => ?_) (fun _ => Ep_some rfl))
  have := tq_le (x := (0 : Int32)) (a := 0) (by decide) rfl c
  omega
theorem e_sat {b p k : Nat} {S : Tr} {xb x2 x3 : Int32} (hb : xb.toNatClampNeg = b) (hxb : 0 ≤ xb.toInt ∧ xb.toInt ≤ 1) (hp : x2.toInt = p) (hp4 : p ≤ 4) (hk : x3.toInt = k) (hk1 : k ≤ 1000) : Ep (f_X8_stackAt S xb x2 x3) (fun q => q = S 55 (50 * b + 10 * p + k)) := by
  unfold f_X8_stackAt
  rw [jx3 hxb hp hp4 hk hk1, hb]
  exact Ep_ck (Ep_some rfl)
/-- weights -/
theorem e_wgt {b p : Nat} {P T S : Tr} {xb x2 : Int32} (hb : xb.toNatClampNeg = b) (hxb : 0 ≤ xb.toInt ∧ xb.toInt ≤ 1) (hp : x2.toInt = p) (hp4 : p ≤ 4) (hS : iR BM S) (hg : gS b S) (hP : pKi P S) (hk : stk1 b P T S p) : Ep (f_X8_weightIn S xb x2) (fun q => q = T 18 p) := by
  obtain ⟨k1, k2, k3⟩ := hk
  have m := BM56 hS (5 * b + p)
  obtain ⟨h, hh⟩ : ∃ h : Nat, (S 56 (5 * b + p)).toInt = h := ⟨(S 56 (5 * b + p)).toInt.toNat, by omega⟩
  have j5 : (((5 : Int32) * xb) + x2).toNatClampNeg = 5 * b + p := by rw [jx 5 (by decide) (by omega) hxb hp (by omega), hb]
  have lp : ∀ (N n : Nat) (x3 x4 : Int32), x3 = wsm (wgt P T p) n → x4.toInt = n → n ≤ h → Ep (lpF (fun _ _ => none) (fB_X8_weightIn_L5 S xb x2) N x3 x4) (fun q => q = T 18 p) := by
    intro N
    induction N with
    | zero => intro n x3 x4 _ _ _; exact Ep_none
    | succ N ih =>
      intro n x3 x4 h3 h4 hn
      show Ep (fB_X8_weightIn_L5 S xb x2 (lpF (fun _ _ => none) (fB_X8_weightIn_L5 S xb x2) N) x3 x4) _
      generalize lpF (fun _ _ => none) (fB_X8_weightIn_L5 S xb x2) N = k at ih ⊢
      unfold fB_X8_weightIn_L5
      rw [j5]
      refine Ep_ck (Ep_ite (fun c => Ep_some ?_) (fun c => ?_))
      · have := tq_le hh h4 c
        rw [h3, k3, k1, i_cn hh, show n = h by omega]
      · have c := tq_len hh h4 c
        refine Ep_bd (e_sat hb hxb hp hp4 h4 (by omega)) (fun r hr => Ep_ck (Ep_lt (fun y7 e7 => Ep_lt (fun y8 e8 => ih (n + 1) y7 y8 ?_ (by rw [e8]; exact i_p1 h4 (by omega)) (by omega)))))
        obtain ⟨i, i1, i2, i3, i4⟩ := sk_at hS hg (show p < 5 by omega) (show (n : Int) < (S 56 (5 * b + p)).toInt by omega)
        rw [e7, h3, hr]
        show _ = wsm (wgt P T p) n + wgt P T p n
        unfold wgt
        rw [k2 n (by omega), i_cn i2, (hP i i3).2.1]
  exact lp 2000 0 0 0 rfl (by decide) (by omega)
theorem e_room {b p i : Nat} {P T S : Tr} {xb x2 x3 : Int32} (hb : xb.toNatClampNeg = b) (hxb : 0 ≤ xb.toInt ∧ xb.toInt ≤ 1) (hp : x2.toInt = p) (hS : iR BM S) (hg : gS b S) (hP : pK P S) (hk : stk b P T S) (hpp : (p : Int) < (S 0 12).toInt) (hi : x3.toInt = i) (hii : (i : Int) < (S 0 14).toInt) : E2 (f_X6_hasRoom T P x2 x3) (f_X8_doesHold S xb x2 x3) (fun q q' => q = q' ∧ (q' = 0 ∨ q' = 1)) := by
  have h12 : (S 0 12).toInt ≤ 5 := (hS 0 12).2
  unfold f_X6_hasRoom f_X8_doesHold
  rw [i_cn hp, i_cn hi]
  obtain ⟨a1, a2⟩ := hP.2.1 p hpp
  obtain ⟨-, w1, -⟩ := hP.2.2.2.1 i hii
  refine E2_ckl (fun _ => E2_ckl (fun _ => E2_br (e_wgt hb hxb hp (by omega) hS hg hP.2.2.2.1 (hk p (by omega))) (fun r hr => E2_ckr (fun _ => E2_ckr (fun _ => ?_)))))
  rw [hr, a2, w1]
  exact E2_it Iff.rfl (fun _ _ => E2_some ⟨rfl, Or.inl rfl⟩) (fun _ _ => E2_some ⟨rfl, Or.inr rfl⟩)
-- 62.zaz.12.z3
/-! a law's value -/
def bnd (v : Int64) : Prop := -1000000000000 ≤ v.toInt ∧ v.toInt ≤ 1000000000000
theorem l_cge {x y : Int64} : (0 ≤ lg_cmp x y) ↔ y.toInt ≤ x.toInt := (lg_cmp_ge x y).trans Int64.le_iff_toInt_le
theorem l_cle {x y : Int64} : (lg_cmp x y ≤ 0) ↔ x.toInt ≤ y.toInt := (lg_cmp_le x y).trans Int64.le_iff_toInt_le
theorem l_cgt {x y : Int64} : (0 < lg_cmp x y) ↔ y.toInt < x.toInt := (lg_cmp_gt x y).trans Int64.lt_iff_toInt_lt
theorem l_clt {x y : Int64} : (lg_cmp x y < 0) ↔ x.toInt < y.toInt := (lg_cmp_lt x y).trans Int64.lt_iff_toInt_lt
theorem l_ceq {x y : Int64} : (lg_cmp x y = 0) ↔ x.toInt = y.toInt := (lg_cmp_eq x y).trans Int64.toInt_inj.symm
theorem l_bm {x : Int} (h1 : -9223372036854775808 ≤ x) (h2 : x < 9223372036854775808) : x.bmod (2 ^ 64) = x := by
  rw [Int.bmod_def]
  split <;> omega
theorem l_mx : (1000000000000 : Int64).toInt = 1000000000000 := by decide
theorem l_mn : (-1000000000000 : Int64).toInt = -1000000000000 := by decide
theorem l_ng {a : Int64} (h : bnd a) : (-a).toInt = -a.toInt := by
  rw [Int64.toInt_neg]; exact l_bm (by have := h.2; omega) (by have := h.1; omega)
theorem l_i32 (x : Int32) : x.toInt64.toInt = x.toInt := by simp
theorem bnd_i (x : Int32) : bnd x.toInt64 := by
  unfold bnd; rw [l_i32]; have := i_rng x; omega
theorem bnd_0 : bnd 0 := by unfold bnd; decide
theorem bnd_1 : bnd 1 := by unfold bnd; decide
theorem bnd_mul {a b : Int64} (ha : bnd a) (h0 : ¬ a.toInt = 0) (h : (b.toInt).natAbs * (a.toInt).natAbs ≤ 1000000000000) : bnd (a * b) := by
  have e : (a.toInt * b.toInt).natAbs ≤ 1000000000000 := by rw [Int.natAbs_mul, Nat.mul_comm]; exact h
  unfold bnd
  rw [Int64.toInt_mul, l_bm (by omega) (by omega)]
  omega
theorem bnd_div {a b : Int64} (ha : bnd a) (h0 : ¬ b.toInt = 0) : bnd (a / b) := by
  have e : (a.toInt.tdiv b.toInt).natAbs ≤ 1000000000000 := by
    rw [Int.natAbs_tdiv]
    have h1 : a.toInt.natAbs.div b.toInt.natAbs ≤ a.toInt.natAbs := Nat.div_le_self a.toInt.natAbs b.toInt.natAbs
    have h2 := ha.1
    have h3 := ha.2
    exact Nat.le_trans h1 (by omega)
  unfold bnd
  rw [Int64.toInt_div, l_bm (by omega) (by omega)]
  omega
/-- the most that may stand beside a -/
theorem l_most {a d : Int64} (hd : d.toInt = (a.toInt.natAbs : Int)) (ha : bnd a) (h0 : ¬ a.toInt = 0) : ((1000000000000 : Int64) / d).toInt = ((1000000000000 / a.toInt.natAbs : Nat) : Int) := by
  have e : (1000000000000 : Int).tdiv (a.toInt.natAbs : Int) = ((1000000000000 / a.toInt.natAbs : Nat) : Int) := by
    rw [Int.tdiv_eq_ediv_of_nonneg (by omega)]; rfl
  have k := Nat.div_le_self 1000000000000 a.toInt.natAbs
  rw [Int64.toInt_div, l_mx, hd, e]
  generalize (1000000000000 / a.toInt.natAbs : Nat) = q at k ⊢
  exact l_bm (by omega) (by omega)
theorem e_b29 (S : Tr) (v : Int64) (s0 : Int32) : Ep (fJ_X8_bounded_J29 v s0 S) (fun q => q.2 = st S 0 51 s0 ∧ (s0 = 0 → q.1 = v)) := by
  unfold fJ_X8_bounded_J29
  refine Ep_ck (Ep_lt (fun T e => Ep_ite (fun _ => Ep_some ⟨e, fun _ => rfl⟩) (fun c => Ep_some ⟨e, fun h => ?_⟩)))
  exact absurd (by rw [e, st_same]; exact h) c
theorem e_bnd (S : Tr) (v : Int64) (h : S 0 51 = 0) : Ep (f_X8_bounded S v) (fun q => o51 S q.2 ∧ ((q.2 0 51 = 0 ∧ q.1 = v ∧ bnd v) ∨ (¬ q.2 0 51 = 0 ∧ ¬ bnd v))) := by
  unfold f_X8_bounded fJ_X8_bounded_J24
  have err : ¬ bnd v → Ep (fJ_X8_bounded_J29 v 1 S) (fun q => o51 S q.2 ∧ ((q.2 0 51 = 0 ∧ q.1 = v ∧ bnd v) ∨ (¬ q.2 0 51 = 0 ∧ ¬ bnd v))) := fun n => Ep_mono (e_b29 S v 1) (fun q hq => ⟨by rw [hq.1]; exact o51_s o51_r, Or.inr ⟨by rw [hq.1, st_same]; decide, n⟩⟩)
  refine Ep_ite (fun _ => Ep_ite (fun c => err (fun hb => ?_)) (fun c => Ep_ite (fun c2 => Ep_mono (e_b29 S v 0) (fun q hq => ⟨by rw [hq.1]; exact o51_s o51_r, Or.inl ⟨by rw [hq.1, st_same], hq.2 rfl, ?_⟩⟩)) (fun c2 => err (fun hb => ?_)))) (fun c => absurd h c)
  · have c := l_cgt.mp c
    rw [l_mx] at c; have := hb.2; omega
  · have c := mt l_cgt.mpr c
    have c2 := l_cge.mp c2
    rw [l_mx] at c; rw [l_mn] at c2
    unfold bnd; omega
  · have c2 := mt l_cge.mpr c2
    rw [l_mn] at c2; have := hb.1; omega
theorem e_t69 (S : Tr) (a b : Int64) (s0 : Int32) : Ep (fJ_X8_times_J69 a b s0 S) (fun q => q.2 = st S 0 51 s0 ∧ (s0 = 0 → q.1 = a * b)) := by
  unfold fJ_X8_times_J69
  refine Ep_ck (Ep_lt (fun T e => Ep_ite (fun _ => Ep_some ⟨e, fun _ => rfl⟩) (fun c => Ep_some ⟨e, fun h => ?_⟩)))
  exact absurd (by rw [e, st_same]; exact h) c
def tmQ (S : Tr) (a b : Int64) (q : Int64 × Tr) : Prop := o51 S q.2 ∧ ((q.2 0 51 = 0 ∧ q.1 = a * b ∧ (a.toInt = 0 ∨ (b.toInt).natAbs * (a.toInt).natAbs ≤ 1000000000000)) ∨ (¬ q.2 0 51 = 0 ∧ ¬ a.toInt = 0 ∧ ¬ (b.toInt).natAbs * (a.toInt).natAbs ≤ 1000000000000))
theorem e_tms (S : Tr) (a b : Int64) (h : S 0 51 = 0) (ha : bnd a) (hb : bnd b) : Ep (f_X8_times S a b) (tmQ S a b) := by
  have j48 : (a.toInt = 0 ∨ (b.toInt).natAbs * (a.toInt).natAbs ≤ 1000000000000) → Ep (fJ_X8_times_J48 a b S) (tmQ S a b) := by
    intro z
    unfold fJ_X8_times_J48 fJ_X8_times_J49
    exact Ep_ite (fun _ => Ep_ite (fun _ => Ep_mono (e_t69 S a b 0) (fun q hq => ⟨by rw [hq.1]; exact o51_s o51_r, Or.inl ⟨by rw [hq.1, st_same], hq.2 rfl, z⟩⟩)) (fun c => absurd rfl c)) (fun c => absurd h c)
  have j64 : ¬ a.toInt = 0 → ¬ (b.toInt).natAbs * (a.toInt).natAbs ≤ 1000000000000 → Ep (fJ_X8_times_J49 a b 1 S) (tmQ S a b) := by
    intro z0 z
    unfold fJ_X8_times_J49 fJ_X8_times_J64
    exact Ep_ite (fun _ => Ep_ite (fun c => absurd c (by decide)) (fun _ => Ep_mono (e_t69 S a b 1) (fun q hq => ⟨by rw [hq.1]; exact o51_s o51_r, Or.inr ⟨by rw [hq.1, st_same]; decide, z0, z⟩⟩))) (fun c => absurd h c)
  have j39 : ¬ a.toInt = 0 → ∀ d e : Int64, d.toInt = (a.toInt.natAbs : Int) → e.toInt = (b.toInt.natAbs : Int) → Ep (fJ_X8_times_J39 a b d 1000000000000 e S) (tmQ S a b) := by
    intro z0 d e hd he
    have hp : 0 < a.toInt.natAbs := Int.natAbs_pos.mpr z0
    unfold fJ_X8_times_J39
    refine Ep_ck (Ep_ite (fun c => j48 (Or.inr ?_)) (fun c => j64 z0 (fun hz => c (l_cle.mpr ?_))))
    · have c := l_cle.mp c
      rw [l_most hd ha z0, he] at c
      exact (Nat.le_div_iff_mul_le hp).mp (by omega)
    · rw [l_most hd ha z0, he]
      have := (Nat.le_div_iff_mul_le hp).mpr hz
      omega
  have j24 : ¬ a.toInt = 0 → ∀ e : Int64, e.toInt = (b.toInt.natAbs : Int) → Ep (fJ_X8_times_J24 a b e S) (tmQ S a b) := by
    intro z0 e he
    unfold fJ_X8_times_J24
    refine Ep_ite (fun c => j39 z0 a e ?_ he) (fun c => j39 z0 (-a) e ?_ he)
    · have c := l_cge.mp c
      rw [show (0 : Int64).toInt = 0 by decide] at c
      omega
    · have c := mt l_cge.mpr c
      rw [show (0 : Int64).toInt = 0 by decide] at c
      rw [l_ng ha]; omega
  unfold f_X8_times
  have z0 : (0 : Int64).toInt = 0 := by decide
  refine Ep_ite (fun c => j48 (Or.inl ?_)) (fun c => Ep_ite (fun c2 => j48 (Or.inr ?_)) (fun c2 => Ep_ite (fun c3 => j24 ?_ b ?_) (fun c3 => j24 ?_ (-b) ?_)))
  · have c := l_ceq.mp c; rw [z0] at c; exact c
  · have c := l_ceq.mp c2; rw [z0] at c; rw [c]; simp
  · intro q; exact c (l_ceq.mpr (by rw [z0]; exact q))
  · have c := l_cge.mp c3; rw [z0] at c; omega
  · intro q; exact c (l_ceq.mpr (by rw [z0]; exact q))
  · have c := mt l_cge.mpr c3; rw [z0] at c; rw [l_ng hb]; omega
/-- a sign of the reference -/
def vop (S : Tr) (k : Int32) (y5 y8 : Int64) : Option (Int64 × Tr) :=
  if k = 3 then (if (lg_cmp y5 0) = 0 then (some (0, S)) else (if (lg_cmp y8 0) = 0 then (some (0, S)) else (some (1, S)))) else (if k = 4 then (if (lg_cmp y5 0) = 0 then (if (lg_cmp y8 0) = 0 then (some (0, S)) else (some (1, S))) else (some (1, S))) else (if k = 11 then (bd (f_X8_bounded S (y5 + y8)) fun q => lt q.1 fun r17 => lt q.2 fun S_18 => some (r17, S_18)) else (if k = 12 then (bd (f_X8_bounded S (y5 - y8)) fun q => lt q.1 fun r22 => lt q.2 fun S_23 => some (r22, S_23)) else (if k = 13 then (bd (f_X8_times S y5 y8) fun q => lt q.1 fun r27 => lt q.2 fun S_28 => some (r27, S_28)) else (if k = 14 then (if (S 0 51) = 0 then (if (lg_cmp y8 0) = 0 then (fJ_X8_valueOf_J235 (fun _ _ => 0) y5 y8 S) else (fJ_X8_valueOf_J240 (fun _ _ => 0) y5 y8 0 S)) else (fJ_X8_valueOf_J235 (fun _ _ => 0) y5 y8 S)) else (bd (f_X8_compares k y5 y8) fun r38 => if r38 = 0 then (some (0, S)) else (some (1, S))))))))
def jnQ (S : Tr) (r : Int64) (q : Int64 × Tr) : Prop := o51 S q.2 ∧ ((q.2 0 51 = 0 ∧ q.1 = r ∧ bnd r) ∨ (¬ q.2 0 51 = 0 ∧ ¬ bnd r))
theorem nbnd_mn : ¬ bnd (-9223372036854775808) := by unfold bnd; decide
theorem e_jm (S : Tr) (a b : Int64) (h : S 0 51 = 0) (ha : bnd a) (hb : bnd b) : E2 (if (lg_cmp a 0) = 0 then (some (0 : Int64)) else (if 0 ≤ (lg_cmp a 0) then (fJ_X1_joined_J231 a b a 1000000000000) else (fJ_X1_joined_J231 a b (-a) 1000000000000))) (f_X8_times S a b) (jnQ S) := by
  have z0 : (0 : Int64).toInt = 0 := by decide
  have j : ¬ a.toInt = 0 → ∀ d : Int64, d.toInt = (a.toInt.natAbs : Int) → Ep (fJ_X1_joined_J231 a b d 1000000000000) (fun r => ((b.toInt).natAbs * (a.toInt).natAbs ≤ 1000000000000 ∧ r = a * b) ∨ (¬ (b.toInt).natAbs * (a.toInt).natAbs ≤ 1000000000000 ∧ r = -9223372036854775808)) := by
    intro n0 d hd
    have hp : 0 < a.toInt.natAbs := Int.natAbs_pos.mpr n0
    have hm := l_most hd ha n0
    have kl := Nat.div_le_self 1000000000000 a.toInt.natAbs
    have le : (b.toInt).natAbs * (a.toInt).natAbs ≤ 1000000000000 ↔ (b.toInt).natAbs ≤ 1000000000000 / a.toInt.natAbs := (Nat.le_div_iff_mul_le hp).symm
    generalize (1000000000000 / a.toInt.natAbs : Nat) = w at hm kl le
    unfold fJ_X1_joined_J231
    refine Ep_ck (Ep_lt (fun y e => ?_))
    rw [← e] at hm
    have hy : bnd y := by unfold bnd; omega
    refine Ep_ite (fun c => Ep_some (Or.inr ⟨fun q => ?_, rfl⟩)) (fun c => Ep_ite (fun c2 => Ep_some (Or.inl ⟨le.mpr ?_, rfl⟩)) (fun c2 => Ep_some (Or.inr ⟨fun q => ?_, rfl⟩)))
    · have c := l_cgt.mp c
      have q := le.mp q
      omega
    · have c := mt l_cgt.mpr c
      have c2 := l_cge.mp c2
      rw [l_ng hy] at c2
      omega
    · have c2 := mt l_cge.mpr c2
      rw [l_ng hy] at c2
      have q := le.mp q
      omega
  have fin : ¬ a.toInt = 0 → ∀ d : Int64, d.toInt = (a.toInt.natAbs : Int) → E2 (fJ_X1_joined_J231 a b d 1000000000000) (f_X8_times S a b) (jnQ S) := by
    intro n0 d hd
    refine E2_ep (j n0 d hd) (e_tms S a b h ha hb) (fun r q hr hq => ⟨hq.1, ?_⟩)
    rcases hr with ⟨r1, r2⟩ | ⟨r1, r2⟩
    · rcases hq.2 with ⟨q1, q2, q3⟩ | ⟨q1, q2, q3⟩
      · exact Or.inl ⟨q1, by rw [q2, r2], by rw [r2]; exact bnd_mul ha n0 r1⟩
      · exact absurd r1 q3
    · rcases hq.2 with ⟨q1, q2, q3⟩ | ⟨q1, q2, q3⟩
      · rcases q3 with q3 | q3
        · exact absurd q3 n0
        · exact absurd q3 r1
      · exact Or.inr ⟨q1, by rw [r2]; exact nbnd_mn⟩
  refine E2_itl (fun c => ?_) (fun c => E2_itl (fun c2 => fin (fun q => c (l_ceq.mpr (by rw [z0]; exact q))) a ?_) (fun c2 => fin (fun q => c (l_ceq.mpr (by rw [z0]; exact q))) (-a) ?_))
  · have c := l_ceq.mp c
    rw [z0] at c
    refine fun r q er eq_ => ?_
    have hq := e_tms S a b h ha hb q eq_
    have er := tx_1 er
    have ea : a = 0 := Int64.toInt_inj.mp (by rw [z0]; exact c)
    refine ⟨hq.1, ?_⟩
    rcases hq.2 with ⟨q1, q2, q3⟩ | ⟨q1, q2, q3⟩
    · exact Or.inl ⟨q1, by rw [q2, ← er, ea]; simp, by rw [← er]; exact bnd_0⟩
    · exact absurd c q2
  · have c2 := l_cge.mp c2
    rw [z0] at c2
    omega
  · have c2 := mt l_cge.mpr c2
    rw [z0] at c2
    rw [l_ng ha]; omega
theorem e_v240 (S : Tr) (a b : Int64) (L : Lo) (s0 : Int32) : Ep (fJ_X8_valueOf_J240 L a b s0 S) (fun q => q.2 = st S 0 51 s0 ∧ (s0 = 0 → q.1 = a / b)) := by
  unfold fJ_X8_valueOf_J240
  refine Ep_ck (Ep_lt (fun T e => Ep_ite (fun _ => Ep_ck (Ep_some ⟨e, fun _ => rfl⟩)) (fun c => Ep_some ⟨e, fun h => ?_⟩)))
  exact absurd (by rw [e, st_same]; exact h) c
theorem e_jd (S : Tr) (L : Lo) (a b : Int64) (h : S 0 51 = 0) (ha : bnd a) : E2 (if (lg_cmp b 0) = 0 then (some (-9223372036854775808 : Int64)) else (ck (!(b == 0)) (some (a / b)))) (if (S 0 51) = 0 then (if (lg_cmp b 0) = 0 then (fJ_X8_valueOf_J235 L a b S) else (fJ_X8_valueOf_J240 L a b 0 S)) else (fJ_X8_valueOf_J235 L a b S)) (jnQ S) := by
  refine E2_pr h (E2_it Iff.rfl (fun _ _ => ?_) (fun c _ => E2_ckl (fun _ => ?_)))
  · unfold fJ_X8_valueOf_J235
    exact fun r q er eq_ => by
      have hq := e_v240 S a b L 1 q eq_
      have er := tx_1 er
      exact ⟨by rw [hq.1]; exact o51_s o51_r, Or.inr ⟨by rw [hq.1, st_same]; decide, by rw [← er]; exact nbnd_mn⟩⟩
  · exact fun r q er eq_ => by
      have hq := e_v240 S a b L 0 q eq_
      have er := tx_1 er
      exact ⟨by rw [hq.1]; exact o51_s o51_r, Or.inl ⟨by rw [hq.1, st_same], by rw [hq.2 rfl, er], by rw [← er]; exact bnd_div ha (fun q => c (l_ceq.mpr (by rw [show (0 : Int64).toInt = 0 by decide]; exact q)))⟩⟩
theorem jn_01 {S : Tr} {c : Prop} {d : Decidable c} (h : S 0 51 = 0) (v w : Int64) (hv : bnd v) (hw : bnd w) : E2 (@ite (Option Int64) c d (some v) (some w)) (@ite (Option (Int64 × Tr)) c d (some (v, S)) (some (w, S))) (jnQ S) := E2_it Iff.rfl (fun _ _ => E2_some ⟨o51_r, Or.inl ⟨h, rfl, hv⟩⟩) (fun _ _ => E2_some ⟨o51_r, Or.inl ⟨h, rfl, hw⟩⟩)
theorem jn_c {S : Tr} {c : Prop} {d : Decidable c} {y : Option Int32} (h : S 0 51 = 0) (u0 u1 : Int64) (v0 v1 : Int32) (hy : y = @ite (Option Int32) c d (some v0) (some v1)) (z0 : (if v0 = 0 then (0 : Int64) else 1) = u0) (z1 : (if v1 = 0 then (0 : Int64) else 1) = u1) (hu0 : bnd u0) (hu1 : bnd u1) : E2 (@ite (Option Int64) c d (some u0) (some u1)) (bd y fun r38 => if r38 = 0 then (some ((0 : Int64), S)) else (some (1, S))) (jnQ S) := by
  have one : ∀ v : Int32, (if v = 0 then (some ((0 : Int64), S)) else (some (1, S))) = some ((if v = 0 then (0 : Int64) else 1), S) := fun v => by split <;> rfl
  rw [hy]
  by_cases hc : c
  · rw [if_pos hc, if_pos hc, bd_some, one, z0]
    exact E2_some ⟨o51_r, Or.inl ⟨h, rfl, hu0⟩⟩
  · rw [if_neg hc, if_neg hc, bd_some, one, z1]
    exact E2_some ⟨o51_r, Or.inl ⟨h, rfl, hu1⟩⟩
theorem jn_b {S : Tr} {v : Int64} {x : Int64 × Tr → Option (Int64 × Tr)} (h : S 0 51 = 0) (hx : ∀ q, x q = some q) {y : Option (Int64 × Tr)} (hy : Ep y (fun q => o51 S q.2 ∧ ((q.2 0 51 = 0 ∧ q.1 = v ∧ bnd v) ∨ (¬ q.2 0 51 = 0 ∧ ¬ bnd v)))) : E2 (some v) (bd y x) (jnQ S) := fun r q er eq_ => by
  obtain ⟨q1, e1, e2⟩ := tx_bd eq_
  rw [hx] at e2
  have e2 := tx_1 e2
  have er := tx_1 er
  subst e2; subst er
  exact hy q1 e1
theorem e_jn {S : Tr} {c k : Int32} {a b : Int64} (hs : sg2 c.toInt k.toInt) (h3 : 3 ≤ k.toInt) (ha : bnd a) (hb : bnd b) (h : S 0 51 = 0) : E2 (f_X1_joined c a b) (vop S k a b) (jnQ S) := by
  have cs : (c = 20 ∧ k = 3) ∨ (c = 19 ∧ k = 4) ∨ (c = 29 ∧ k = 5) ∨ (c = 30 ∧ k = 6) ∨ (c = 31 ∧ k = 7) ∨ (c = 32 ∧ k = 8) ∨ (c = 33 ∧ k = 9) ∨ (c = 34 ∧ k = 10) ∨ (c = 35 ∧ k = 11) ∨ (c = 36 ∧ k = 12) ∨ (c = 37 ∧ k = 13) ∨ (c = 38 ∧ k = 14) := by
    have z : ∀ (x : Int32) (y : Int32), x.toInt = y.toInt → x = y := fun x y e => Int32.toInt_inj.mp e
    rcases hs with ⟨u1, u2⟩ | ⟨u1, u2⟩ | ⟨u1, u2⟩ | ⟨u1, u2⟩ | ⟨u1, u2, u3⟩
    · omega
    · omega
    · exact Or.inl ⟨z _ _ u1, z _ _ u2⟩
    · exact Or.inr (Or.inl ⟨z _ _ u1, z _ _ u2⟩)
    · rcases (by omega : c.toInt = 29 ∨ c.toInt = 30 ∨ c.toInt = 31 ∨ c.toInt = 32 ∨ c.toInt = 33 ∨ c.toInt = 34 ∨ c.toInt = 35 ∨ c.toInt = 36 ∨ c.toInt = 37 ∨ c.toInt = 38) with u | u | u | u | u | u | u | u | u | u
      · exact Or.inr (Or.inr (Or.inl ⟨z _ _ u, z _ 5 (by rw [u3, u]; decide)⟩))
      · exact Or.inr (Or.inr (Or.inr (Or.inl ⟨z _ _ u, z _ 6 (by rw [u3, u]; decide)⟩)))
      · exact Or.inr (Or.inr (Or.inr (Or.inr (Or.inl ⟨z _ _ u, z _ 7 (by rw [u3, u]; decide)⟩))))
      · exact Or.inr (Or.inr (Or.inr (Or.inr (Or.inr (Or.inl ⟨z _ _ u, z _ 8 (by rw [u3, u]; decide)⟩)))))
      · exact Or.inr (Or.inr (Or.inr (Or.inr (Or.inr (Or.inr (Or.inl ⟨z _ _ u, z _ 9 (by rw [u3, u]; decide)⟩))))))
      · exact Or.inr (Or.inr (Or.inr (Or.inr (Or.inr (Or.inr (Or.inr (Or.inl ⟨z _ _ u, z _ 10 (by rw [u3, u]; decide)⟩)))))))
      · exact Or.inr (Or.inr (Or.inr (Or.inr (Or.inr (Or.inr (Or.inr (Or.inr (Or.inl ⟨z _ _ u, z _ 11 (by rw [u3, u]; decide)⟩))))))))
      · exact Or.inr (Or.inr (Or.inr (Or.inr (Or.inr (Or.inr (Or.inr (Or.inr (Or.inr (Or.inl ⟨z _ _ u, z _ 12 (by rw [u3, u]; decide)⟩)))))))))
      · exact Or.inr (Or.inr (Or.inr (Or.inr (Or.inr (Or.inr (Or.inr (Or.inr (Or.inr (Or.inr (Or.inl ⟨z _ _ u, z _ 13 (by rw [u3, u]; decide)⟩))))))))))
      · exact Or.inr (Or.inr (Or.inr (Or.inr (Or.inr (Or.inr (Or.inr (Or.inr (Or.inr (Or.inr (Or.inr ⟨z _ _ u, z _ 14 (by rw [u3, u]; decide)⟩))))))))))
  have q2 : ∀ q : Int64 × Tr, (lt q.1 fun r17 => lt q.2 fun S_18 => some (r17, S_18)) = some q := fun _ => rfl
  unfold f_X1_joined vop
  rcases cs with ⟨rfl, rfl⟩ | ⟨rfl, rfl⟩ | ⟨rfl, rfl⟩ | ⟨rfl, rfl⟩ | ⟨rfl, rfl⟩ | ⟨rfl, rfl⟩ | ⟨rfl, rfl⟩ | ⟨rfl, rfl⟩ | ⟨rfl, rfl⟩ | ⟨rfl, rfl⟩ | ⟨rfl, rfl⟩ | ⟨rfl, rfl⟩
  · refine E2_ql (by decide) (E2_pl (by decide) (E2_pr (by decide) (E2_it Iff.rfl (fun _ _ => E2_some ⟨o51_r, Or.inl ⟨h, rfl, bnd_0⟩⟩) (fun _ _ => jn_01 h 0 1 bnd_0 bnd_1))))
  · refine E2_pl (by decide) (E2_qr (by decide) (E2_pr (by decide) (E2_it Iff.rfl (fun _ _ => jn_01 h 0 1 bnd_0 bnd_1) (fun _ _ => E2_some ⟨o51_r, Or.inl ⟨h, rfl, bnd_1⟩⟩))))
  · refine E2_ql (by decide) (E2_ql (by decide) (E2_pl (by decide) (E2_qr (by decide) (E2_qr (by decide) (E2_qr (by decide) (E2_qr (by decide) (E2_qr (by decide) (E2_qr (by decide) (jn_c h 0 1 0 1 rfl rfl rfl bnd_0 bnd_1)))))))))
  · refine E2_ql (by decide) (E2_ql (by decide) (E2_ql (by decide) (E2_pl (by decide) (E2_qr (by decide) (E2_qr (by decide) (E2_qr (by decide) (E2_qr (by decide) (E2_qr (by decide) (E2_qr (by decide) (jn_c h 0 1 0 1 rfl rfl rfl bnd_0 bnd_1))))))))))
  · refine E2_ql (by decide) (E2_ql (by decide) (E2_ql (by decide) (E2_ql (by decide) (E2_pl (by decide) (E2_qr (by decide) (E2_qr (by decide) (E2_qr (by decide) (E2_qr (by decide) (E2_qr (by decide) (E2_qr (by decide) (jn_c h 1 0 1 0 rfl rfl rfl bnd_1 bnd_0)))))))))))
  · refine E2_ql (by decide) (E2_ql (by decide) (E2_ql (by decide) (E2_ql (by decide) (E2_ql (by decide) (E2_pl (by decide) (E2_qr (by decide) (E2_qr (by decide) (E2_qr (by decide) (E2_qr (by decide) (E2_qr (by decide) (E2_qr (by decide) (jn_c h 0 1 0 1 rfl rfl rfl bnd_0 bnd_1))))))))))))
  · refine E2_ql (by decide) (E2_ql (by decide) (E2_ql (by decide) (E2_ql (by decide) (E2_ql (by decide) (E2_ql (by decide) (E2_pl (by decide) (E2_qr (by decide) (E2_qr (by decide) (E2_qr (by decide) (E2_qr (by decide) (E2_qr (by decide) (E2_qr (by decide) (jn_c h 0 1 0 1 rfl rfl rfl bnd_0 bnd_1)))))))))))))
  · refine E2_ql (by decide) (E2_ql (by decide) (E2_ql (by decide) (E2_ql (by decide) (E2_ql (by decide) (E2_ql (by decide) (E2_ql (by decide) (E2_pl (by decide) (E2_qr (by decide) (E2_qr (by decide) (E2_qr (by decide) (E2_qr (by decide) (E2_qr (by decide) (E2_qr (by decide) (jn_c h 0 1 0 1 rfl rfl rfl bnd_0 bnd_1))))))))))))))
  · refine E2_ql (by decide) (E2_ql (by decide) (E2_ql (by decide) (E2_ql (by decide) (E2_ql (by decide) (E2_ql (by decide) (E2_ql (by decide) (E2_ql (by decide) (E2_pl (by decide) (E2_qr (by decide) (E2_qr (by decide) (E2_pr (by decide) (jn_b h q2 (e_bnd S (a + b) h)))))))))))))
  · refine E2_ql (by decide) (E2_ql (by decide) (E2_ql (by decide) (E2_ql (by decide) (E2_ql (by decide) (E2_ql (by decide) (E2_ql (by decide) (E2_ql (by decide) (E2_ql (by decide) (E2_pl (by decide) (E2_qr (by decide) (E2_qr (by decide) (E2_qr (by decide) (E2_pr (by decide) (jn_b h q2 (e_bnd S (a - b) h)))))))))))))))
  · refine E2_ql (by decide) (E2_ql (by decide) (E2_ql (by decide) (E2_ql (by decide) (E2_ql (by decide) (E2_ql (by decide) (E2_ql (by decide) (E2_ql (by decide) (E2_ql (by decide) (E2_ql (by decide) (E2_pl (by decide) (E2_qr (by decide) (E2_qr (by decide) (E2_qr (by decide) (E2_qr (by decide) (E2_pr (by decide) ?_)))))))))))))))
    exact fun r q er eq_ => by
      obtain ⟨q1, e1, e2⟩ := tx_bd eq_
      rw [q2] at e2
      have e2 := tx_1 e2
      subst e2
      exact e_jm S a b h ha hb r q1 er e1
  · refine E2_ql (by decide) (E2_ql (by decide) (E2_ql (by decide) (E2_ql (by decide) (E2_ql (by decide) (E2_ql (by decide) (E2_ql (by decide) (E2_ql (by decide) (E2_ql (by decide) (E2_ql (by decide) (E2_ql (by decide) (E2_qr (by decide) (E2_qr (by decide) (E2_qr (by decide) (E2_qr (by decide) (E2_qr (by decide) (E2_pr (by decide) (e_jd S _ a b h ha)))))))))))))))))
-- 62.zaz.13.z4
/-! a law worked out: knots one by one -/
theorem hs_lt {g : Nat → Int32} : ∀ {n : Nat}, ∀ a, a ∈ hs g n → a < n
  | 0, a, h => by cases h
  | n + 1, a, h => by
    have ih := @hs_lt g n
    unfold hs at h
    have c1 : ∀ l, (∀ x, x ∈ l → x < n + 1) → a ∈ n :: l → a < n + 1 := fun l hl q => by
      rcases List.mem_cons.mp q with e | e
      · omega
      · exact hl a e
    cases hc : (decide ((g n).toInt < 10000) || decide (10022 ≤ (g n).toInt ∧ (g n).toInt ≤ 10028)) with
    | true =>
      rw [hc] at h
      exact c1 _ (fun x hx => by have := ih x hx; omega) h
    | false =>
      rw [hc] at h
      cases hc2 : decide ((g n).toInt = 10021) with
      | true =>
        rw [hc2] at h
        exact c1 _ (fun x hx => by have := ih x (List.mem_of_mem_drop hx); omega) h
      | false =>
        rw [hc2] at h
        exact c1 _ (fun x hx => by have := ih x (List.mem_of_mem_drop hx); omega) h
theorem hs_len {g : Nat → Int32} : ∀ {n : Nat}, (hs g n).length ≤ n
  | 0 => Nat.le_refl _
  | n + 1 => by
    have ih := @hs_len g n
    unfold hs
    cases (decide ((g n).toInt < 10000) || decide (10022 ≤ (g n).toInt ∧ (g n).toInt ≤ 10028)) with
    | true => simp only [cond_true, List.length_cons]; omega
    | false =>
      cases decide ((g n).toInt = 10021) with
      | true => simp only [cond_true, cond_false, List.length_cons, List.length_drop]; omega
      | false => simp only [cond_false, List.length_cons, List.length_drop]; omega
/-- the class's stack holds what the reference has worked out -/
def vst (u v : Nat → Int64) (f : Nat) : List Nat → Prop
  | [] => True
  | a :: r => u r.length = v (f + a) ∧ bnd (v (f + a)) ∧ vst u v f r
theorem vst_cg {u v u' v' : Nat → Int64} {f : Nat} : ∀ {l : List Nat}, vst u v f l → (∀ i, i < l.length → u' i = u i) → (∀ a, a ∈ l → v' (f + a) = v (f + a)) → vst u' v' f l
  | [], _, _, _ => trivial
  | a :: r, h, h1, h2 => by
    obtain ⟨a1, a2, a3⟩ := h
    refine ⟨?_, ?_, vst_cg a3 (fun i hi => h1 i (by simp only [List.length_cons]; omega)) (fun x hx => h2 x (List.mem_cons_of_mem _ hx))⟩
    · rw [h1 _ (by simp only [List.length_cons]; omega), h2 a List.mem_cons_self]; exact a1
    · rw [h2 a List.mem_cons_self]; exact a2
def lfC (c : Int) : Prop := (0 ≤ c ∧ c < 10000) ∨ (10022 ≤ c ∧ c ≤ 10028)
theorem hs_leaf {g : Nat → Int32} {n : Nat} (h : lfC (g n).toInt) : hs g (n + 1) = n :: hs g n := by
  show (bif decide ((g n).toInt < 10000) || decide (10022 ≤ (g n).toInt ∧ (g n).toInt ≤ 10028) then n :: hs g n else _) = _
  have : (decide ((g n).toInt < 10000) || decide (10022 ≤ (g n).toInt ∧ (g n).toInt ≤ 10028)) = true := by
    rcases h with h | h
    · simp [show (g n).toInt < 10000 by omega]
    · simp [show 10022 ≤ (g n).toInt ∧ (g n).toInt ≤ 10028 by omega]
  rw [this]; rfl
theorem hs_not {g : Nat → Int32} {n : Nat} (h : (g n).toInt = 10021) : hs g (n + 1) = n :: (hs g n).drop 1 := by
  show (bif decide ((g n).toInt < 10000) || decide (10022 ≤ (g n).toInt ∧ (g n).toInt ≤ 10028) then n :: hs g n else bif decide ((g n).toInt = 10021) then n :: (hs g n).drop 1 else _) = _
  rw [h]; rfl
theorem hs_two {g : Nat → Int32} {n : Nat} (h : ¬ lfC (g n).toInt) (h0 : 0 ≤ (g n).toInt) (h1 : ¬ (g n).toInt = 10021) : hs g (n + 1) = n :: (hs g n).drop 2 := by
  show (bif decide ((g n).toInt < 10000) || decide (10022 ≤ (g n).toInt ∧ (g n).toInt ≤ 10028) then n :: hs g n else bif decide ((g n).toInt = 10021) then n :: (hs g n).drop 1 else n :: (hs g n).drop 2) = _
  have e1 : (decide ((g n).toInt < 10000) || decide (10022 ≤ (g n).toInt ∧ (g n).toInt ≤ 10028)) = false := by
    unfold lfC at h
    simp only [Bool.or_eq_false_iff, decide_eq_false_iff_not]
    omega
  have e2 : decide ((g n).toInt = 10021) = false := by simp [h1]
  rw [e1, e2]; rfl
/-! the reference: what is wrong stays wrong; what else stays -/
def oE (S : Tr) (q : Int64 × Tr) : Prop := o51 S q.2 ∧ (¬ S 0 51 = 0 → ¬ q.2 0 51 = 0)
theorem fr_b (S : Tr) (v : Int64) : Ep (f_X8_bounded S v) (oE S) := by
  have j : ∀ s0, (¬ S 0 51 = 0 → ¬ s0 = 0) → (s0 = 0 ∨ s0 = 1) → Ep (fJ_X8_bounded_J29 v s0 S) (oE S) := fun s0 h hs => Ep_mono (e_b29 S v s0) (fun q hq => ⟨by rw [hq.1]; exact o51_s o51_r hs, fun n => by rw [hq.1, st_same]; exact h n⟩)
  unfold f_X8_bounded fJ_X8_bounded_J24
  exact Ep_ite (fun c => Ep_ite (fun _ => j 1 (fun _ => by decide) (Or.inr rfl)) (fun _ => Ep_ite (fun _ => j 0 (fun n => absurd c n) (Or.inl rfl)) (fun _ => j 1 (fun _ => by decide) (Or.inr rfl)))) (fun _ => j 1 (fun _ => by decide) (Or.inr rfl))
theorem fr_t (S : Tr) (a b : Int64) : Ep (f_X8_times S a b) (oE S) := by
  have j : ∀ s0, (¬ S 0 51 = 0 → ¬ s0 = 0) → (s0 = 0 ∨ s0 = 1) → Ep (fJ_X8_times_J69 a b s0 S) (oE S) := fun s0 h hs => Ep_mono (e_t69 S a b s0) (fun q hq => ⟨by rw [hq.1]; exact o51_s o51_r hs, fun n => by rw [hq.1, st_same]; exact h n⟩)
  have j64 : Ep (fJ_X8_times_J64 a b S) (oE S) := by unfold fJ_X8_times_J64; exact j 1 (fun _ => by decide) (Or.inr rfl)
  have j49 : ∀ s0, Ep (fJ_X8_times_J49 a b s0 S) (oE S) := fun s0 => by
    unfold fJ_X8_times_J49
    exact Ep_ite (fun c => Ep_ite (fun _ => j 0 (fun n => absurd c n) (Or.inl rfl)) (fun _ => j64)) (fun _ => j64)
  have j48 : Ep (fJ_X8_times_J48 a b S) (oE S) := by unfold fJ_X8_times_J48; exact j49 0
  have j24 : ∀ s0, Ep (fJ_X8_times_J24 a b s0 S) (oE S) := fun s0 => by
    unfold fJ_X8_times_J24 fJ_X8_times_J39
    exact Ep_ite (fun _ => Ep_ck (Ep_ite (fun _ => j48) (fun _ => j49 1))) (fun _ => Ep_ck (Ep_ite (fun _ => j48) (fun _ => j49 1)))
  unfold f_X8_times
  exact Ep_ite (fun _ => j48) (fun _ => Ep_ite (fun _ => j48) (fun _ => Ep_ite (fun _ => j24 _) (fun _ => j24 _)))
theorem fr_v (S : Tr) (L : Lo) (x : Int32) : Ep (f_X8_valueOf S L x) (oE S) := by
  have nop : ∀ v : Int64, Ep (some (v, S)) (oE S) := fun v => Ep_some ⟨o51_r, fun h => h⟩
  have j240 : ∀ a b s0, (¬ S 0 51 = 0 → ¬ s0 = 0) → (s0 = 0 ∨ s0 = 1) → Ep (fJ_X8_valueOf_J240 L a b s0 S) (oE S) := fun a b s0 h hs => Ep_mono (e_v240 S a b L s0) (fun q hq => ⟨by rw [hq.1]; exact o51_s o51_r hs, fun n => by rw [hq.1, st_same]; exact h n⟩)
  have j235 : ∀ a b, Ep (fJ_X8_valueOf_J235 L a b S) (oE S) := fun a b => by unfold fJ_X8_valueOf_J235; exact j240 a b 1 (fun _ => by decide) (Or.inr rfl)
  have thru : ∀ y : Option (Int64 × Tr), Ep y (oE S) → Ep (bd y fun q => lt q.1 fun r17 => lt q.2 fun S_18 => some (r17, S_18)) (oE S) := fun y hy => Ep_bd hy (fun q hq => Ep_some hq)
  unfold f_X8_valueOf
  exact Ep_ck (Ep_ite (fun _ => nop _) (fun _ => Ep_ite (fun _ => Ep_ck (nop _)) (fun _ => Ep_ck (Ep_lt (fun y5 _ => Ep_ite (fun _ => Ep_ite (fun _ => nop _) (fun _ => nop _)) (fun _ => Ep_ck (Ep_lt (fun y8 _ => Ep_lt (fun y9 _ => Ep_ite (fun _ => Ep_ite (fun _ => nop _) (fun _ => Ep_ite (fun _ => nop _) (fun _ => nop _))) (fun _ => Ep_ite (fun _ => Ep_ite (fun _ => Ep_ite (fun _ => nop _) (fun _ => nop _)) (fun _ => nop _)) (fun _ => Ep_ite (fun _ => thru _ (fr_b S _)) (fun _ => Ep_ite (fun _ => thru _ (fr_b S _)) (fun _ => Ep_ite (fun _ => thru _ (fr_t S _ _)) (fun _ => Ep_ite (fun _ => Ep_ite (fun c => Ep_ite (fun _ => j235 _ _) (fun _ => j240 _ _ 0 (fun n => absurd c n) (Or.inl rfl))) (fun _ => j235 _ _)) (fun _ => Ep_any (fun r => Ep_ite (fun _ => nop _) (fun _ => nop _)))))))))))))))))
theorem fr_loop (S0 : Tr) (L0 : Lo) (x1 : Int32) (N : Nat) : ∀ (x2 : Int32) (S : Tr) (L : Lo), o51 S0 S → oL L0 L → Ep (lpF (fun _ _ _ => none) (fB_X8_lawOf_L12 x1) N x2 S L) (fun q => o51 S0 q.2.1 ∧ oL L0 q.2.2 ∧ (¬ S 0 51 = 0 → ¬ q.2.1 0 51 = 0)) := by
  induction N with
  | zero => intro x2 S L _ _; exact Ep_none
  | succ N ih =>
    intro x2 S L h1 h2
    show Ep (fB_X8_lawOf_L12 x1 (lpF (fun _ _ _ => none) (fB_X8_lawOf_L12 x1) N) x2 S L) _
    generalize lpF (fun _ _ _ => none) (fB_X8_lawOf_L12 x1) N = k at ih ⊢
    unfold fB_X8_lawOf_L12 fJ_X8_lawOf_J39
    refine Ep_ck (Ep_ite (fun _ => Ep_ite (fun _ => Ep_ck (Ep_ck (Ep_some ⟨h1, h2, fun h => h⟩))) (fun _ => Ep_some ⟨h1, h2, fun h => h⟩)) (fun _ => Ep_bd (fr_v S L x2) (fun q hq => Ep_lt (fun r9 _ => Ep_lt (fun S1 e1 => Ep_ck (Ep_lt (fun L1 e2 => Ep_lt (fun y _ => Ep_mono (ih y S1 L1 (by rw [e1]; exact o51_t h1 hq.1) (by rw [e2]; exact oL_s h2 (by omega))) (fun q' hq' => ⟨hq'.1, hq'.2.1, fun n => hq'.2.2 (by rw [e1]; exact hq.2 n)⟩)))))))))
theorem fr_law (S : Tr) (L : Lo) (x1 : Int32) : Ep (f_X8_lawOf S L x1) (fun q => o51 S q.2.1 ∧ oL L q.2.2) := by
  unfold f_X8_lawOf
  refine Ep_lt (fun S1 e1 => Ep_ck (Ep_lt (fun y _ => Ep_mono (fr_loop S L x1 2000 y S1 L (by rw [e1]; exact o51_s o51_r) oL_r) (fun q hq => ⟨hq.1, hq.2.1⟩))))
/-! side by side -/
def vlQ (q : Int64 × Lo) (q' : Int64 × Tr × Lo) : Prop := (q.1 = -9223372036854775808 ∧ ¬ q'.2.1 0 51 = 0) ∨ (q'.2.1 0 51 = 0 ∧ q.1 = q'.1 ∧ bnd q.1)
theorem e_vbin {S : Tr} {L : Lo} {x k : Int32} {m a b : Nat} (hx : x.toInt = m) (hk : S 39 m = k) (h3 : 3 ≤ k.toInt) (ha : (S 40 m).toInt = a) (hb : (S 41 m).toInt = b) {y : Option Int64} {Q : Int64 → Int64 × Tr → Prop} (h : E2 y (vop S k (L 51 a) (L 51 b)) Q) : E2 y (f_X8_valueOf S L x) Q := by
  have n0 : ¬ k = 0 := fun e => by rw [e] at h3; exact absurd h3 (by decide)
  have n1 : ¬ k = 1 := fun e => by rw [e] at h3; exact absurd h3 (by decide)
  have n2 : ¬ k = 2 := fun e => by rw [e] at h3; exact absurd h3 (by decide)
  unfold f_X8_valueOf
  rw [i_cn hx, hk, i_cn ha, i_cn hb]
  refine E2_ckr (fun _ => E2_qr n0 (E2_qr n1 (E2_ckr (fun _ => E2_ltr (fun y5 e5 => E2_qr n2 (E2_ckr (fun _ => E2_ltr (fun y8 e8 => E2_ltr (fun y9 e9 => ?_)))))))))
  rw [e5, e8, e9]
  exact h
theorem e_val {T P S : Tr} {L : Lo} {x1 : Int32} {j f s : Nat} (hx1 : x1.toInt = j) (hs1 : 1 ≤ s) (hsz : (P (30 + 3 * j) 1).toInt = s) (hl : (S 38 j).toInt = f + s) (hf : (S 37 j).toInt = f) (hfs : f + s ≤ 64) (hlen : (hs (P (31 + 3 * j)) s).length = 1) (hnd : ∀ i, i < s → nd (P (31 + 3 * j)) (S 39) (S 40) (S 41) f i) (hn : ∀ m : Nat, m ≤ 6 → L 50 m = (T 19 m).toInt64) (Lc : Lo) : E2 (f_X1_value j T P Lc) (f_X8_lawOf S L x1) vlQ := by
  have lp : ∀ (N M n : Nat) (x2 x3 y2 : Int32) (Lc : Lo) (S1 : Tr) (L1 : Lo), x3.toInt = n → x2.toInt = (hs (P (31 + 3 * j)) n).length → y2.toInt = f + n → n ≤ s → o51 S S1 → S1 0 51 = 0 → oL L L1 → L1 50 = L 50 → vst (Lc (32 + 3 * j)) (L1 51) f (hs (P (31 + 3 * j)) n) → E2 (lpF (fun _ _ _ => none) (fB_X1_value_L4 j T P) N x2 x3 Lc) (lpF (fun _ _ _ => none) (fB_X8_lawOf_L12 x1) M y2 S1 L1) vlQ := by
    intro N
    induction N with
    | zero => intro M n x2 x3 y2 Lc S1 L1 _ _ _ _ _ _ _ _ _; exact E2_nl
    | succ N ih =>
      intro M n x2 x3 y2 Lc S1 L1 hx3 hx2 hy2 hns ho h51 hoL hL50 hv
      cases M with
      | zero => exact E2_nr
      | succ M =>
        show E2 (fB_X1_value_L4 j T P (lpF (fun _ _ _ => none) (fB_X1_value_L4 j T P) N) x2 x3 Lc) (fB_X8_lawOf_L12 x1 (lpF (fun _ _ _ => none) (fB_X8_lawOf_L12 x1) M) y2 S1 L1) vlQ
        have ih := fun n x2 x3 y2 Lc S1 L1 => ih M n x2 x3 y2 Lc S1 L1
        have err : ∀ (y : Int32) (S2 : Tr) (L2 : Lo) (z : Lo), ¬ S2 0 51 = 0 → E2 (some ((-9223372036854775808 : Int64), z)) (lpF (fun _ _ _ => none) (fB_X8_lawOf_L12 x1) M y S2 L2) vlQ := fun y S2 L2 z h => fun q q' e e' => by
          have e := tx_1 e
          exact Or.inl ⟨by rw [← e], (fr_loop S2 L2 x1 M y S2 L2 o51_r oL_r q' e').2.2 h⟩
        generalize lpF (fun _ _ _ => none) (fB_X1_value_L4 j T P) N = k at ih ⊢
        generalize lpF (fun _ _ _ => none) (fB_X8_lawOf_L12 x1) M = k' at ih err ⊢
        have e38 : (S1 38 j).toInt = ((f + s : Nat) : Int) := by rw [ho.1 38 j (by omega), hl]; omega
        unfold fB_X1_value_L4 fB_X8_lawOf_L12
        rw [i_cn hx1, i_cn hx3]
        refine E2_ckr (fun _ => ?_)
        by_cases g : n = s
        · have c1 : P (30 + 3 * j) 1 ≤ x3 := Int32.le_iff_toInt_le.mpr (by rw [hsz, hx3]; omega)
          have c2 : S1 38 j ≤ y2 := Int32.le_iff_toInt_le.mpr (by rw [e38, hy2]; omega)
          refine E2_pl c1 (E2_pr c2 ?_)
          rw [g, hlen] at hx2
          have x21 : x2 = 1 := Int32.toInt_inj.mp hx2
          unfold fJ_X1_value_J190 fJ_X8_lawOf_J39
          refine E2_pl x21 (E2_pr h51 (E2_ckr (fun _ => E2_ckr (fun _ => E2_some (Or.inr ⟨h51, ?_⟩)))))
          rw [i_cn hx1]
          have e1 : ((S1 38 j) - 1).toNatClampNeg = f + s - 1 := i_cn (by rw [i_subK e38 (y := 1) (by decide) (by omega) (by omega)]; omega)
          have hl1 : hs (P (31 + 3 * j)) s = [s - 1] := by
            obtain ⟨s', rfl⟩ : ∃ s', s = s' + 1 := ⟨s - 1, by omega⟩
            have : ∃ r, hs (P (31 + 3 * j)) (s' + 1) = s' :: r := by
              show ∃ r, (bif decide ((P (31 + 3 * j) s').toInt < 10000) || decide (10022 ≤ (P (31 + 3 * j) s').toInt ∧ (P (31 + 3 * j) s').toInt ≤ 10028) then s' :: hs (P (31 + 3 * j)) s' else bif decide ((P (31 + 3 * j) s').toInt = 10021) then s' :: (hs (P (31 + 3 * j)) s').drop 1 else s' :: (hs (P (31 + 3 * j)) s').drop 2) = s' :: r
              cases (decide ((P (31 + 3 * j) s').toInt < 10000) || decide (10022 ≤ (P (31 + 3 * j) s').toInt ∧ (P (31 + 3 * j) s').toInt ≤ 10028)) with
              | true => exact ⟨_, rfl⟩
              | false =>
                cases decide ((P (31 + 3 * j) s').toInt = 10021) with
                | true => exact ⟨_, rfl⟩
                | false => exact ⟨_, rfl⟩
            obtain ⟨r, hr⟩ := this
            rw [hr] at hlen ⊢
            cases r with
            | nil => simp
            | cons c d => simp at hlen
          rw [g, hl1] at hv
          obtain ⟨v1, v2, -⟩ := hv
          show Lc (32 + 3 * j) 0 = L1 51 ((S1 38 j) - 1).toNatClampNeg ∧ bnd (Lc (32 + 3 * j) 0)
          rw [e1, show f + s - 1 = f + (s - 1) by omega]
          exact ⟨v1, by rw [show Lc (32 + 3 * j) 0 = L1 51 (f + (s - 1)) from v1]; exact v2⟩
        · have c1 : ¬ P (30 + 3 * j) 1 ≤ x3 := fun q => by have := tq_le hsz hx3 q; omega
          have c2 : ¬ S1 38 j ≤ y2 := fun q => by have := tq_le e38 hy2 q; omega
          refine E2_ql c1 (E2_qr c2 (E2_ckl (fun _ => E2_ltl (fun y4 e4 => E2_ltl (fun y5 e5 => ?_)))))
          have hn0 := hnd n (by omega)
          have hm : y2.toInt = ((f + n : Nat) : Int) := by rw [hy2]; omega
          have f39 : S1 39 = S 39 := funext (fun i => ho.1 39 i (by omega))
          have f40 : S1 40 = S 40 := funext (fun i => ho.1 40 i (by omega))
          have f41 : S1 41 = S 41 := funext (fun i => ho.1 41 i (by omega))
          have hst : ∀ (v : Int64) (L2 : Lo), L2 = stL L1 51 y2.toNatClampNeg v → oL L L2 ∧ L2 50 = L 50 ∧ L2 51 (f + n) = v ∧ ∀ a, a < n → L2 51 (f + a) = L1 51 (f + a) := fun v L2 e => by
            rw [i_cn hm] at e
            exact ⟨by rw [e]; exact oL_s hoL (by omega), by rw [e, stL_oth (by omega)]; exact hL50, by rw [e, stL_same], fun a ha => by rw [e, stL_ne (by omega)]⟩
          have y2n : ∀ y : Int32, y = y2 + 1 → y.toInt = (f : Int) + ((n + 1 : Nat) : Int) := fun y e => by rw [e, i_addK hm (y := 1) (by decide) (by omega) (by omega)]; omega
          have x3n : ∀ y : Int32, y = x3 + 1 → y.toInt = ((n + 1 : Nat) : Int) := fun y e => by rw [e]; exact i_p1 hx3 (by omega)
          have mem : ∀ a, a ∈ hs (P (31 + 3 * j)) n → a < n := fun a => hs_lt a
          have ho2 : ∀ S2, o51 S1 S2 → o51 S S2 := fun S2 h => o51_t ho h
          have hln := @hs_len (P (31 + 3 * j)) n
          have g0 : 0 ≤ (P (31 + 3 * j) n).toInt := by
            rcases hn0 with g | ⟨m, g⟩ | ⟨a, r, g⟩ | ⟨a, b, r, g, -⟩
            · omega
            · omega
            · omega
            · rcases g with g | g | g | g | g <;> omega
          have tst : ∀ u : Int32, (u = y4 - 10000) → u.toInt = (P (31 + 3 * j) n).toInt - 10000 := fun u e => by
            have := i_rng (P (31 + 3 * j) n)
            rw [e, e4]; exact i_subK rfl (by decide) (by omega) (by omega)
          rcases hn0 with ⟨g1, g2, g3, g4⟩ | ⟨m, g1, g2, g3, g4⟩ | ⟨a, r, g1, g2, g3, g4⟩ | ⟨a, b, r, g1, g2, g3, g4, g5⟩
          · -- a number
            have hl1 := hs_leaf (g := P (31 + 3 * j)) (n := n) (Or.inl ⟨g1, g2⟩)
            have k39 : S1 39 (f + n) = 0 := by rw [f39]; exact Int32.toInt_inj.mp g3
            have c5 : ¬ 0 ≤ y5 := fun q => by
              have := tq_le (x := (0 : Int32)) (y := y5) (a := 0) (b := (P (31 + 3 * j) n).toInt - 10000) (by decide) (by rw [e5, e4]; exact i_subK rfl (by decide) (by omega) (by omega)) q
              omega
            refine E2_ql c5 (E2_ckl (fun _ => E2_ltl (fun Lc1 ec => E2_ltl (fun y35 e35 => E2_ltl (fun y36 e36 => ?_)))))
            unfold f_X8_valueOf
            rw [i_cn hm]
            simp only [bd_ck]
            refine E2_ckr (fun _ => ?_)
            rw [if_pos k39, bd_some]
            refine E2_ltr (fun r9 e9 => E2_ltr (fun S2 es => E2_ckr (fun _ => E2_ltr (fun L2 el => E2_ltr (fun y15 e15 => ?_)))))
            obtain ⟨o1, o2, o3, o4⟩ := hst r9 L2 (by rw [el, i_cn hm])
            refine ih (n + 1) y35 y36 y15 Lc1 S2 L2 (x3n _ e36) (by rw [e35, i_addK hx2 (y := 1) (by decide) (by omega) (by omega), hl1]; simp) (y2n _ e15) (by omega) (by rw [es]; exact ho) (by rw [es]; exact h51) o1 o2 ?_
            rw [hl1]
            refine ⟨?_, ?_, vst_cg hv (fun i hi => ?_) (fun a ha => o4 a (mem a ha))⟩
            · rw [o3, ec, i_cn hx2, stL_same, e9, e4, f40, g4]
            · rw [o3, e9, f40, g4]; exact bnd_i _
            · rw [ec, i_cn hx2, stL_ne (by omega)]
          · -- a name
            have hl1 := hs_leaf (g := P (31 + 3 * j)) (n := n) (Or.inr (by omega))
            have k39 : S1 39 (f + n) = 1 := by rw [f39]; exact Int32.toInt_inj.mp g3
            have t5 : y5.toInt = 22 + m := by rw [tst y5 e5]; omega
            have c5 : 0 ≤ y5 := Int32.le_iff_toInt_le.mpr (by rw [t5]; show (0 : Int) ≤ _; omega)
            have c6 : ¬ y5 < 22 := fun q => by have := tq_lt t5 (y := (22 : Int32)) (b := 22) (by decide) q; omega
            have c7 : ¬ 28 < y5 := fun q => by have := tq_lt (x := (28 : Int32)) (a := 28) (by decide) t5 q; omega
            have t22 : (y5 - 22).toNatClampNeg = m := i_cn (by rw [i_subK t5 (y := 22) (by decide) (by omega) (by omega)]; omega)
            rw [t22]
            refine E2_pl c5 (E2_ql c6 (E2_ql c7 (E2_ckl (fun _ => E2_ckl (fun _ => E2_ltl (fun Lc1 ec => E2_ltl (fun y31 e31 => E2_ltl (fun y32 e32 => ?_))))))))
            unfold f_X8_valueOf
            rw [i_cn hm]
            simp only [bd_ck]
            refine E2_ckr (fun _ => ?_)
            have n0 : ¬ S1 39 (f + n) = 0 := by rw [k39]; decide
            rw [if_neg n0, if_pos k39]
            simp only [bd_ck]
            have t40 : (S1 40 (f + n)).toNatClampNeg = m := by rw [f40]; exact i_cn g4
            rw [t40, bd_some]
            refine E2_ckr (fun _ => E2_ltr (fun r9 e9 => E2_ltr (fun S2 es => E2_ckr (fun _ => E2_ltr (fun L2 el => E2_ltr (fun y15 e15 => ?_))))))
            obtain ⟨o1, o2, o3, o4⟩ := hst r9 L2 (by rw [el, i_cn hm])
            refine ih (n + 1) y31 y32 y15 Lc1 S2 L2 (x3n _ e32) (by rw [e31, i_addK hx2 (y := 1) (by decide) (by omega) (by omega), hl1]; simp) (y2n _ e15) (by omega) (by rw [es]; exact ho) (by rw [es]; exact h51) o1 o2 ?_
            rw [hl1]
            have r9v : r9 = (T 19 m).toInt64 := by rw [e9, hL50]; exact hn m g1
            refine ⟨?_, ?_, vst_cg hv (fun i hi => ?_) (fun a ha => o4 a (mem a ha))⟩
            · rw [o3, ec, i_cn hx2, stL_same, r9v]
            · rw [o3, r9v]; exact bnd_i _
            · rw [ec, i_cn hx2, stL_ne (by omega)]
          · -- not
            have hl1 := hs_not (g := P (31 + 3 * j)) (n := n) g1
            have k39 : S1 39 (f + n) = 2 := by rw [f39]; exact Int32.toInt_inj.mp g2
            have t5 : y5.toInt = 21 := by rw [tst y5 e5]; omega
            have c5 : 0 ≤ y5 := Int32.le_iff_toInt_le.mpr (by rw [t5]; decide)
            have c6 : y5 < 22 := Int32.lt_iff_toInt_lt.mpr (by rw [t5]; decide)
            have c7 : y5 = 21 := Int32.toInt_inj.mp (by rw [t5]; decide)
            rw [g3] at hv hx2 hl1
            obtain ⟨v1, v2, v3⟩ := hv
            simp only [List.length_cons] at hx2
            have c8 : ¬ x2 < 1 := fun q => by have := tq_lt hx2 (y := (1 : Int32)) (b := 1) (by decide) q; omega
            have rl : r.length ≤ n := by have := @hs_len (P (31 + 3 * j)) n; rw [g3] at this; simp only [List.length_cons] at this; omega
            have t1 : (x2 - 1).toNatClampNeg = r.length := i_cn (by rw [i_subK hx2 (y := 1) (by decide) (by omega) (by omega)]; omega)
            unfold fJ_X1_value_J82 fJ_X1_value_J119
            rw [t1]
            refine E2_pl c5 (E2_pl c6 (E2_pl c7 (E2_ql c8 (E2_ckl (fun _ => ?_)))))
            unfold f_X8_valueOf
            rw [i_cn hm]
            simp only [bd_ck]
            refine E2_ckr (fun _ => ?_)
            have n0 : ¬ S1 39 (f + n) = 0 := by rw [k39]; decide
            have n1 : ¬ S1 39 (f + n) = 1 := by rw [k39]; decide
            have t40 : (S1 40 (f + n)).toNatClampNeg = f + a := by rw [f40]; exact i_cn (by rw [g4]; omega)
            rw [if_neg n0, if_neg n1, t40]
            simp only [bd_ck]
            refine E2_ckr (fun _ => ?_)
            simp only [bd_lt]
            refine E2_ltr (fun y5' e5' => ?_)
            rw [if_pos k39]
            have one : ∀ (w : Int64), bnd w → E2 (ck (okI (x2 - 1) 64) (lt (stL Lc (32 + 3 * j) r.length w) fun L_25 => lt (x3 + 1) fun y26 => k x2 y26 L_25)) (bd (some (w, S1)) fun q => lt q.1 fun r9 => lt q.2 fun S_10 => ck (okI y2 64) (lt (stL L1 51 (f + n) r9) fun L_14 => lt (y2 + 1) fun y15 => k' y15 S_10 L_14)) vlQ := by
              intro w hw
              rw [bd_some]
              refine E2_ckl (fun _ => E2_ltl (fun Lc1 ec => E2_ltl (fun y26 e26 => E2_ltr (fun r9 e9 => E2_ltr (fun S2 es => E2_ckr (fun _ => E2_ltr (fun L2 el => E2_ltr (fun y15 e15 => ?_))))))))
              obtain ⟨o1, o2, o3, o4⟩ := hst r9 L2 (by rw [el, i_cn hm])
              refine ih (n + 1) x2 y26 y15 Lc1 S2 L2 (x3n _ e26) (by rw [hx2, hl1]; simp) (y2n _ e15) (by omega) (by rw [es]; exact ho) (by rw [es]; exact h51) o1 o2 ?_
              rw [hl1]
              show vst _ _ f (n :: r)
              refine ⟨?_, ?_, vst_cg v3 (fun i hi => ?_) (fun c hc => o4 c (mem c (by rw [g3]; exact List.mem_cons_of_mem _ hc)))⟩
              · rw [o3, ec, stL_same, e9]
              · rw [o3, e9]; exact hw
              · rw [ec, stL_ne (by omega)]
            have ev : Lc (32 + 3 * j) r.length = y5' := by rw [e5']; exact v1
            rw [ev]
            by_cases c9 : lg_cmp y5' 0 = 0
            · rw [if_pos c9, if_pos c9]; exact one 1 bnd_1
            · rw [if_neg c9, if_neg c9]; exact one 0 bnd_0
          · -- a sign
            have gi : ¬ lfC (P (31 + 3 * j) n).toInt ∧ 0 ≤ (P (31 + 3 * j) n).toInt ∧ ¬ (P (31 + 3 * j) n).toInt = 10021 := by
              unfold lfC
              rcases g1 with g | g | g | g | g <;> omega
            have hl1 := hs_two (g := P (31 + 3 * j)) (n := n) gi.1 gi.2.1 gi.2.2
            have t5 := tst y5 e5
            have hsg : sg2 y5.toInt (S1 39 (f + n)).toInt := by rw [t5, f39]; exact g1
            have h3 : 3 ≤ (S1 39 (f + n)).toInt := by rw [f39]; exact g2
            have c5 : 0 ≤ y5 := Int32.le_iff_toInt_le.mpr (by rw [t5]; show (0 : Int) ≤ _; rcases g1 with g | g | g | g | g <;> omega)
            have cc : y5.toInt < 22 ∧ ¬ y5.toInt = 21 ∨ 28 < y5.toInt := by rw [t5]; rcases g1 with g | g | g | g | g <;> omega
            rw [g3] at hv hx2 hl1
            obtain ⟨v1, v2, v3, v4, v5⟩ := hv
            simp only [List.length_cons] at hx2 v1
            have rl : r.length + 2 ≤ n := by have := @hs_len (P (31 + 3 * j)) n; rw [g3] at this; simp only [List.length_cons] at this; omega
            have c8 : ¬ x2 < 2 := fun q => by have := tq_lt hx2 (y := (2 : Int32)) (b := 2) (by decide) q; omega
            have fin : E2 (fJ_X1_value_J123 k j T P x2 x3 y5 Lc) (bd (f_X8_valueOf S1 L1 y2) fun q => lt q.1 fun r9 => lt q.2 fun S_10 => ck (okI y2 64) (lt (stL L1 51 y2.toNatClampNeg r9) fun L_14 => lt (y2 + 1) fun y15 => k' y15 S_10 L_14)) vlQ := by
              unfold fJ_X1_value_J123
              refine E2_ql c8 (E2_ltl (fun y11 e11 => E2_ckl (fun _ => E2_ckl (fun _ => ?_))))
              have t11 : y11.toInt = ((r.length + 1 : Nat) : Int) := by rw [e11, i_addK hx2 (y := -1) (by decide) (by omega) (by omega)]; omega
              have t10 : (y11 - 1).toNatClampNeg = r.length := i_cn (by rw [i_subK t11 (y := 1) (by decide) (by omega) (by omega)]; omega)
              rw [t10, i_cn t11, v1, v3]
              have q40 : (S1 40 (f + n)).toInt = ((f + a : Nat) : Int) := by rw [f40, g4]; omega
              have q41 : (S1 41 (f + n)).toInt = ((f + b : Nat) : Int) := by rw [f41, g5]; omega
              refine E2_bd (e_vbin hm rfl h3 q40 q41 (e_jn hsg h3 v4 v2 h51)) (fun r14 q hq => ?_)
              obtain ⟨w, S2⟩ := q
              obtain ⟨u1, u2⟩ := hq
              have u1 : o51 S1 S2 := u1
              have u2 : (S2 0 51 = 0 ∧ w = r14 ∧ bnd r14) ∨ (¬ S2 0 51 = 0 ∧ ¬ bnd r14) := u2
              refine E2_ltr (fun r9 e9 => E2_ltr (fun S3 es => E2_ckr (fun _ => E2_ltr (fun L2 el => E2_ltr (fun y15 e15 => ?_)))))
              have e9 : r9 = w := e9
              have es : S3 = S2 := es
              subst e9; subst es
              rcases u2 with ⟨w1, w2, w3⟩ | ⟨w1, w2⟩
              · have d1 : ¬ lg_cmp r14 (-1000000000000) < 0 := fun q => by have := l_clt.mp q; rw [l_mn] at this; have := w3.1; omega
                have d2 : lg_cmp r14 1000000000000 ≤ 0 := l_cle.mpr (by rw [l_mx]; exact w3.2)
                refine E2_ql d1 (E2_pl d2 (E2_ltl (fun Lc1 ec => E2_ltl (fun y20 e20 => ?_))))
                obtain ⟨o1, o2, o3, o4⟩ := hst r9 L2 (by rw [el, i_cn hm])
                refine ih (n + 1) y11 y20 y15 Lc1 S3 L2 (x3n _ e20) (by rw [t11, hl1]; simp) (y2n _ e15) (by omega) (ho2 _ u1) w1 o1 o2 ?_
                rw [hl1]
                show vst _ _ f (n :: r)
                refine ⟨?_, ?_, vst_cg v5 (fun i hi => ?_) (fun c hc => o4 c (mem c (by rw [g3]; exact List.mem_cons_of_mem _ (List.mem_cons_of_mem _ hc))))⟩
                · rw [o3, ec, stL_same, w2]
                · rw [o3, w2]; exact w3
                · rw [ec, stL_ne (by omega)]
              · by_cases d1 : lg_cmp r14 (-1000000000000) < 0
                · exact E2_pl d1 (err y15 S3 L2 Lc w1)
                · refine E2_ql d1 ?_
                  by_cases d2 : lg_cmp r14 1000000000000 ≤ 0
                  · have d1 := mt l_clt.mpr d1
                    have d2 := l_cle.mp d2
                    rw [l_mn] at d1; rw [l_mx] at d2
                    exact absurd (show bnd r14 from ⟨by omega, d2⟩) w2
                  · exact E2_ql d2 (err y15 S3 L2 Lc w1)
            have n21 : y5.toInt < 22 → ¬ y5 = 21 := fun h e => by
              rw [e] at cc
              rcases cc with c | c
              · exact c.2 (by decide)
              · exact absurd c (by decide)
            refine E2_pl c5 (E2_itl (fun c6 => ?_) (fun c6 => ?_))
            · have c6 := tq_lt (b := 22) rfl (by decide) c6
              unfold fJ_X1_value_J82
              exact E2_ql (n21 c6) fin
            · have c6 := tq_ltn (b := 22) rfl (by decide) c6
              refine E2_pl (Int32.lt_iff_toInt_lt.mpr (by show (28 : Int) < _; omega)) ?_
              unfold fJ_X1_value_J82
              refine E2_ql (fun e => ?_) fin
              rw [e] at c6
              exact absurd c6 (by decide)
  unfold f_X1_value fL_X1_value_L4 f_X8_lawOf fL_X8_lawOf_L12
  rw [i_cn hx1]
  refine E2_ltr (fun S1 e1 => E2_ckr (fun _ => E2_ltr (fun y3 e3 => ?_)))
  refine lp 2000 2000 0 0 0 y3 Lc S1 L (by decide) (show (0 : Int32).toInt = ((0 : Nat) : Int) by decide) ?_ (by omega) (by rw [e1]; exact o51_s o51_r) (by rw [e1, st_same]) oL_r rfl trivial
  rw [e3, e1, st_oth (by decide), hf]; omega
-- 62.zaz.14.z5
/-! worked out for a piece; numbers drawn -/
theorem E2_rb {α β γ : Type} {x : Option α} {y : Option γ} {k' : γ → Option β} {R : α → γ → Prop} {Q : α → β → Prop} (h1 : E2 x y R) (h : ∀ a b, R a b → E2 (some a) (k' b) Q) : E2 x (bd y k') Q := fun a b e1 e2 => by
  obtain ⟨d, hd, hk⟩ := tx_bd e2
  exact h a d (h1 a d e1 hd) a b rfl hk
theorem E2_lb {α β γ : Type} {x : Option γ} {y : Option β} {k : γ → Option α} {R : γ → β → Prop} {Q : α → β → Prop} (h1 : E2 x y R) (h : ∀ a b, R a b → E2 (k a) (some b) Q) : E2 (bd x k) y Q := fun a b e1 e2 => by
  obtain ⟨d, hd, hk⟩ := tx_bd e1
  exact h d b (h1 d b hd e2) a b hk rfl
def clm (v : Int64) (m : Int32) : Int32 := if 0 ≤ (lg_cmp v 0) then (if (lg_cmp v m.toInt64) ≤ 0 then v.toInt32 else m) else 0
theorem e_wi (v : Int64) (m : Int32) : f_X6_within v m = some (clm v m) := by
  unfold f_X6_within clm
  split
  · split <;> rfl
  · rfl
/-- one train of each -/
def Rl (b : Nat) (P T S : Tr) : Prop := rI b S ∧ pK P S ∧ sta b T S ∧ dyn b P T S ∧ inv b S
theorem sta_e {b : Nat} {T T1 S S1 : Tr} (h : sta b T S) (e : o19 T T1) (f : o51 S S1) : sta b T1 S1 := sta_M h (cM_19 e) (aM_51 f)
theorem Rl_e {b : Nat} {P T T1 S S1 : Tr} (h : Rl b P T S) (e : o19 T T1) (f : o51 S S1) : Rl b P T1 S1 := ⟨rI_51 h.1 f, pK_51 h.2.1 f, sta_e h.2.2.1 e f, dyn_19 h.2.2.2.1 h.1.1 e f, inv_51 h.2.2.2.2 f⟩
def nmP (P T : Tr) (able : Int32) (i p : Nat) (ab : Int) (L : Lo) : Prop := L 50 0 = (P 15 i).toInt64 ∧ L 50 1 = (P 16 i).toInt64 ∧ (∃ v : Int32, v.toInt = ab ∧ L 50 2 = v.toInt64) ∧ L 50 3 = (P 8 p).toInt64 ∧ L 50 4 = able.toInt64 ∧ L 50 5 = (T 0 0).toInt64 ∧ L 50 6 = (T 18 p).toInt64
theorem e_able {b o : Nat} {T S : Tr} {xb xo : Int32} (hb : xb.toNatClampNeg = b) (hxb : 0 ≤ xb.toInt ∧ xb.toInt ≤ 1) (ho : xo.toInt = o) (h6 : o ≤ 5) (hs : sta b T S) (hop : (o : Int) < (S 0 13).toInt) : Ep (f_X8_ableOf S xb xo) (fun q => q = T 10 o) := by
  have j6 : (((6 : Int32) * xb) + xo).toNatClampNeg = 6 * b + o := by rw [jx 6 (by decide) (by omega) hxb ho (by omega), hb]
  have e := (hs.1 o hop).2
  unfold f_X8_ableOf
  rw [j6]
  refine Ep_ite (fun c => Ep_ck (Ep_some ?_)) (fun c => Ep_some ?_)
  · rw [e, if_pos c]
  · rw [e, if_neg c]
theorem e_lay {b i p pos o : Nat} {P T S : Tr} {L : Lo} {xb x1 xo : Int32} (hb : xb.toNatClampNeg = b) (hxb : 0 ≤ xb.toInt ∧ xb.toInt ≤ 1) (hR : Rl b P T S) (hi : x1.toInt = i) (hii : (i : Int) < (S 0 14).toInt) (ha : at2 b T S i p pos) (ho : xo.toInt = o) (hop : (o : Int) < (S 0 13).toInt) : Ep (f_X8_layNames S L xb x1 xo) (fun q => nmP P T (T 10 o) i p ((S 56 (5 * b + p)).toInt - 1 - pos) q ∧ oL L q) := by
  obtain ⟨⟨hS, hpI, hg⟩, hK, hs, hd, hv⟩ := hR
  have h14 : (S 0 14).toInt ≤ 10 := (hS 0 14).2
  have h13 : (S 0 13).toInt ≤ 6 := (hS 0 13).2
  have j10 : (((10 : Int32) * xb) + x1).toNatClampNeg = 10 * b + i := by rw [jx 10 (by decide) (by omega) hxb hi (by omega), hb]
  obtain ⟨a1, a2, a3, -⟩ := id ha
  have hp12 : (p : Int) < (S 0 12).toInt := by
    have := (hv.1 i hii).2.2
    rw [← a3, a1] at this; exact this
  have hly : (S 54 (10 * b + i)).toInt = p := by rw [← a3]; exact a1
  unfold f_X8_layNames
  rw [j10]
  refine Ep_ck (Ep_lt (fun y2 e2 => ?_))
  have hy2 : y2.toInt = p := by rw [e2]; exact hly
  rw [i_cn hi, i_cn hy2, hb]
  refine Ep_ck (Ep_lt (fun L4 l4 => Ep_lt (fun L5 l5 => Ep_bd (e_abv ha hb hxb hS hg.1 hi (by omega)).2 (fun r6 h6 => Ep_lt (fun L9 l9 => Ep_ck (Ep_lt (fun L11 l11 => Ep_bd (e_able hb hxb ho (by omega) hs hop) (fun r12 h12 => Ep_lt (fun L15 l15 => Ep_ck (Ep_lt (fun L17 l17 => Ep_bd (e_wgt hb hxb hy2 a2 hS hg.1 hK.2.2.2.1 (hd.2.2.2.2 p (by omega))) (fun r18 h18 => Ep_lt (fun L21 l21 => Ep_some ?_)))))))))))))
  obtain ⟨w1, w2, w3, -⟩ := hK.2.2.2.1 i hii
  refine ⟨⟨?_, ?_, ⟨r6, h6, ?_⟩, ?_, ?_, ?_, ?_⟩, ?_⟩
  · rw [l21, stL_ne (by decide), l17, stL_ne (by decide), l15, stL_ne (by decide), l11, stL_ne (by decide), l9, stL_ne (by decide), l5, stL_ne (by decide), l4, stL_same, w2]
  · rw [l21, stL_ne (by decide), l17, stL_ne (by decide), l15, stL_ne (by decide), l11, stL_ne (by decide), l9, stL_ne (by decide), l5, stL_same, w3]
  · rw [l21, stL_ne (by decide), l17, stL_ne (by decide), l15, stL_ne (by decide), l11, stL_ne (by decide), l9, stL_same]
  · rw [l21, stL_ne (by decide), l17, stL_ne (by decide), l15, stL_ne (by decide), l11, stL_same, (hK.2.1 p hp12).1]
  · rw [l21, stL_ne (by decide), l17, stL_ne (by decide), l15, stL_same, h12]
  · rw [l21, stL_ne (by decide), l17, stL_same, hd.1]
  · rw [l21, stL_same, h18]
  · rw [l21, l17, l15, l11, l9, l5, l4]
    exact oL_s (oL_s (oL_s (oL_s (oL_s (oL_s (oL_s oL_r (Or.inl rfl)) (Or.inl rfl)) (Or.inl rfl)) (Or.inl rfl)) (Or.inl rfl)) (Or.inl rfl)) (Or.inl rfl)
def wkQ (T S : Tr) (L : Lo) (q : Int64 × Tr × Lo) (q' : Int64 × Tr × Lo) : Prop := o19 T q.2.1 ∧ o51 S q'.2.1 ∧ oL L q'.2.2 ∧ ((q.1 = -9223372036854775808 ∧ ¬ q'.2.1 0 51 = 0) ∨ (q'.2.1 0 51 = 0 ∧ q.1 = q'.1 ∧ bnd q.1))
theorem e_wk0 {b i p pos w : Nat} {P T S : Tr} {L Lc : Lo} {x1 xw able : Int32} (hR : Rl b P T S) (hi : x1.toInt = i) (ha : at2 b T S i p pos) (hw : xw.toInt = w) (hw3 : w < 3) (hn : nmP P T able i p ((S 56 (5 * b + p)).toInt - 1 - pos) L) (htold : S 36 w = 1) : E2 (f_X6_worked T P Lc xw x1 able) (f_X8_lawOf S L xw) (wkQ T S L) := by
  obtain ⟨⟨hS, hpI, hg⟩, hK, hs, hd, hv⟩ := hR
  obtain ⟨a1, a2, a3, a4, a5, a6, a7, a8, a9, a10⟩ := id ha
  rcases hK.2.2.2.2.2 w hw3 with ⟨-, l2⟩ | ⟨l1, f, s, s1, l2, l3, l4, l5, l6, l7⟩
  · rw [l2] at htold; exact absurd htold (by decide)
  have n0 : ¬ P (30 + 3 * w) 1 = 0 := fun e => by rw [e, show (0 : Int32).toInt = 0 by decide] at l2; omega
  unfold f_X6_worked
  rw [i_cn hi, i_cn hw]
  refine E2_ckl (fun _ => E2_ltl (fun y2 e2 => E2_ckl (fun _ => E2_ql n0 ?_)))
  have hy2 : y2.toInt = p := by rw [e2]; exact a1
  have c0 : 0 ≤ y2 := Int32.le_iff_toInt_le.mpr (by rw [hy2]; show (0 : Int) ≤ _; omega)
  rw [i_cn hy2]
  refine E2_pl c0 (E2_ltl (fun T6 t6 => E2_ltl (fun T7 t7 => E2_ckl (fun _ => ?_))))
  have o7 : o19 T T7 := by rw [t7, t6]; exact o19_s (o19_s o19_r)
  have ha7 : at2 b T7 S i p pos := by
    unfold at2
    rw [o7 15 i (by omega), o7 17 p (by omega), o7 16 _ (by omega)]
    exact ⟨a1, a2, a3, a4, a5, a6, a7, a8, fun k hk => by rw [o7 16 _ (by omega)]; exact a9 k hk, fun k hk => by rw [o7 16 _ (by omega)]; exact a10 k hk⟩
  refine E2_bl (at_lvl ha7 hi) (fun r9 h9 => E2_ltl (fun T12 t12 => E2_ltl (fun T13 t13 => E2_ltl (fun T14 t14 => E2_ltl (fun T15 t15 => E2_ltl (fun T16 t16 => ?_))))))
  have o14 : o19 T T14 := by rw [t14, t13, t12]; exact o19_s (o19_s (o19_s o7))
  have o15 : o19 T T15 := by rw [t15]; exact o19_s o14
  have o16 : o19 T T16 := by rw [t16]; exact o19_s o15
  have ff : ∀ m : Nat, m ≤ 6 → L 50 m = (T16 19 m).toInt64 := by
    obtain ⟨n0, n1, ⟨v, n2, n2'⟩, n3, n4, n5, n6⟩ := hn
    intro m hm
    rcases (by omega : m = 0 ∨ m = 1 ∨ m = 2 ∨ m = 3 ∨ m = 4 ∨ m = 5 ∨ m = 6) with rfl | rfl | rfl | rfl | rfl | rfl | rfl
    · rw [n0, t16, st_ne (by decide), t15, st_ne (by decide), t14, st_ne (by decide), t13, st_ne (by decide), t12, st_ne (by decide), t7, st_ne (by decide), t6, st_same]
    · rw [n1, t16, st_ne (by decide), t15, st_ne (by decide), t14, st_ne (by decide), t13, st_ne (by decide), t12, st_ne (by decide), t7, st_same]
    · rw [n2', t16, st_ne (by decide), t15, st_ne (by decide), t14, st_ne (by decide), t13, st_ne (by decide), t12, st_same]
      refine congrArg Int32.toInt64 (Int32.toInt_inj.mp ?_)
      rw [n2, o7 17 p (by omega), a4, i_subK (x := (S 56 (5 * b + p)).toInt - 1) (i_subK rfl (by decide) (by omega) (by omega)) h9 (by omega) (by omega)]
    · rw [n3, t16, st_ne (by decide), t15, st_ne (by decide), t14, st_ne (by decide), t13, st_same]
    · rw [n4, t16, st_ne (by decide), t15, st_ne (by decide), t14, st_same]
    · rw [n5, t16, st_ne (by decide), t15, st_same, o14 0 0 (by omega)]
    · rw [n6, t16, st_same, o15 18 p (by omega)]
  refine E2_lb (R := fun q q' => vlQ q q' ∧ o51 S q'.2.1 ∧ oL L q'.2.2) ?_ (fun q q' hq => ?_)
  · intro q q' e e'
    have h1 := e_val (T := T16) hw s1 l2 l4 l3 l5 l6 l7 ff Lc q q' e e'
    exact ⟨h1, fr_law S L xw q' e'⟩
  · refine E2_ltl (fun r17 e17 => E2_ltl (fun L18 e18 => E2_some ⟨o16, hq.2.1, hq.2.2, ?_⟩))
    show (r17 = _ ∧ _) ∨ (_ ∧ r17 = _ ∧ bnd r17)
    rw [e17]; exact hq.1
def wkB (T S : Tr) (L : Lo) (d m : Int32) (q : Int64 × Tr × Lo) (q' : Int32 × Tr × Lo) : Prop := o19 T q.2.1 ∧ o51 S q'.2.1 ∧ oL L q'.2.2 ∧ ((q.1 = -9223372036854775808 ∧ q'.1 = d) ∨ (bnd q.1 ∧ q'.1 = clm q.1 m))
theorem e_wk {b i p pos w : Nat} {P T S : Tr} {L Lc : Lo} {x1 xw able d m : Int32} (hR : Rl b P T S) (hi : x1.toInt = i) (ha : at2 b T S i p pos) (hw : xw.toInt = w) (hw3 : w < 3) (hn : nmP P T able i p ((S 56 (5 * b + p)).toInt - 1 - pos) L) : E2 (f_X6_worked T P Lc xw x1 able) (f_X8_boundLaw S L xw d m) (wkB T S L d m) := by
  unfold f_X8_boundLaw
  rw [i_cn hw]
  refine E2_ckr (fun _ => E2_itr (fun c => ?_) (fun c => ?_))
  · rcases hR.2.1.2.2.2.2.2 w hw3 with ⟨l1, l2⟩ | ⟨l1, -⟩
    · unfold f_X6_worked
      rw [i_cn hw]
      exact E2_ckl (fun _ => E2_ltl (fun y2 e2 => E2_ckl (fun _ => E2_pl l1 (E2_some ⟨o19_r, o51_r, oL_r, Or.inl ⟨rfl, rfl⟩⟩))))
    · rw [l1] at c; exact absurd c (by decide)
  · have ht : S 36 w = 1 := by
      rcases hR.2.1.2.2.2.2.2 w hw3 with ⟨l1, l2⟩ | ⟨l1, -⟩
      · exact absurd l2 c
      · exact l1
    refine E2_rb (e_wk0 (Lc := Lc) hR hi ha hw hw3 hn ht) (fun q q' hq => ?_)
    obtain ⟨u1, u2, u3, u4⟩ := hq
    obtain ⟨v, S4, L5⟩ := q'
    have u2 : o51 S S4 := u2
    have u3 : oL L L5 := u3
    have u4 : (q.1 = -9223372036854775808 ∧ ¬ S4 0 51 = 0) ∨ (S4 0 51 = 0 ∧ q.1 = v ∧ bnd q.1) := u4
    show E2 (some q) (if S4 0 51 = 0 then (if 0 ≤ (lg_cmp v 0) then (if (lg_cmp v m.toInt64) ≤ 0 then (some (v.toInt32, S4, L5)) else (some (m, S4, L5))) else (some (0, S4, L5))) else (some (d, S4, L5))) _
    rcases u4 with ⟨w1, w2⟩ | ⟨w1, w2, w3⟩
    · exact E2_qr w2 (E2_some ⟨u1, u2, u3, Or.inl ⟨w1, rfl⟩⟩)
    · refine E2_pr w1 (E2_itr (fun c1 => E2_itr (fun c2 => E2_some ⟨u1, u2, u3, Or.inr ⟨w3, ?_⟩⟩) (fun c2 => E2_some ⟨u1, u2, u3, Or.inr ⟨w3, ?_⟩⟩)) (fun c1 => E2_some ⟨u1, u2, u3, Or.inr ⟨w3, ?_⟩⟩))
      · rw [w2]; unfold clm; rw [if_pos c1, if_pos c2]
      · rw [w2]; unfold clm; rw [if_pos c1, if_neg c2]
      · rw [w2]; unfold clm; rw [if_neg c1]
-- 62.zaz.15.z6
/-! numbers drawn -/
theorem l_nn {x : Int64} (h : 0 ≤ x.toInt) : x.toInt = (x.toBitVec.toNat : Int) ∧ x.toBitVec.toNat < 9223372036854775808 := by
  have e : x.toInt = x.toBitVec.toInt := rfl
  have hl := x.toBitVec.isLt
  rw [e, BitVec.toInt_eq_toNat_cond] at h ⊢
  split at h <;> rename_i g
  · rw [if_pos g]; exact ⟨rfl, by omega⟩
  · exfalso; omega
theorem l_of {x : Int64} {n : Nat} (h : x.toBitVec.toNat = n) (hn : n < 9223372036854775808) : x.toInt = n := by
  have e : x.toInt = x.toBitVec.toInt := rfl
  rw [e, BitVec.toInt_eq_toNat_cond, h, if_pos (by omega)]
theorem nx_eq {d n : Int32} {N : Int64} (h : 0 ≤ d.toInt) (hn : n = ((d * 1103515245) + 12345) &&& 2147483647) (hN : N = ((d.toInt64 * 1103515245) + 12345) &&& 2147483647) : N = n.toInt64 ∧ 0 ≤ n.toInt := by
  obtain ⟨d1, d2⟩ := i_nn h
  have D0 : d.toInt64.toInt = d.toInt := l_i32 d
  obtain ⟨D1, D2⟩ := l_nn (x := d.toInt64) (by rw [D0]; exact h)
  have eD : d.toInt64.toBitVec.toNat = d.toBitVec.toNat := by omega
  have a32 : n.toBitVec.toNat = (d.toBitVec.toNat * 1103515245 + 12345) % 2147483648 := by
    rw [hn]
    have k1 : (2147483647 : Int32).toBitVec.toNat = 2 ^ 31 - 1 := by decide
    have k2 : (1103515245 : Int32).toBitVec.toNat = 1103515245 := by decide
    have k3 : (12345 : Int32).toBitVec.toNat = 12345 := by decide
    rw [Int32.toBitVec_and, BitVec.toNat_and, k1, Nat.and_two_pow_sub_one_eq_mod, Int32.toBitVec_add, BitVec.toNat_add, Int32.toBitVec_mul, BitVec.toNat_mul, k2, k3]
    omega
  have a64 : N.toBitVec.toNat = (d.toBitVec.toNat * 1103515245 + 12345) % 2147483648 := by
    rw [hN]
    have k1 : (2147483647 : Int64).toBitVec.toNat = 2 ^ 31 - 1 := by decide
    have k2 : (1103515245 : Int64).toBitVec.toNat = 1103515245 := by decide
    have k3 : (12345 : Int64).toBitVec.toNat = 12345 := by decide
    rw [Int64.toBitVec_and, BitVec.toNat_and, k1, Nat.and_two_pow_sub_one_eq_mod, Int64.toBitVec_add, BitVec.toNat_add, Int64.toBitVec_mul, BitVec.toNat_mul, k2, k3, eD]
    omega
  have i32 := i_of a32 (by omega)
  have i64 := l_of a64 (by omega)
  exact ⟨Int64.toInt_inj.mp (by rw [i64, l_i32, i32]), by rw [i32]; omega⟩
theorem sh16 {n : Int32} (h : 0 ≤ n.toInt) : ((n.toUInt32 >>> ((16 : Int32).toUInt32 &&& Int32.toUInt32 31)).toInt32).toInt = n.toInt / 65536 := by
  obtain ⟨d1, d2⟩ := i_nn h
  have e : ((n.toUInt32 >>> ((16 : Int32).toUInt32 &&& Int32.toUInt32 31)).toInt32).toBitVec.toNat = n.toBitVec.toNat / 65536 := by
    show (n.toUInt32 >>> ((16 : Int32).toUInt32 &&& Int32.toUInt32 31)).toNat = _
    rw [UInt32.toNat_shiftRight, show ((16 : Int32).toUInt32 &&& Int32.toUInt32 31).toNat % 32 = 16 by decide, Nat.shiftRight_eq_div_pow]
    rfl
  rw [i_of e (by omega), d1]
  omega
theorem l_div {a b : Int64} (k : Int) (hk : b.toInt = k) (hp : 0 < k) (h0 : 0 ≤ a.toInt) : (a / b).toInt = a.toInt / k := by
  have h1 := Int.ediv_le_self k h0
  have h2 := a.toInt_lt
  have := Int.ediv_nonneg h0 (Int.le_of_lt hp)
  rw [Int64.toInt_div, hk, Int.tdiv_eq_ediv_of_nonneg h0]
  exact l_bm (by omega) (by omega)
theorem l_rem {a b : Int64} (k : Int) (hk : b.toInt = k) (hp : 0 < k) (h0 : 0 ≤ a.toInt) : (a - a / b * b).toInt = a.toInt % k := by
  have h1 := l_div k hk hp h0
  have h2 : (a / b * b).toInt = a.toInt / k * k := by
    rw [Int64.toInt_mul, h1, hk]
    have e1 := Int.ediv_mul_le a.toInt (Int.ne_of_gt hp)
    have e2 := a.toInt_lt
    have e3 := Int.mul_nonneg (Int.ediv_nonneg h0 (Int.le_of_lt hp)) (Int.le_of_lt hp)
    exact l_bm (by omega) (by omega)
  have h3 : a.toInt / k * k ≤ a.toInt := Int.ediv_mul_le a.toInt (Int.ne_of_gt hp)
  have h4 : a.toInt % k = a.toInt - a.toInt / k * k := by
    have := Int.emod_add_mul_ediv a.toInt k
    rw [Int.mul_comm] at this
    omega
  have h5 := Int.emod_nonneg a.toInt (Int.ne_of_gt hp)
  have h6 := a.toInt_lt
  have h7 := Int.mul_nonneg (Int.ediv_nonneg h0 (Int.le_of_lt hp)) (Int.le_of_lt hp)
  rw [Int64.toInt_sub, h2, h4]
  exact l_bm (by omega) (by omega)
/-- by a hundred -/
theorem r100 {n : Int32} {N : Int64} (h : 0 ≤ n.toInt) (e : N = n.toInt64) : (((n.toUInt32 >>> ((16 : Int32).toUInt32 &&& Int32.toUInt32 31)).toInt32) - ((n.toUInt32 >>> ((16 : Int32).toUInt32 &&& Int32.toUInt32 31)).toInt32) / 100 * 100) = (((N / 65536) - (N / 65536) / (100 : Int32).toInt64 * (100 : Int32).toInt64).toInt32) ∧ 0 ≤ (((N / 65536) - (N / 65536) / (100 : Int32).toInt64 * (100 : Int32).toInt64).toInt32).toInt ∧ (((N / 65536) - (N / 65536) / (100 : Int32).toInt64 * (100 : Int32).toInt64).toInt32).toInt < 100 := by
  have s := sh16 h
  have hN : N.toInt = n.toInt := by rw [e]; exact l_i32 n
  have q : (N / 65536).toInt = n.toInt / 65536 := by rw [l_div 65536 (by decide) (by decide) (by omega), hN]
  have a := i_rem (a := (n.toUInt32 >>> ((16 : Int32).toUInt32 &&& Int32.toUInt32 31)).toInt32) (b := 100) 100 (by decide) (by decide) (by rw [s]; omega)
  have c := l_rem (a := N / 65536) (b := (100 : Int32).toInt64) 100 (by decide) (by decide) (by rw [q]; omega)
  rw [s] at a
  rw [q] at c
  have d : (((N / 65536) - (N / 65536) / (100 : Int32).toInt64 * (100 : Int32).toInt64).toInt32).toInt = n.toInt / 65536 % 100 := by
    rw [Int64.toInt_toInt32, c]; exact i_bm (by omega) (by omega)
  exact ⟨Int32.toInt_inj.mp (by rw [a, d]), by rw [d]; omega, by rw [d]; omega⟩
/-- percents alike -/
def pcR (q q' : Int32) : Prop := q = q' ∨ (q.toInt = 100 ∧ 100 ≤ q'.toInt)
def oD (L L1 : Lo) : Prop := ∀ a j, a ≠ 50 → a ≠ 51 → ¬ (a = 0 ∧ j = 63) → L1 a j = L a j
theorem oD_r {L : Lo} : oD L L := fun _ _ _ _ _ => rfl
theorem oD_t {L M N : Lo} (h1 : oD L M) (h2 : oD M N) : oD L N := fun a j h h' h'' => (h2 a j h h' h'').trans (h1 a j h h' h'')
theorem oD_L {L M : Lo} (h : oL L M) : oD L M := fun a j h1 h2 _ => h a j h1 h2
def hpQ (T : Tr) (L : Lo) (a : Int32 × Tr) (b : Int32 × Lo) : Prop := a.1 = b.1 ∧ (b.1 = 0 ∨ b.1 = 1) ∧ drw a.2 b.2 ∧ (∀ c j, ¬ (c = 0 ∧ j = 2) → a.2 c j = T c j) ∧ oD L b.2
theorem e_nm1 (L : Lo) (x : Int32) : Ep (f_X8_number1 L x) (fun q => q.2 = stL L 0 63 ((((L 0 63) * 1103515245) + 12345) &&& 2147483647) ∧ q.1 = (((q.2 0 63) / 65536) - ((q.2 0 63) / 65536) / x.toInt64 * x.toInt64).toInt32) := by
  unfold f_X8_number1
  exact Ep_lt (fun L1 l1 => Ep_ck (Ep_some ⟨l1, rfl⟩))
theorem e_hap {T S : Tr} {L : Lo} {q q' : Int32} (hd : drw T L) (h5 : T 0 5 = S 0 65) (h : pcR q q') : E2 (f_X6_happens T q) (f_X8_isDrawn S L q') (hpQ T L) := by
  have le : ∀ m : Int32, m.toInt < 100 → (q ≤ m ↔ q' ≤ m) := fun m hm => by
    rcases h with e | ⟨e1, e2⟩
    · rw [e]
    · constructor
      · intro g; have := tq_le e1 rfl g; omega
      · intro g; have := tq_le rfl rfl g; omega
  have lt50 : q < 50 ↔ q' < 50 := by
    rcases h with e | ⟨e1, e2⟩
    · rw [e]
    · constructor
      · intro g; have := tq_lt e1 (b := 50) (by decide) g; omega
      · intro g; have := tq_lt rfl (b := 50) (by decide) g; omega
  unfold f_X6_happens f_X8_isDrawn
  rw [h5]
  refine E2_it Iff.rfl (fun c _ => E2_it lt50 (fun _ _ => E2_some ⟨rfl, Or.inl rfl, hd, fun _ _ _ => rfl, oD_r⟩) (fun _ _ => E2_some ⟨rfl, Or.inr rfl, hd, fun _ _ _ => rfl, oD_r⟩)) (fun c _ => E2_ltl (fun T2 t2 => ?_))
  obtain ⟨d1, d2⟩ := hd (by rw [h5]; exact c)
  refine E2_br (e_nm1 L 100) (fun v hv => E2_ltr (fun r3 e3 => E2_ltr (fun L4 l4 => ?_)))
  obtain ⟨rr, L1⟩ := v
  obtain ⟨l1, hr⟩ := hv
  have l1 : L1 = stL L 0 63 ((((L 0 63) * 1103515245) + 12345) &&& 2147483647) := l1
  have hr : rr = (((L1 0 63) / 65536) - ((L1 0 63) / 65536) / (100 : Int32).toInt64 * (100 : Int32).toInt64).toInt32 := hr
  have tv : T2 0 2 = ((T 0 2 * 1103515245) + 12345) &&& 2147483647 := by rw [t2, st_same]
  have lv : L1 0 63 = (((T 0 2).toInt64 * 1103515245) + 12345) &&& 2147483647 := by rw [l1, stL_same, d1]
  obtain ⟨n1, n2⟩ := nx_eq d2 tv lv
  obtain ⟨r1, r2, r3'⟩ := r100 n2 n1
  rw [r1]
  have e3 : r3 = rr := e3
  rw [← hr, ← e3]
  rw [← hr, ← e3] at r3'
  have l4 : L4 = L1 := l4
  have dd : drw T2 L4 := fun _ => ⟨by rw [l4]; exact n1, n2⟩
  have tf : ∀ c j, ¬ (c = 0 ∧ j = 2) → T2 c j = T c j := fun c j hn => by rw [t2, st_no hn]
  have lf : oD L L4 := fun a j h1 h2 h3 => by
    rw [l4, l1]
    by_cases ha : a = 0
    · subst ha; exact stL_ne (fun e => h3 ⟨rfl, e⟩)
    · exact congrFun (stL_oth ha) j
  exact E2_it (le r3 r3') (fun _ _ => E2_some ⟨rfl, Or.inl rfl, dd, tf, lf⟩) (fun _ _ => E2_some ⟨rfl, Or.inr rfl, dd, tf, lf⟩)
/-! what falls, what is stolen: percents -/
theorem clm_rng (v : Int64) : 0 ≤ (clm v 100).toInt ∧ (clm v 100).toInt ≤ 100 := by
  unfold clm
  split
  · rename_i c
    have c := l_cge.mp c
    rw [show (0 : Int64).toInt = 0 by decide] at c
    split
    · rename_i c2
      have c2 := l_cle.mp c2
      rw [l_i32, show (100 : Int32).toInt = 100 by decide] at c2
      rw [Int64.toInt_toInt32, i_bm (by omega) (by omega)]
      exact ⟨c, c2⟩
    · decide
  · decide
theorem clm_32 (x : Int32) : clm x.toInt64 100 = if 0 ≤ x then (if x ≤ 100 then x else 100) else 0 := by
  have a : (0 ≤ lg_cmp x.toInt64 0) ↔ 0 ≤ x := by rw [l_cge, l_i32, Int32.le_iff_toInt_le]; exact Iff.rfl
  have c : (lg_cmp x.toInt64 (100 : Int32).toInt64 ≤ 0) ↔ x ≤ 100 := by rw [l_cle, l_i32, l_i32, Int32.le_iff_toInt_le]
  have d : x.toInt64.toInt32 = x := Int32.toInt_inj.mp (by rw [Int64.toInt_toInt32, l_i32]; have := i_rng x; exact i_bm (by omega) (by omega))
  unfold clm
  by_cases h1 : 0 ≤ x
  · rw [if_pos h1, if_pos (a.mpr h1)]
    by_cases h2 : x ≤ 100
    · rw [if_pos h2, if_pos (c.mpr h2), d]
    · rw [if_neg h2, if_neg (fun q => h2 (c.mp q))]
  · rw [if_neg h1, if_neg (fun q => h1 (a.mp q))]
def pcQ (T S : Tr) (L : Lo) (q q' : Int32 × Tr × Lo) : Prop := pcR q.1 q'.1 ∧ o19 T q.2.1 ∧ o51 S q'.2.1 ∧ oL L q'.2.2
theorem nmn {v : Int64} (h : bnd v) : ¬ lg_cmp v (-9223372036854775808) = 0 := fun e => by
  have e := (lg_cmp_eq _ _).mp e
  rw [e] at h; exact nbnd_mn h
theorem e_stl {b i p pos : Nat} {P T S : Tr} {L Lc : Lo} {xb x1 : Int32} (hb : xb.toNatClampNeg = b) (hxb : 0 ≤ xb.toInt ∧ xb.toInt ≤ 1) (hR : Rl b P T S) (hi : x1.toInt = i) (hii : (i : Int) < (S 0 14).toInt) (ha : at2 b T S i p pos) : E2 (f_X6_stealPercent T P Lc x1) (bd (f_X8_layNames S L xb x1 (S 30 i)) fun L_10 => f_X8_boundLaw S L_10 (2 : Int32) (10 : Int32) (100 : Int32)) (pcQ T S L) := by
  have h14 : (S 0 14).toInt ≤ 10 := (hR.1.1 0 14).2
  have hpI := hR.1.2.1
  have ow := hpI.2.2.1 i (by omega) hii
  have ow0 : 0 ≤ (S 30 i).toInt := (hR.1.1 30 i).1
  obtain ⟨o, ho⟩ : ∃ o : Nat, (S 30 i).toInt = o := ⟨(S 30 i).toInt.toNat, by omega⟩
  have e14 := (hR.2.1.2.2.2.1 i hii).1
  unfold f_X6_stealPercent
  rw [i_cn hi, e14, i_cn ho]
  refine E2_ckl (fun _ => E2_ckl (fun _ => E2_br (e_lay hb hxb hR hi hii ha ho (by omega)) (fun L2 h2 => ?_)))
  refine E2_lb (e_wk (Lc := Lc) hR hi ha (xw := 2) (w := 2) (by decide) (by decide) h2.1) (fun q q' hq => ?_)
  obtain ⟨u1, u2, u3, u4⟩ := hq
  refine E2_ltl (fun r3 e3 => E2_ltl (fun T4 t4 => E2_ltl (fun L5 l5 => ?_)))
  have t4 : T4 = q.2.1 := t4
  have e3 : r3 = q.1 := e3
  rw [← e3] at u4
  rw [← t4] at u1
  rcases u4 with ⟨w1, w2⟩ | ⟨w1, w2⟩
  · refine E2_pl (by rw [w1]; decide) (E2_some ⟨Or.inl w2.symm, u1, u2, oL_t h2.2 u3⟩)
  · refine E2_ql (nmn w1) ?_
    rw [e_wi, bd_some]
    exact E2_some ⟨Or.inl w2.symm, u1, u2, oL_t h2.2 u3⟩
theorem e_fal {b i p pos : Nat} {P T S : Tr} {L Lc : Lo} {xb x1 : Int32} (hb : xb.toNatClampNeg = b) (hxb : 0 ≤ xb.toInt ∧ xb.toInt ≤ 1) (hR : Rl b P T S) (hi : x1.toInt = i) (hii : (i : Int) < (S 0 14).toInt) (ha : at2 b T S i p pos) : E2 (f_X6_fallPercent T P Lc x1) (f_X8_fallOf S L xb x1) (pcQ T S L) := by
  have h14 : (S 0 14).toInt ≤ 10 := (hR.1.1 0 14).2
  have hpI := hR.1.2.1
  have ow := hpI.2.2.1 i (by omega) hii
  have ow0 : 0 ≤ (S 30 i).toInt := (hR.1.1 30 i).1
  obtain ⟨o, ho⟩ : ∃ o : Nat, (S 30 i).toInt = o := ⟨(S 30 i).toInt.toNat, by omega⟩
  obtain ⟨e14, e15, -⟩ := hR.2.1.2.2.2.1 i hii
  have e4 := hR.2.2.1.2.2.2.1
  have at2e : ∀ T4, o19 T T4 → at2 b T4 S i p pos := fun T4 u => by
    obtain ⟨a1, a2, a3, a4, a5, a6, a7, a8, a9, a10⟩ := ha
    unfold at2
    rw [u 15 i (by omega), u 17 p (by omega), u 16 _ (by omega)]
    exact ⟨a1, a2, a3, a4, a5, a6, a7, a8, fun k hk => by rw [u 16 _ (by omega)]; exact a9 k hk, fun k hk => by rw [u 16 _ (by omega)]; exact a10 k hk⟩
  have main : ∀ s0 : Int32, T 0 4 = s0 → E2 (f_X6_fallPercent T P Lc x1) (fJ_X8_fallOf_J17 xb x1 s0 S L) (pcQ T S L) := by
    intro s0 hs0
    unfold f_X6_fallPercent fJ_X8_fallOf_J17
    rw [i_cn hi, e14, i_cn ho]
    refine E2_ckl (fun _ => E2_ckl (fun _ => E2_br (at_bel ha hb hxb hR.1.1 hR.1.2.2.1 hi (by omega)) (fun r2 h2 => E2_ckr (fun _ => E2_ltr (fun y6 e6 => E2_br (e_lay hb hxb hR hi hii ha ho (by omega)) (fun L7 h7 => ?_))))))
    -- the class's word once the law doesn't tell
    have lev : ∀ T4, o19 T T4 → Ep (f_X6_level T4 x1) (fun r9 => ((T4 0 4) + ((10 : Int32) * r9)) - (P 15 i) = y6) := fun T4 u => Ep_mono (at_lvl (at2e T4 u) hi) (fun r hr => by
      rw [u 0 4 (by omega), hs0, e6, e15, show r = r2 from Int32.toInt_inj.mp (by rw [hr, h2])])
    have rest : ∀ d : Int32, (0 ≤ y6 → d = y6) → (¬ 0 ≤ y6 → d = 0) → E2 (bd (f_X6_worked T P Lc (1 : Int32) x1 (T 10 o)) fun q => lt q.1 fun r3 => lt q.2.1 fun T_4 => lt q.2.2 fun L_5 => if (lg_cmp r3 (-9223372036854775808)) = 0 then (bd (f_X6_level T_4 x1) fun r9 => fJ_X6_fallPercent_J57 P ((((T_4 0 4) + ((10 : Int32) * r9)) - (P 15 i)).toInt64) T_4 L_5) else (fJ_X6_fallPercent_J57 P r3 T_4 L_5)) (fJ_X8_fallOf_J58 d 1 S L7) (pcQ T S L) := by
      intro d hd1 hd2
      unfold fJ_X8_fallOf_J58
      refine E2_bd (e_wk (Lc := Lc) hR hi ha (xw := 1) (w := 1) (by decide) (by decide) h7.1) (fun q q' hq => ?_)
      obtain ⟨u1, u2, u3, u4⟩ := hq
      refine E2_ltl (fun r3 e3 => E2_ltl (fun T4 t4 => E2_ltl (fun L5 l5 => E2_ltr (fun r11 e11 => E2_ltr (fun S12 s12 => E2_ltr (fun L13 l13 => ?_))))))
      have t4 : T4 = q.2.1 := t4
      have e3 : r3 = q.1 := e3
      have e11 : r11 = q'.1 := e11
      have s12 : S12 = q'.2.1 := s12
      have l13 : L13 = q'.2.2 := l13
      rw [← e3, ← e11] at u4
      rw [← t4] at u1
      rw [← s12] at u2
      rw [← l13] at u3
      unfold fJ_X6_fallPercent_J57
      rcases u4 with ⟨w1, w2⟩ | ⟨w1, w2⟩
      · refine E2_pl (by rw [w1]; decide) (E2_bl (lev T4 u1) (fun r9 h9 => ?_))
        rw [h9, e_wi, bd_some, clm_32]
        refine E2_some ⟨?_, u1, u2, oL_t h7.2 u3⟩
        show pcR _ r11
        rw [w2]
        by_cases c1 : 0 ≤ y6
        · rw [if_pos c1, hd1 c1]
          by_cases c2 : y6 ≤ 100
          · rw [if_pos c2]; exact Or.inl rfl
          · rw [if_neg c2]
            have := tq_len (x := y6) (b := 100) rfl (by decide) c2
            exact Or.inr ⟨show (100 : Int32).toInt = 100 from by decide, by omega⟩
        · rw [if_neg c1, hd2 c1]; exact Or.inl rfl
      · refine E2_ql (nmn w1) ?_
        rw [e_wi, bd_some]
        exact E2_some ⟨Or.inl w2.symm, u1, u2, oL_t h7.2 u3⟩
    exact E2_itr (fun c => rest y6 (fun _ => rfl) (fun n => absurd c n)) (fun c => rest 0 (fun n => absurd n c) (fun _ => rfl))
  unfold f_X8_fallOf
  exact E2_itr (fun c => main _ (by rw [e4, if_pos c])) (fun c => main _ (by rw [e4, if_neg c]))
-- 62.zaz.16.z7
/-! seconds -/
theorem at2_sk {b p n : Nat} {P T S : Tr} (hR : Rl b P T S) (hp : p < 5) (hn : (n : Int) < (S 56 (5 * b + p)).toInt) : ∃ t : Nat, (t : Int) < (S 0 14).toInt ∧ (T 16 (10 * p + n)).toInt = t ∧ at2 b T S t p n := by
  obtain ⟨⟨hS, hpI, hg⟩, hK, hs, hd, hv⟩ := hR
  obtain ⟨t, t1, t2, t3, t4⟩ := sk_at hS hg.1 hp hn
  obtain ⟨k1, k2, k3⟩ := hd.2.2.2.2 p hp
  have e := k2 n hn
  obtain ⟨p', pos', ha⟩ := at2_of hS hg.1 hd.2.2.2.1 hd.2.2.2.2 t3 (by rw [t4]; omega)
  have ha' := ha
  obtain ⟨a1, a2, a3, a4, a5, a6, a7, a8, a9, a10⟩ := ha'
  have hp' : p' = p := by rw [a3, t4] at a1; omega
  subst hp'
  have e2 : (T 16 (10 * p' + n)).toInt = t := by rw [e]; exact t2
  have := a10 n hn e2
  rw [this] at e2 ⊢
  exact ⟨t, t3, e2, ha⟩
theorem at2_e {b i p pos : Nat} {T T1 S S1 : Tr} (h : at2 b T S i p pos) (e : o19 T T1) (f : o51 S S1) : at2 b T1 S1 i p pos := by
  unfold at2 at h ⊢
  rw [e 15 i (by omega), e 17 p (by omega), e 16 _ (by omega), f.1 54 _ (by omega), f.1 56 _ (by omega)]
  obtain ⟨a1, a2, a3, a4, a5, a6, a7, a8, a9, a10⟩ := h
  exact ⟨a1, a2, a3, a4, a5, a6, a7, a8, fun k hk => by rw [e 16 _ (by omega), f.1 55 _ (by omega)]; exact a9 k hk, fun k hk => by rw [e 16 _ (by omega)]; exact a10 k hk⟩
def lfQ (T S : Tr) (L : Lo) (d : Int32) (q : Int64 × Tr × Lo) (q' : Int32 × Tr × Lo) : Prop := o19 T q.2.1 ∧ o51 S q'.2.1 ∧ oL L q'.2.2 ∧ ((q.1 = -9223372036854775808 ∧ q'.1 = d) ∨ (bnd q.1 ∧ q'.1 = clm q.1 99))
theorem able_of {b o : Nat} {T S : Tr} (hS : iR BM S) (hg : gI b S) (hs : sta b T S) (ho : (o : Int) < (S 0 13).toInt) : 1 ≤ (T 10 o).toInt := by
  have h13 : (S 0 13).toInt ≤ 6 := (hS 0 13).2
  rw [(hs.1 o ho).2]
  split
  · exact hg.2.2 o (by omega) ho
  · decide
theorem e_lift {b i p pos o : Nat} {P T S : Tr} {L Lc : Lo} {xb x1 xo : Int32} (hb : xb.toNatClampNeg = b) (hxb : 0 ≤ xb.toInt ∧ xb.toInt ≤ 1) (hR : Rl b P T S) (hi : x1.toInt = i) (hii : (i : Int) < (S 0 14).toInt) (ha : at2 b T S i p pos) (ho : xo.toInt = o) (hop : (o : Int) < (S 0 13).toInt) : E2 (f_X6_worked T P Lc (0 : Int32) x1 (T 10 o)) (f_X8_liftOf S L xb x1 xo) (lfQ T S L ((P 15 i) / (T 10 o) + 1)) := by
  have h14 : (S 0 14).toInt ≤ 10 := (hR.1.1 0 14).2
  have h13 : (S 0 13).toInt ≤ 6 := (hR.1.1 0 13).2
  unfold f_X8_liftOf
  rw [i_cn hi]
  refine E2_br (e_lay hb hxb hR hi hii ha ho hop) (fun L2 h2 => E2_ckr (fun _ => E2_br (e_able hb hxb ho (by omega) hR.2.2.1 hop) (fun r5 h5 => E2_ckr (fun _ => ?_))))
  rw [h5, ← (hR.2.1.2.2.2.1 i hii).2.1]
  refine E2_rb (e_wk (Lc := Lc) hR hi ha (xw := 0) (w := 0) (by decide) (by decide) h2.1) (fun q q' hq => ?_)
  obtain ⟨u1, u2, u3, u4⟩ := hq
  exact E2_ltr (fun r9 e9 => E2_ltr (fun S10 s10 => E2_ltr (fun L11 l11 => E2_some ⟨u1, by rw [s10]; exact u2, by rw [l11]; exact oL_t h2.2 u3, by rw [e9]; exact u4⟩)))
theorem clm_99 (v : Int64) : 0 ≤ (clm v 99).toInt ∧ (clm v 99).toInt ≤ 99 := by
  unfold clm
  split
  · rename_i c
    have c := l_cge.mp c
    rw [show (0 : Int64).toInt = 0 by decide] at c
    split
    · rename_i c2
      have c2 := l_cle.mp c2
      rw [l_i32, show (99 : Int32).toInt = 99 by decide] at c2
      rw [Int64.toInt_toInt32, i_bm (by omega) (by omega)]
      exact ⟨c, c2⟩
    · decide
  · decide
theorem w_able {w a : Int32} (hw : 0 ≤ w.toInt ∧ w.toInt ≤ 99) (ha : 1 ≤ a.toInt) : 0 ≤ (w / a + 1).toInt ∧ (w / a + 1).toInt ≤ 100 := by
  have d := i_divv (a := w) (b := a) hw.1 (by omega)
  have e : (w / a + 1).toInt = (w / a).toInt + 1 := i_addK rfl (by decide) (by omega) (by omega)
  omega
def scQ (T S : Tr) (L : Lo) (q q' : Int32 × Tr × Lo) : Prop := q.1 = q'.1 ∧ o19 T q.2.1 ∧ o51 S q'.2.1 ∧ oL L q'.2.2 ∧ 0 ≤ q'.1.toInt ∧ q'.1.toInt ≤ 1000
theorem e_sec {b i p pos o : Nat} {P T S : Tr} {L Lc : Lo} {xb x1 : Int32} (hb : xb.toNatClampNeg = b) (hxb : 0 ≤ xb.toInt ∧ xb.toInt ≤ 1) (hR : Rl b P T S) (hi : x1.toInt = i) (hii : (i : Int) < (S 0 14).toInt) (ha : at2 b T S i p pos) (ho : (S 30 i).toInt = o) : E2 (f_X6_secondsFor T P Lc x1 (T 10 o)) (f_X8_secondsOf S L xb x1) (scQ T S L) := by
  have hS := hR.1.1
  have h14 : (S 0 14).toInt ≤ 10 := (hS 0 14).2
  have hop : (o : Int) < (S 0 13).toInt := by rw [← ho]; exact hR.1.2.1.2.2.1 i (by omega) hii
  have hab := able_of hS hR.1.2.2 hR.2.2.1 hop
  obtain ⟨a1, a2, a3, a4, a5, a6, a7, a8, a9, a10⟩ := id ha
  obtain ⟨h, hh⟩ : ∃ h : Nat, (S 56 (5 * b + p)).toInt = h := ⟨(S 56 (5 * b + p)).toInt.toNat, by omega⟩
  have lp : ∀ (N M n : Nat) (x4 y2 x5 x6 y4 y5 : Int32) (T1 S1 : Tr) (Lc1 L1 : Lo), x4.toInt = p → y2.toInt = p → x5 = y4 → x6.toInt = n → y5.toInt = n → n ≤ h → 0 ≤ y4.toInt ∧ y4.toInt ≤ 100 * (n : Int) → o19 T T1 → o51 S S1 → oL L L1 → E2 (lpF (fun _ _ _ _ => none) (fB_X6_secondsFor_L26 P (T 10 o) x4) N x5 x6 T1 Lc1) (lpF (fun _ _ _ _ => none) (fB_X8_secondsOf_L23 xb x1 y2) M y4 y5 S1 L1) (scQ T S L) := by
    intro N
    induction N with
    | zero => intro M n x4 y2 x5 x6 y4 y5 T1 S1 Lc1 L1 _ _ _ _ _ _ _ _ _ _; exact E2_nl
    | succ N ih =>
      intro M n x4 y2 x5 x6 y4 y5 T1 S1 Lc1 L1 hx4 hy2 he hx6 hy5 hn hB ho19 ho51 hoL
      cases M with
      | zero => exact E2_nr
      | succ M =>
        show E2 (fB_X6_secondsFor_L26 P (T 10 o) x4 (lpF (fun _ _ _ _ => none) (fB_X6_secondsFor_L26 P (T 10 o) x4) N) x5 x6 T1 Lc1) (fB_X8_secondsOf_L23 xb x1 y2 (lpF (fun _ _ _ _ => none) (fB_X8_secondsOf_L23 xb x1 y2) M) y4 y5 S1 L1) _
        have ih := fun n x5 x6 y4 y5 T1 S1 Lc1 L1 => ih M n x4 y2 x5 x6 y4 y5 T1 S1 Lc1 L1 hx4 hy2
        generalize lpF (fun _ _ _ _ => none) (fB_X6_secondsFor_L26 P (T 10 o) x4) N = k at ih ⊢
        generalize lpF (fun _ _ _ _ => none) (fB_X8_secondsOf_L23 xb x1 y2) M = k' at ih ⊢
        have j5 : (((5 : Int32) * xb) + y2).toNatClampNeg = 5 * b + p := by rw [jx 5 (by decide) (by omega) hxb hy2 (by omega), hb]
        have hR1 := Rl_e hR ho19 ho51
        have e56 : S1 56 (5 * b + p) = S 56 (5 * b + p) := ho51.1 56 _ (by omega)
        have e17 : T1 17 p = S 56 (5 * b + p) := by rw [ho19 17 p (by omega)]; exact a4
        unfold fB_X6_secondsFor_L26 fB_X8_secondsOf_L23
        rw [i_cn hx4, j5, e56, e17, (jy hx4 a2 hx6 (by omega)).1]
        refine E2_ckl (fun _ => E2_ckr (fun _ => ?_))
        by_cases c : S 56 (5 * b + p) ≤ x6
        · have c1 := tq_le hh hx6 c
          have c2 : S 56 (5 * b + p) ≤ y5 := Int32.le_iff_toInt_le.mpr (by rw [hh, hy5]; exact c1)
          exact E2_pl c (E2_pr c2 (E2_some ⟨he, ho19, ho51, hoL, hB.1, by show y4.toInt ≤ 1000; omega⟩))
        · have c1 := tq_len hh hx6 c
          have c2 : ¬ S 56 (5 * b + p) ≤ y5 := fun q => by have := tq_le hh hy5 q; omega
          refine E2_ql c (E2_qr c2 (E2_ckl (fun _ => E2_ltl (fun y10 e10 => E2_br (e_sat hb hxb hy2 a2 hy5 (by omega)) (fun r8 h8 => E2_ckr (fun _ => ?_))))))
          obtain ⟨t, t1, t2, t3⟩ := at2_sk hR1 (p := p) (n := n) (by omega) (by rw [e56, hh]; omega)
          have hy10 : y10.toInt = t := by rw [e10]; exact t2
          have er : r8 = y10 := by
            rw [h8, e10]
            exact ((hR1.2.2.2.1.2.2.2.2 p (by omega)).2.1 n (by rw [e56, hh]; omega)).symm
          have e30 : S1 30 x1.toNatClampNeg = S 30 i := by rw [i_cn hi]; exact ho51.1 30 i (by omega)
          have e10' : T1 10 o = T 10 o := ho19 10 o (by omega)
          have e13 : S1 0 13 = S 0 13 := ho51.1 0 13 (by omega)
          rw [er, e30, ← e10']
          refine E2_bd (e_lift (Lc := Lc1) hb hxb hR1 hy10 t1 t3 ho (by rw [e13]; exact hop)) (fun q q' hq => ?_)
          obtain ⟨u1, u2, u3, u4⟩ := hq
          rw [e10'] at u4
          refine E2_ltl (fun r11 e11 => E2_ltl (fun T12 t12 => E2_ltl (fun L13 l13 => E2_ltr (fun r12 e12 => E2_ltr (fun S13 s13 => E2_ltr (fun L14 l14 => ?_))))))
          have e11 : r11 = q.1 := e11
          have e12 : r12 = q'.1 := e12
          have v1 : o19 T T12 := by rw [show T12 = q.2.1 from t12]; exact o19_t ho19 u1
          have v2 : o51 S S13 := by rw [show S13 = q'.2.1 from s13]; exact o51_t ho51 u2
          have v3 : oL L L14 := by rw [show L14 = q'.2.2 from l14]; exact oL_t hoL u3
          rw [← e11, ← e12] at u4
          rw [i_cn hy10, e10']
          have wt := hR.2.1.2.2.2.1 t (by rw [← ho51.1 0 14 (by omega)]; exact t1)
          have wb : 0 ≤ (P 15 t).toInt ∧ (P 15 t).toInt ≤ 99 := by rw [wt.2.1]; exact ⟨by have := wt.2.2.2.2.1; omega, wt.2.2.2.2.2.1⟩
          rcases u4 with ⟨w1, w2⟩ | ⟨w1, w2⟩
          · have wa := w_able wb hab
            have na : ¬ T 10 o ≤ 0 := fun q => by have := tq_le rfl (b := 0) (by decide) q; omega
            refine E2_pl (by rw [w1]; decide) (E2_ql na (E2_ckl (fun _ => E2_ckl (fun _ => E2_ltl (fun y21 e21 => E2_ltl (fun y22 e22 => E2_ltr (fun y17 e17' => E2_ltr (fun y18 e18 => ?_))))))))
            refine ih (n + 1) y21 y22 y17 y18 T12 S13 L13 L14 (by rw [e21, e17', w2, he]) (by rw [e22]; exact i_p1 hx6 (by omega)) (by rw [e18]; exact i_p1 hy5 (by omega)) (by omega) ?_ v1 v2 v3
            rw [e17', w2, i_add (by omega) (by omega)]
            omega
          · have cb := clm_99 r11
            refine E2_ql (nmn w1) ?_
            rw [e_wi, bd_some]
            refine E2_ltl (fun y26 e26 => E2_ltl (fun y27 e27 => E2_ltr (fun y17 e17' => E2_ltr (fun y18 e18 => ?_))))
            refine ih (n + 1) y26 y27 y17 y18 T12 S13 L13 L14 (by rw [e26, e17', w2, he]) (by rw [e27]; exact i_p1 hx6 (by omega)) (by rw [e18]; exact i_p1 hy5 (by omega)) (by omega) ?_ v1 v2 v3
            rw [e17', w2, i_add (by omega) (by omega)]
            omega
  have j10 : (((10 : Int32) * xb) + x1).toNatClampNeg = 10 * b + i := by rw [jx 10 (by decide) (by omega) hxb hi (by omega), hb]
  unfold f_X6_secondsFor f_X8_secondsOf fL_X6_secondsFor_L26 fL_X8_secondsOf_L23
  rw [j10, i_cn hi]
  refine E2_bl (at_lvl ha hi) (fun r1 h1 => E2_pl (Int32.le_iff_toInt_le.mpr (by rw [h1]; show (0 : Int) ≤ _; omega)) (E2_ckl (fun _ => E2_ltl (fun y6 e6 => E2_ckr (fun _ => E2_ltr (fun y2 e2 => E2_br (at_bel ha hb hxb hS hR.1.2.2.1 hi (by omega)) (fun r3 h3 => ?_)))))))
  exact lp 2000 2000 pos y6 y2 0 r1 0 r3 T S Lc L (by rw [e6]; exact a1) (by rw [e2, ← a3]; exact a1) rfl h1 h3 (by omega) ⟨by decide, by show (0 : Int32).toInt ≤ _; rw [show (0 : Int32).toInt = 0 by decide]; omega⟩ o19_r o51_r oL_r
-- 62.zaz.17.z8
/-! taken away -/
def rmv (g : Nat → Int32) (pos k : Nat) : Int32 := if pos ≤ k then g (k + 1) else g k
theorem wsm_rm (g : Nat → Int32) (pos : Nat) : ∀ n, pos ≤ n → wsm (rmv g pos) n + g pos = wsm g (n + 1)
  | 0, h => by
    have : pos = 0 := by omega
    subst this; rfl
  | n + 1, h => by
    by_cases c : pos ≤ n
    · have ih := wsm_rm g pos n c
      have e : wsm (rmv g pos) (n + 1) = wsm (rmv g pos) n + g (n + 1) := by
        show wsm (rmv g pos) n + rmv g pos n = _
        unfold rmv; rw [if_pos c]
      show _ = wsm g (n + 1) + g (n + 1)
      rw [e, ← ih, Int32.add_assoc, Int32.add_comm (g (n + 1)) (g pos), ← Int32.add_assoc]
    · have e : pos = n + 1 := by omega
      subst e
      show _ = wsm g (n + 1) + g (n + 1)
      rw [wsm_cg (g := rmv g (n + 1)) (g' := g) (fun k hk => by unfold rmv; rw [if_neg (by omega)])]
def tkC (P T q : Tr) (i p pos h : Nat) (c : Int32) : Prop := (∀ j, q 16 j = if 10 * p + pos ≤ j ∧ j < 10 * p + (h - 1) then T 16 (j + 1) else T 16 j) ∧ (∀ j, q 17 j = if j = p then T 17 p - 1 else T 17 j) ∧ (∀ j, q 18 j = if j = p then T 18 p - P 15 i else T 18 j) ∧ (∀ j, q 15 j = if j = i then -1 else T 15 j) ∧ (∀ j, q 14 j = if j = i then c else T 14 j) ∧ ∀ a j, ¬ (14 ≤ a ∧ a ≤ 18) → q a j = T a j
def tkZ (b : Nat) (S q : Tr) (i p pos h : Nat) (c : Int32) : Prop := (∀ j, q 55 j = if 50 * b + 10 * p + pos ≤ j ∧ j < 50 * b + 10 * p + (h - 1) then S 55 (j + 1) else S 55 j) ∧ (∀ j, q 56 j = if j = 5 * b + p then S 56 (5 * b + p) - 1 else S 56 j) ∧ (∀ j, q 54 j = if j = 10 * b + i then -1 else S 54 j) ∧ (∀ j, q 53 j = if j = 10 * b + i then c else S 53 j) ∧ ∀ a j, ¬ (53 ≤ a ∧ a ≤ 56) → q a j = S a j
theorem st_if {T : Tr} {a i j : Nat} {v : Int32} : st T a i v a j = if j = i then v else T a j := by
  split
  · rename_i e; rw [e, st_same]
  · rename_i e; rw [st_ne e]
theorem e_tkc {T P : Tr} {x1 c : Int32} {i p pos h : Nat} (hi : x1.toInt = i) (hl : (T 15 i).toInt = p) (hp : p ≤ 4) (hh : (T 17 p).toInt = h) (hlv : Ep (f_X6_level T x1) (fun q => q.toInt = pos)) (hpos : pos < h) (h10 : h ≤ 10) : Ep (f_X6_takeAway T P x1 c) (fun q => tkC P T q i p pos h c) := by
  have lp : ∀ (N n : Nat) (x4 x5 : Int32) (T1 : Tr), x4.toInt = p → x5.toInt = n → pos ≤ n → n < h → (∀ j, T1 16 j = if 10 * p + pos ≤ j ∧ j < 10 * p + n then T 16 (j + 1) else T 16 j) → (∀ a j, a ≠ 16 → T1 a j = T a j) → Ep (lpF (fun _ _ => none) (fB_X6_takeAway_L22 P x1 c x4) N x5 T1) (fun q => tkC P T q i p pos h c) := by
    intro N
    induction N with
    | zero => intro n x4 x5 T1 _ _ _ _ _ _; exact Ep_none
    | succ N ih =>
      intro n x4 x5 T1 hx4 hx5 hn1 hn2 h16 ho
      show Ep (fB_X6_takeAway_L22 P x1 c x4 (lpF (fun _ _ => none) (fB_X6_takeAway_L22 P x1 c x4) N) x5 T1) _
      have ih := fun n x5 T1 => ih n x4 x5 T1 hx4
      generalize lpF (fun _ _ => none) (fB_X6_takeAway_L22 P x1 c x4) N = k at ih ⊢
      have e17 : (T1 17 p).toInt = h := by rw [ho 17 p (by omega)]; exact hh
      have ex : (x5 + 1).toInt = ((n + 1 : Nat) : Int) := i_p1 hx5 (by omega)
      obtain ⟨y1, y2⟩ := jy hx4 hp hx5 (by omega)
      have y3 : (((x4 * 10) + x5) + 1).toNatClampNeg = 10 * p + n + 1 := i_cn (by rw [i_addK y2 (y := 1) (by decide) (by omega) (by omega)]; omega)
      unfold fB_X6_takeAway_L22 fJ_X6_takeAway_J70
      rw [i_cn hx4, i_cn hi, y1, y3]
      refine Ep_ck (Ep_ite (fun cc => ?_) (fun cc => ?_))
      · have := tq_le e17 ex cc
        have en : n = h - 1 := by omega
        refine Ep_ck (Ep_lt (fun T10 t10 => Ep_ck (Ep_lt (fun T12 t12 => Ep_lt (fun T13 t13 => Ep_lt (fun T14 t14 => Ep_some ?_))))))
        refine ⟨fun j => ?_, fun j => ?_, fun j => ?_, fun j => ?_, fun j => ?_, fun a j ha => ?_⟩
        · rw [t14, st_oth (by decide), t13, st_oth (by decide), t12, st_oth (by decide), t10, st_oth (by decide), h16 j, en]
        · rw [t14, st_oth (by decide), t13, st_oth (by decide), t12, st_oth (by decide), t10, st_if, ho 17 p (by omega), ho 17 j (by omega)]
        · rw [t14, st_oth (by decide), t13, st_oth (by decide), t12, st_if, t10, st_oth (by decide), ho 18 p (by omega), ho 18 j (by omega)]
        · rw [t14, st_oth (by decide), t13, st_if, t12, st_oth (by decide), t10, st_oth (by decide), ho 15 j (by omega)]
        · rw [t14, st_if, t13, st_oth (by decide), t12, st_oth (by decide), t10, st_oth (by decide), ho 14 j (by omega)]
        · rw [t14, st_oth (by omega), t13, st_oth (by omega), t12, st_oth (by omega), t10, st_oth (by omega), ho a j (by omega)]
      · have := tq_len e17 ex cc
        refine Ep_ck (Ep_ck (Ep_lt (fun T2 t2 => Ep_lt (fun y ey => ih (n + 1) y T2 (by rw [ey]; exact ex) (by omega) (by omega) (fun j => ?_) (fun a j ha => by rw [t2, st_oth ha, ho a j ha])))))
        rw [t2, st_if, h16 j, h16 (10 * p + n + 1), if_neg (by omega : ¬ (10 * p + pos ≤ 10 * p + n + 1 ∧ 10 * p + n + 1 < 10 * p + n))]
        by_cases g : j = 10 * p + n
        · rw [if_pos g, if_pos (by omega), g]
        · rw [if_neg g]
          by_cases g2 : 10 * p + pos ≤ j ∧ j < 10 * p + n
          · rw [if_pos g2, if_pos (by omega)]
          · rw [if_neg g2, if_neg (by omega)]
  unfold f_X6_takeAway fL_X6_takeAway_L22
  refine Ep_bd hlv (fun r1 h1 => Ep_ite (fun _ => Ep_ck (Ep_lt (fun y6 e6 => ?_))) (fun cc => ?_))
  · refine lp 2000 pos y6 r1 T (by rw [e6, i_cn hi]; exact hl) h1 (Nat.le_refl _) hpos (fun j => ?_) (fun _ _ _ => rfl)
    rw [if_neg (by omega)]
  · have := tq_len (x := (0 : Int32)) (a := 0) (by decide) h1 cc
    omega
theorem e_tks {b : Nat} {S : Tr} {xb x1 c : Int32} {i p pos h : Nat} (hb : xb.toNatClampNeg = b) (hxb : 0 ≤ xb.toInt ∧ xb.toInt ≤ 1) (hi : x1.toInt = i) (hi9 : i ≤ 9) (hl : (S 54 (10 * b + i)).toInt = p) (hp : p ≤ 4) (hh : (S 56 (5 * b + p)).toInt = h) (hlv : Ep (f_X8_belowOf S xb x1) (fun q => q.toInt = pos)) (hpos : pos < h) (h10 : h ≤ 10) : Ep (f_X8_takes S xb x1 c) (fun q => tkZ b S q i p pos h c) := by
  have j10 : (((10 : Int32) * xb) + x1).toNatClampNeg = 10 * b + i := by rw [jx 10 (by decide) (by omega) hxb hi (by omega), hb]
  have lp : ∀ (N n : Nat) (x4 x5 : Int32) (T1 : Tr), x4.toInt = p → x5.toInt = n → pos ≤ n → n ≤ h - 1 → (∀ j, T1 55 j = if 50 * b + 10 * p + pos ≤ j ∧ j < 50 * b + 10 * p + n then S 55 (j + 1) else S 55 j) → (∀ j, T1 56 j = if j = 5 * b + p then S 56 (5 * b + p) - 1 else S 56 j) → (∀ a j, a ≠ 55 → a ≠ 56 → T1 a j = S a j) → Ep (lpF (fun _ _ => none) (fB_X8_takes_L36 xb x1 c x4) N x5 T1) (fun q => tkZ b S q i p pos h c) := by
    intro N
    induction N with
    | zero => intro n x4 x5 T1 _ _ _ _ _ _ _; exact Ep_none
    | succ N ih =>
      intro n x4 x5 T1 hx4 hx5 hn1 hn2 h55 h56 ho
      show Ep (fB_X8_takes_L36 xb x1 c x4 (lpF (fun _ _ => none) (fB_X8_takes_L36 xb x1 c x4) N) x5 T1) _
      have ih := fun n x5 T1 => ih n x4 x5 T1 hx4
      generalize lpF (fun _ _ => none) (fB_X8_takes_L36 xb x1 c x4) N = k at ih ⊢
      have j5 : (((5 : Int32) * xb) + x4).toNatClampNeg = 5 * b + p := by rw [jx 5 (by decide) (by omega) hxb hx4 (by omega), hb]
      have e56 : (T1 56 (5 * b + p)).toInt = ((h - 1 : Nat) : Int) := by rw [h56, if_pos rfl, i_subK hh (y := 1) (by decide) (by omega) (by omega)]; omega
      have y1 : ((((50 : Int32) * xb) + ((10 : Int32) * x4)) + x5).toNatClampNeg = 50 * b + 10 * p + n := by rw [jx3 hxb hx4 hp hx5 (by omega), hb]
      have b1 := i_cl (i := xb)
      have y2 : ((((50 : Int32) * xb) + ((10 : Int32) * x4)) + x5).toInt = 50 * (b : Int) + 10 * p + n := by
        rw [(ix2 hxb (y := x4) (z := x5) ⟨by omega, by omega⟩ ⟨by omega, by omega⟩).1, hx4, hx5]; omega
      have y3 : (((((50 : Int32) * xb) + ((10 : Int32) * x4)) + x5) + 1).toNatClampNeg = 50 * b + 10 * p + n + 1 := i_cn (by rw [i_addK y2 (y := 1) (by decide) (by omega) (by omega)]; omega)
      unfold fB_X8_takes_L36 fJ_X8_takes_J96
      rw [j5, j10, y1, y3]
      refine Ep_ck (Ep_ite (fun cc => ?_) (fun cc => ?_))
      · have := tq_le e56 hx5 cc
        have en : n = h - 1 := by omega
        refine Ep_ck (Ep_lt (fun T2 t2 => Ep_lt (fun T3 t3 => Ep_some ?_)))
        refine ⟨fun j => ?_, fun j => ?_, fun j => ?_, fun j => ?_, fun a j ha => ?_⟩
        · rw [t3, st_oth (by decide), t2, st_oth (by decide), h55 j, en]
        · rw [t3, st_oth (by decide), t2, st_oth (by decide), h56 j]
        · rw [t3, st_oth (by decide), t2, st_if, ho 54 j (by omega) (by omega)]
        · rw [t3, st_if, t2, st_oth (by decide), ho 53 j (by omega) (by omega)]
        · rw [t3, st_oth (by omega), t2, st_oth (by omega), ho a j (by omega) (by omega)]
      · have := tq_len e56 hx5 cc
        refine Ep_ck (Ep_ck (Ep_lt (fun T2 t2 => Ep_lt (fun y ey => ih (n + 1) y T2 (by rw [ey]; exact i_p1 hx5 (by omega)) (by omega) (by omega) (fun j => ?_) (fun j => by rw [t2, st_oth (by decide), h56 j]) (fun a j ha ha2 => by rw [t2, st_oth ha, ho a j ha ha2])))))
        rw [t2, st_if, h55 j, h55 (50 * b + 10 * p + n + 1), if_neg (by omega : ¬ (50 * b + 10 * p + pos ≤ 50 * b + 10 * p + n + 1 ∧ 50 * b + 10 * p + n + 1 < 50 * b + 10 * p + n))]
        by_cases g : j = 50 * b + 10 * p + n
        · rw [if_pos g, if_pos (by omega), g]
        · rw [if_neg g]
          by_cases g2 : 50 * b + 10 * p + pos ≤ j ∧ j < 50 * b + 10 * p + n
          · rw [if_pos g2, if_pos (by omega)]
          · rw [if_neg g2, if_neg (by omega)]
  unfold f_X8_takes fL_X8_takes_L36
  rw [j10]
  refine Ep_ck (Ep_lt (fun y2 e2 => Ep_bd hlv (fun r3 h3 => ?_)))
  have hy2 : y2.toInt = p := by rw [e2]; exact hl
  have j5 : (((5 : Int32) * xb) + y2).toNatClampNeg = 5 * b + p := by rw [jx 5 (by decide) (by omega) hxb hy2 (by omega), hb]
  rw [j5]
  refine Ep_ck (Ep_lt (fun S7 s7 => lp 2000 pos y2 r3 S7 hy2 h3 (Nat.le_refl _) (by omega) (fun j => ?_) (fun j => by rw [s7, st_if]) (fun a j ha ha2 => by rw [s7, st_oth ha2])))
  rw [if_neg (by omega), s7, st_oth (by decide)]
/-- side by side -/
theorem dyn_take {b i p pos h : Nat} {P T S T1 S1 : Tr} {c : Int32} (hd : dyn b P T S) (hS : iR BM S) (ha : at2 b T S i p pos) (hi9 : i ≤ 9) (hh : (S 56 (5 * b + p)).toInt = h) (h1 : tkC P T T1 i p pos h c) (h2 : tkZ b S S1 i p pos h c) : dyn b P T1 S1 := by
  obtain ⟨d1, d2, d3, d4, d5⟩ := hd
  obtain ⟨c1, c2, c3, c4, c5, c6⟩ := h1
  obtain ⟨s1, s2, s3, s4, s5⟩ := h2
  obtain ⟨a1, a2, a3, a4, a5, a6, a7, a8, a9, a10⟩ := ha
  refine ⟨by rw [c6 0 0 (by omega), s5 62 _ (by omega)]; exact d1, by rw [c6 0 1 (by omega), s5 61 _ (by omega)]; exact d2, fun q hq => ?_, fun q hq => ?_, fun q hq => ?_⟩
  · rw [s5 0 13 (by omega)] at hq
    rw [c6 11 q (by omega), c6 12 q (by omega), s5 59 _ (by omega), s5 60 _ (by omega)]; exact d3 q hq
  · rw [s5 0 14 (by omega)] at hq
    rw [c5, c4, s4, s3]
    by_cases g : q = i
    · rw [if_pos g, if_pos g, if_pos (by omega), if_pos (by omega)]; exact ⟨rfl, rfl⟩
    · rw [if_neg g, if_neg g, if_neg (by omega), if_neg (by omega)]; exact d4 q hq
  · by_cases g : q = p
    · subst g
      obtain ⟨k1, k2, k3⟩ := d5 q hq
      have en : (T1 17 q).toInt = ((h - 1 : Nat) : Int) := by rw [c2, if_pos rfl, k1, i_subK hh (y := 1) (by decide) (by omega) (by omega)]; omega
      have e7 : T1 17 q = S1 56 (5 * b + q) := by rw [c2, if_pos rfl, s2, if_pos rfl, k1]
      refine ⟨e7, fun k hk => ?_, ?_⟩
      · rw [← e7, en] at hk
        rw [c1, s1]
        by_cases g2 : pos ≤ k
        · rw [if_pos (by omega), if_pos (by omega)]
          have := k2 (k + 1) (by omega)
          rw [show 10 * q + k + 1 = 10 * q + (k + 1) by omega, show 50 * b + 10 * q + k + 1 = 50 * b + 10 * q + (k + 1) by omega]; exact this
        · rw [if_neg (by omega), if_neg (by omega)]; exact k2 k (by omega)
      · rw [i_cn en, c3, if_pos rfl, k3, i_cn (x := T 17 q) (n := h) (by rw [k1]; exact hh)]
        obtain ⟨m, rfl⟩ : ∃ m, h = m + 1 := ⟨h - 1, by omega⟩
        have ew : wgt P T q pos = P 15 i := by unfold wgt; rw [i_cn a8]
        rw [← wsm_rm (wgt P T q) pos m (by omega), ew, Int32.add_sub_cancel, show m + 1 - 1 = m by omega]
        refine wsm_cg (fun k hk => ?_)
        unfold rmv wgt
        rw [c1]
        by_cases g2 : pos ≤ k
        · rw [if_pos g2, if_pos (by omega), show 10 * q + (k + 1) = 10 * q + k + 1 by omega]
        · rw [if_neg g2, if_neg (by omega)]
    · refine stk1_o (d5 q hq) (fun j j1 j2 => ?_) ?_ ?_ (fun j j1 j2 => ?_) ?_ (BM56 hS _)
      · rw [c1, if_neg (by omega)]
      · rw [c2, if_neg g]
      · rw [c3, if_neg g]
      · rw [s1, if_neg (by omega)]
      · rw [s2, if_neg (by omega)]
theorem Wb_M {b a j : Nat} (h : Mb b a j = false) (h1 : ¬ (a = 0 ∧ (j = 2 ∨ (64 ≤ j ∧ j ≤ 70)))) (h2 : ¬ (a = 57 ∨ a = 58 ∨ a = 72 ∨ a = 75 ∨ a = 76 ∨ a = 77 ∨ a = 78 ∨ a = 82)) : Wb b a j = false := by
  cases hw : Wb b a j with
  | false => rfl
  | true =>
    exfalso
    unfold Wb at hw
    simp only [Bool.or_eq_true, Bool.and_eq_true, Nat.beq_eq] at hw
    rcases hw with (((((hw | ⟨g | g, hi⟩) | ⟨g, hi⟩) | ⟨g, hi⟩) | ⟨((g | g) | g) | g, hi⟩) | ⟨(g | g) | g, hi⟩)
    · unfold Wt at hw
      by_cases ha : a = 0
      · subst ha
        simp only [Nat.beq_refl, cond_true, Bool.or_eq_true, Nat.beq_eq] at hw
        have : j = 51 ∨ j = 72 := by omega
        rcases this with rfl | rfl <;> (unfold Mb at h; simp at h)
      · have e0 : Nat.beq a 0 = false := (by rw [← Bool.not_eq_true]; intro q; exact ha (Nat.eq_of_beq_eq_true q))
        rw [e0, cond_false] at hw
        simp only [Bool.or_eq_true, Nat.beq_eq] at hw
        have : a = 74 := by omega
        subst this
        unfold Mb at h; simp at h
    · subst g; rw [Mb_53 hi] at h; cases h
    · subst g; rw [Mb_54 hi] at h; cases h
    · subst g; rw [Mb_55 hi] at h; cases h
    · subst g; rw [Mb_56 hi] at h; cases h
    · omega
    · omega
    · subst g; rw [Mb_59 hi] at h; cases h
    · subst g; rw [Mb_60 hi] at h; cases h
    · subst g; unfold Mb at h; rw [hi] at h; simp at h
    · subst g; unfold Mb at h; rw [hi] at h; simp at h
    · subst g; unfold Mb at h; rw [hi] at h; simp at h
/-- what the moves leave of what is told for a trial -/
def fx (S S1 : Tr) : Prop := (∀ j, j = 2 ∨ (64 ≤ j ∧ j ≤ 70) → S1 0 j = S 0 j) ∧ ∀ a j, (a = 57 ∨ a = 58 ∨ a = 72 ∨ a = 75 ∨ a = 76 ∨ a = 77 ∨ a = 78 ∨ a = 82) → S1 a j = S a j
theorem aM_fx {b : Nat} {S S1 : Tr} (h : aG b S S1) (f : fx S S1) : aM b S S1 := fun a j hm => by
  by_cases h1 : a = 0 ∧ (j = 2 ∨ (64 ≤ j ∧ j ≤ 70))
  · obtain ⟨rfl, h1⟩ := h1; exact f.1 j h1
  · by_cases h2 : a = 57 ∨ a = 58 ∨ a = 72 ∨ a = 75 ∨ a = 76 ∨ a = 77 ∨ a = 78 ∨ a = 82
    · exact f.2 a j h2
    · exact h a j (Wb_M hm h1 h2)
-- 62.zaz.18.z9
/-! taken away and laid down: one train of each stays with the other -/
theorem fx_r {S : Tr} : fx S S := ⟨fun _ _ => rfl, fun _ _ _ => rfl⟩
theorem fx_t {S T U : Tr} (h1 : fx S T) (h2 : fx T U) : fx S U := ⟨fun j hj => (h2.1 j hj).trans (h1.1 j hj), fun a j ha => (h2.2 a j ha).trans (h1.2 a j ha)⟩
theorem fx_s {S T : Tr} {a i : Nat} {v : Int32} (h : fx S T) (h1 : ¬ (a = 0 ∧ (i = 2 ∨ (64 ≤ i ∧ i ≤ 70)))) (h2 : ¬ (a = 57 ∨ a = 58 ∨ a = 72 ∨ a = 75 ∨ a = 76 ∨ a = 77 ∨ a = 78 ∨ a = 82)) : fx S (st T a i v) := ⟨fun j hj => by rw [st_no (by omega)]; exact h.1 j hj, fun c j hc => by rw [st_no (by omega)]; exact h.2 c j hc⟩
theorem fx_z {b i p pos h : Nat} {S S1 : Tr} {c : Int32} (t : tkZ b S S1 i p pos h c) : fx S S1 := ⟨fun j _ => t.2.2.2.2 0 j (by omega), fun a j ha => t.2.2.2.2 a j (by omega)⟩
theorem cM_of {T T1 : Tr} (h : ∀ a j, ¬ (14 ≤ a ∧ a ≤ 18) → T1 a j = T a j) : cM T T1 := fun a j hm => h a j (fun q => by
  have : a = 14 ∨ a = 15 ∨ a = 16 ∨ a = 17 ∨ a = 18 := by omega
  rcases this with rfl | rfl | rfl | rfl | rfl <;> (simp [Mc] at hm))
theorem inv_take {b i p pos h : Nat} {S S1 : Tr} {c : Int32} (hv : inv b S) (hS : iR BM S) (hs : tkZ b S S1 i p pos h c) (h1 : S 53 (10 * b + i) = 1) (hc : ¬ c = 1) : inv b S1 := by
  obtain ⟨s1, s2, s3, s4, s5⟩ := hs
  refine ⟨fun q hq => ?_, fun q hq => ?_⟩
  · rw [s5 0 14 (by omega)] at hq
    obtain ⟨v1, v2, v3⟩ := hv.1 q hq
    rw [s4, s5 30 _ (by omega), s5 59 _ (by omega), s3, s5 0 12 (by omega)]
    by_cases g : q = i
    · subst g
      rw [if_pos rfl, if_pos rfl]
      refine ⟨fun e => absurd e hc, fun e => ?_, ?_⟩
      · rw [v1 h1] at e; exact absurd e (by decide)
      · have := BM54 hS (10 * b + q)
        show (-1 : Int) < _
        omega
    · rw [if_neg (by omega), if_neg (by omega)]; exact ⟨v1, v2, v3⟩
  · rw [s5 0 13 (by omega)] at hq
    rw [s5 59 _ (by omega), s5 57 _ (by omega)]; exact hv.2 q hq
def tkQ2 (b : Nat) (P T S : Tr) (i : Nat) (c : Int32) (T1 S1 : Tr) : Prop := Rl b P T1 S1 ∧ aG b S S1 ∧ ∃ p pos h : Nat, at2 b T S i p pos ∧ (S 56 (5 * b + p)).toInt = h ∧ tkC P T T1 i p pos h c ∧ tkZ b S S1 i p pos h c
theorem e_take {b i : Nat} {P T S : Tr} {xb x1 c : Int32} (hb : xb.toNatClampNeg = b) (hxb : 0 ≤ xb.toInt ∧ xb.toInt ≤ 1) (hR : Rl b P T S) (hi : x1.toInt = i) (hii : (i : Int) < (S 0 14).toInt) (h1 : S 53 (10 * b + i) = 1) (hc : ¬ c.toInt = 1) (hcr : 0 ≤ c.toInt ∧ c.toInt ≤ 5) : E2 (f_X6_takeAway T P x1 c) (f_X8_takes S xb x1 c) (tkQ2 b P T S i c) := by
  obtain ⟨⟨hS, hpI, hg⟩, hK, hs, hd, hv⟩ := id hR
  have h14 : (S 0 14).toInt ≤ 10 := (hS 0 14).2
  have hly : 0 ≤ (S 54 (10 * b + i)).toInt := (hg.2.1 i (by omega)).mp h1
  obtain ⟨p, pos, ha⟩ := at2_of hS hg.1 hd.2.2.2.1 hd.2.2.2.2 hii hly
  obtain ⟨a1, a2, a3, a4, a5, a6, a7, a8, a9, a10⟩ := id ha
  obtain ⟨h, hh⟩ : ∃ h : Nat, (S 56 (5 * b + p)).toInt = h := ⟨(S 56 (5 * b + p)).toInt.toNat, by omega⟩
  have j10 : (((10 : Int32) * xb) + x1).toNatClampNeg = 10 * b + i := by rw [jx 10 (by decide) (by omega) hxb hi (by omega), hb]
  have c1 := e_tkc (P := P) (c := c) hi a1 a2 (by rw [a4]; exact hh) (at_lvl ha hi) (by omega) (by omega)
  have c2 := e_tks (c := c) hb hxb hi (by omega) (by rw [← a3]; exact a1) a2 hh (at_bel ha hb hxb hS hg.1 hi (by omega)) (by omega) (by omega)
  have c3 := D_to (t_X8_takes2 S xb x1 c hS (by rw [hb]; exact hg) hxb ⟨by omega, by omega⟩ hcr (by rw [j10]; exact hly) hc)
  rw [hb] at c3
  refine E2_ep c1 (Ep_and c2 c3) (fun T1 S1 q1 q2 => ?_)
  obtain ⟨q2, q3, q4, q5, q6⟩ := q2
  have fM := aM_fx q5 (fx_z q2)
  exact ⟨⟨⟨q3, pI_aG hpI q5, q4⟩, pK_M hK fM, sta_M hs (cM_of q1.2.2.2.2.2) fM, dyn_take hd hS ha (by omega) hh q1 q2, inv_take hv hS q2 h1 (fun e => hc (by rw [e]; decide))⟩, q5, p, pos, h, ha, hh, q1, q2⟩
/-! laid down -/
def ptC (P T q : Tr) (i p h : Nat) (xi xp : Int32) : Prop := (∀ j, q 16 j = if j = 10 * p + h then xi else T 16 j) ∧ (∀ j, q 17 j = if j = p then T 17 p + 1 else T 17 j) ∧ (∀ j, q 18 j = if j = p then T 18 p + P 15 i else T 18 j) ∧ (∀ j, q 15 j = if j = i then xp else T 15 j) ∧ (∀ j, q 14 j = if j = i then 1 else T 14 j) ∧ ∀ a j, ¬ (14 ≤ a ∧ a ≤ 18) → q a j = T a j
def ptZ (b : Nat) (S q : Tr) (i p h : Nat) (xi xp : Int32) : Prop := (∀ j, q 55 j = if j = 50 * b + 10 * p + h then xi else S 55 j) ∧ (∀ j, q 56 j = if j = 5 * b + p then S 56 (5 * b + p) + 1 else S 56 j) ∧ (∀ j, q 54 j = if j = 10 * b + i then xp else S 54 j) ∧ (∀ j, q 53 j = if j = 10 * b + i then 1 else S 53 j) ∧ ∀ a j, ¬ (53 ≤ a ∧ a ≤ 56) → q a j = S a j
theorem e_ptc {T P : Tr} {xp xi : Int32} {i p h : Nat} (hi : xi.toInt = i) (hpx : xp.toInt = p) (hp : p ≤ 4) (hh : (T 17 p).toInt = h) (h9 : h ≤ 9) : Ep (f_X6_putOn T P xp xi) (fun q => ptC P T q i p h xi xp) := by
  unfold f_X6_putOn
  rw [i_cn hpx, i_cn hi]
  refine Ep_ck (Ep_lt (fun y2 e2 => ?_))
  have hy : y2.toInt = h := by rw [e2]; exact hh
  rw [(jy hpx hp hy (by omega)).1]
  refine Ep_ite (fun cc => ?_) (fun _ => Ep_ck (Ep_lt (fun T5 t5 => Ep_lt (fun T6 t6 => Ep_ck (Ep_lt (fun T8 t8 => Ep_lt (fun T9 t9 => Ep_lt (fun T10 t10 => Ep_some ?_))))))))
  · have := tq_le (x := (10 : Int32)) (a := 10) (by decide) hy cc
    omega
  refine ⟨fun j => ?_, fun j => ?_, fun j => ?_, fun j => ?_, fun j => ?_, fun a j ha => ?_⟩
  · rw [t10, st_oth (by decide), t9, st_oth (by decide), t8, st_oth (by decide), t6, st_oth (by decide), t5, st_if]
  · rw [t10, st_oth (by decide), t9, st_oth (by decide), t8, st_oth (by decide), t6, st_if, t5, st_oth (by decide), e2]
  · rw [t10, st_oth (by decide), t9, st_oth (by decide), t8, st_if, t6, st_oth (by decide), t5, st_oth (by decide)]
  · rw [t10, st_oth (by decide), t9, st_if, t8, st_oth (by decide), t6, st_oth (by decide), t5, st_oth (by decide)]
  · rw [t10, st_if, t9, st_oth (by decide), t8, st_oth (by decide), t6, st_oth (by decide), t5, st_oth (by decide)]
  · rw [t10, st_oth (by omega), t9, st_oth (by omega), t8, st_oth (by omega), t6, st_oth (by omega), t5, st_oth (by omega)]
theorem ptZ_of {b i p h : Nat} {S : Tr} {xi xp : Int32} (hh : (S 56 (5 * b + p)).toInt = h) : ptZ b S (lyS S b i p xi xp) i p h xi xp := by
  refine ⟨fun j => ?_, fun j => ls_56, fun j => ls_54, fun j => ls_53, fun a j ha => ?_⟩
  · rw [ls_55, show (S 56 (5 * b + p)).toInt.toNat = h by omega]
  · rw [ls_o (by omega) (by omega) (by omega) (by omega)]
theorem dyn_put {b i p h : Nat} {P T S T1 S1 : Tr} {xi xp : Int32} (hd : dyn b P T S) (hS : iR BM S) (hi : xi.toInt = i) (hi9 : i ≤ 9) (hp : p ≤ 4) (hh : (S 56 (5 * b + p)).toInt = h) (h9 : h ≤ 9) (h1 : ptC P T T1 i p h xi xp) (h2 : ptZ b S S1 i p h xi xp) : dyn b P T1 S1 := by
  obtain ⟨d1, d2, d3, d4, d5⟩ := hd
  obtain ⟨c1, c2, c3, c4, c5, c6⟩ := h1
  obtain ⟨s1, s2, s3, s4, s5⟩ := h2
  refine ⟨by rw [c6 0 0 (by omega), s5 62 _ (by omega)]; exact d1, by rw [c6 0 1 (by omega), s5 61 _ (by omega)]; exact d2, fun q hq => ?_, fun q hq => ?_, fun q hq => ?_⟩
  · rw [s5 0 13 (by omega)] at hq
    rw [c6 11 q (by omega), c6 12 q (by omega), s5 59 _ (by omega), s5 60 _ (by omega)]; exact d3 q hq
  · rw [s5 0 14 (by omega)] at hq
    rw [c5, c4, s4, s3]
    by_cases g : q = i
    · rw [if_pos g, if_pos g, if_pos (by omega), if_pos (by omega)]; exact ⟨rfl, rfl⟩
    · rw [if_neg g, if_neg g, if_neg (by omega), if_neg (by omega)]; exact d4 q hq
  · by_cases g : q = p
    · subst g
      obtain ⟨k1, k2, k3⟩ := d5 q hq
      have e7 : T1 17 q = S1 56 (5 * b + q) := by rw [c2, if_pos rfl, s2, if_pos rfl, k1]
      have en : (T1 17 q).toInt = ((h + 1 : Nat) : Int) := by rw [c2, if_pos rfl, k1]; exact i_p1 hh (by omega)
      refine ⟨e7, fun k hk => ?_, ?_⟩
      · rw [← e7, en] at hk
        rw [c1, s1]
        by_cases g2 : k = h
        · rw [if_pos (by omega), if_pos (by omega)]
        · rw [if_neg (by omega), if_neg (by omega)]; exact k2 k (by omega)
      · rw [i_cn en, c3, if_pos rfl, k3, i_cn (x := T 17 q) (n := h) (by rw [k1]; exact hh)]
        show _ = wsm (wgt P T1 q) h + wgt P T1 q h
        have e2 : wgt P T1 q h = P 15 i := by unfold wgt; rw [c1, if_pos rfl, i_cn hi]
        rw [e2]
        refine congrArg (fun z => z + P 15 i) (wsm_cg (fun k hk => ?_))
        unfold wgt
        rw [c1, if_neg (by omega)]
    · refine stk1_o (d5 q hq) (fun j j1 j2 => ?_) ?_ ?_ (fun j j1 j2 => ?_) ?_ (BM56 hS _)
      · rw [c1, if_neg (by omega)]
      · rw [c2, if_neg g]
      · rw [c3, if_neg g]
      · rw [s1, if_neg (by omega)]
      · rw [s2, if_neg (by omega)]
theorem inv_put {b i p h : Nat} {S S1 : Tr} {xi xp : Int32} (hv : inv b S) (hs : ptZ b S S1 i p h xi xp) (hst : S 59 (6 * b + (S 30 i).toNatClampNeg) = 1) (hpx : xp.toInt < (S 0 12).toInt) : inv b S1 := by
  obtain ⟨s1, s2, s3, s4, s5⟩ := hs
  refine ⟨fun q hq => ?_, fun q hq => ?_⟩
  · rw [s5 0 14 (by omega)] at hq
    obtain ⟨v1, v2, v3⟩ := hv.1 q hq
    rw [s4, s5 30 _ (by omega), s5 59 _ (by omega), s3, s5 0 12 (by omega)]
    by_cases g : q = i
    · subst g
      rw [if_pos rfl, if_pos rfl]
      exact ⟨fun _ => hst, fun e => by rw [hst] at e; exact absurd e (by decide), hpx⟩
    · rw [if_neg (by omega), if_neg (by omega)]; exact ⟨v1, v2, v3⟩
  · rw [s5 0 13 (by omega)] at hq
    rw [s5 59 _ (by omega), s5 57 _ (by omega)]; exact hv.2 q hq
theorem fx_p {b i p h : Nat} {S S1 : Tr} {xi xp : Int32} (t : ptZ b S S1 i p h xi xp) : fx S S1 := ⟨fun j _ => t.2.2.2.2 0 j (by omega), fun a j ha => t.2.2.2.2 a j (by omega)⟩
def ptQ (b : Nat) (P T S : Tr) (i p : Nat) (xi xp : Int32) (T1 S1 : Tr) : Prop := Rl b P T1 S1 ∧ aG b S S1 ∧ ∃ h : Nat, (S 56 (5 * b + p)).toInt = h ∧ ptC P T T1 i p h xi xp ∧ ptZ b S S1 i p h xi xp
theorem e_put {b i p : Nat} {P T S : Tr} {xb xi xp : Int32} (hb : xb.toNatClampNeg = b) (hxb : 0 ≤ xb.toInt ∧ xb.toInt ≤ 1) (hR : Rl b P T S) (hi : xi.toInt = i) (hii : (i : Int) < (S 0 14).toInt) (hpx : xp.toInt = p) (hpp : (p : Int) < (S 0 12).toInt) (h1 : ¬ S 53 (10 * b + i) = 1) (hst : S 59 (6 * b + (S 30 i).toNatClampNeg) = 1) : E2 (f_X6_putOn T P xp xi) (f_X8_lays S xb xp xi) (ptQ b P T S i p xi xp) := by
  obtain ⟨⟨hS, hpI, hg⟩, hK, hs, hd, hv⟩ := id hR
  have h14 : (S 0 14).toInt ≤ 10 := (hS 0 14).2
  have h12 : (S 0 12).toInt ≤ 5 := (hS 0 12).2
  have hly : lyM S b i < 0 := Int.not_le.mp (fun q => h1 ((hg.2.1 i (by omega)).mpr q))
  obtain ⟨h, hh⟩ : ∃ h : Nat, (S 56 (5 * b + p)).toInt = h := ⟨(S 56 (5 * b + p)).toInt.toNat, by have := BM56 hS (5 * b + p); omega⟩
  have hr := gF_room (p := p) (i := i) hg.1 (fun q k => BM55 hS _) (by omega) (by omega) hly
  have hr : (S 56 (5 * b + p)).toInt ≤ 9 := hr
  have ec := i_cn hi
  have c1 := e_ptc (P := P) (T := T) hi hpx (by omega) (h := h) (by rw [(hd.2.2.2.2 p (by omega)).1]; exact hh) (by omega)
  have c2 := D_to (t_X8_lays S xb xp xi hS hxb ⟨by omega, by omega⟩ ⟨by omega, by omega⟩ (by rw [hb, ec]; exact ⟨hg.1, fun j hj _ => hg.2.1 j hj⟩) (by rw [hb]; exact hg.2.2) (by rw [hb, ec]; exact hly) (by omega))
  rw [hb, ec, i_cn hpx] at c2
  refine E2_ep c1 c2 (fun T1 S1 q1 q2 => ?_)
  obtain ⟨rfl, q3, q4, q5⟩ := q2
  have z := ptZ_of (b := b) (i := i) (p := p) (S := S) (xi := xi) (xp := xp) hh
  have fM := aM_fx q5 (fx_p z)
  exact ⟨⟨⟨q3, pI_aG hpI q5, q4⟩, pK_M hK fM, sta_M hs (cM_of q1.2.2.2.2.2) fM, dyn_put hd hS hi (by omega) (by omega) hh (by omega) q1 z, inv_put hv z hst (by omega)⟩, q5, h, hh, q1, z⟩
-- 62.zaz.19.z10
/-! a place for a piece -/
def chC (T P : Tr) (xi : Int32) : Option Int32 := if 0 ≤ (T 13 xi.toNatClampNeg) then (bd (f_X6_hasRoom T P (T 13 xi.toNatClampNeg) xi) fun r4 => if r4 = 0 then (some (-1)) else (some (T 13 xi.toNatClampNeg))) else (f_X6_placeByRule T P xi)
theorem stow_ch {T P : Tr} {xi : Int32} : f_X6_stow T P xi = ck (okI xi 10) (bd (chC T P xi) fun r => fJ_X6_stow_J31 P xi r T) := by
  unfold f_X6_stow chC
  refine congrArg (ck _) ?_
  show (if 0 ≤ (T 13 xi.toNatClampNeg) then _ else _) = _
  by_cases c : 0 ≤ (T 13 xi.toNatClampNeg)
  · rw [if_pos c, if_pos c, bd_bd]
    refine congrArg (bd _) (funext (fun r4 => ?_))
    by_cases d : r4 = 0
    · rw [if_pos d, if_pos d]; rfl
    · rw [if_neg d, if_neg d]; rfl
  · rw [if_neg c, if_neg c]
def plQ (S : Tr) (q q' : Int32) : Prop := q = q' ∧ (q'.toInt = -1 ∨ (0 ≤ q'.toInt ∧ q'.toInt < (S 0 12).toInt))
theorem e_pbr {b i : Nat} {P T S : Tr} {xb xi : Int32} (hb : xb.toNatClampNeg = b) (hxb : 0 ≤ xb.toInt ∧ xb.toInt ≤ 1) (hR : Rl b P T S) (hi : xi.toInt = i) (hii : (i : Int) < (S 0 14).toInt) : E2 (f_X6_placeByRule T P xi) (fL_X8_placeFor_L75 S xb xi (-1) 0) (plQ S) := by
  obtain ⟨⟨hS, hpI, hg⟩, hK, hs, hd, hv⟩ := id hR
  have h12 : 0 ≤ (S 0 12).toInt ∧ (S 0 12).toInt ≤ 5 := hS 0 12
  obtain ⟨m, hm⟩ : ∃ m : Nat, (S 0 12).toInt = m := ⟨(S 0 12).toInt.toNat, by omega⟩
  have hP0 : P 0 0 = S 0 12 := hK.1.1
  have h3 : T 0 3 = S 0 64 := hs.2.2.1
  have h64 := hs.2.2.2.2.2.2.2
  have lp : ∀ (N M n : Nat) (x2 x3 y3 y4 : Int32), x2 = y3 → x3.toInt = n → y4.toInt = n → n ≤ m → (y3.toInt = -1 ∨ (0 ≤ y3.toInt ∧ y3.toInt < (S 0 12).toInt)) → E2 (lpF (fun _ _ => none) (fB_X6_placeByRule_L4 T P xi) N x2 x3) (lpF (fun _ _ => none) (fB_X8_placeFor_L75 S xb xi) M y3 y4) (plQ S) := by
    intro N
    induction N with
    | zero => intro M n x2 x3 y3 y4 _ _ _ _ _; exact E2_nl
    | succ N ih =>
      intro M n x2 x3 y3 y4 he hx hy hn hb0
      cases M with
      | zero => exact E2_nr
      | succ M =>
        subst he
        show E2 (fB_X6_placeByRule_L4 T P xi (lpF (fun _ _ => none) (fB_X6_placeByRule_L4 T P xi) N) x2 x3) (fB_X8_placeFor_L75 S xb xi (lpF (fun _ _ => none) (fB_X8_placeFor_L75 S xb xi) M) x2 y4) _
        have ih := fun n x2 x3 y3 y4 => ih M n x2 x3 y3 y4
        generalize lpF (fun _ _ => none) (fB_X6_placeByRule_L4 T P xi) N = k at ih ⊢
        generalize lpF (fun _ _ => none) (fB_X8_placeFor_L75 S xb xi) M = k' at ih ⊢
        have exy : x3 = y4 := Int32.toInt_inj.mp (hx.trans hy.symm)
        subst exy
        unfold fB_X6_placeByRule_L4 fB_X8_placeFor_L75 fJ_X6_placeByRule_J70
        rw [hP0]
        refine E2_it Iff.rfl (fun _ _ => E2_some ⟨rfl, hb0⟩) (fun c _ => ?_)
        have c := tq_len hm hx c
        have hpp : (n : Int) < (S 0 12).toInt := by omega
        have ex : (x3 + 1).toInt = ((n + 1 : Nat) : Int) := i_p1 hx (by omega)
        have keep : ∀ z : Int32, (z.toInt = -1 ∨ (0 ≤ z.toInt ∧ z.toInt < (S 0 12).toInt)) → E2 (lt (x3 + 1) fun y10 => k z y10) (lt (x3 + 1) fun y11 => k' z y11) (plQ S) := fun z hz => E2_ltl (fun y10 e10 => E2_ltr (fun y11 e11 => ih (n + 1) z y10 z y11 rfl (by rw [e10]; exact ex) (by rw [e11]; exact ex) (by omega) hz))
        have here : x3.toInt = -1 ∨ (0 ≤ x3.toInt ∧ x3.toInt < (S 0 12).toInt) := Or.inr ⟨by omega, by omega⟩
        have j0 : ∀ z : Int32, fJ_X6_placeByRule_J75 k T P xi z x3 0 = (lt (x3 + 1) fun y10 => k z y10) := fun z => by unfold fJ_X6_placeByRule_J75; rw [if_pos rfl]
        have j1 : ∀ z : Int32, fJ_X6_placeByRule_J75 k T P xi z x3 1 = (lt (x3 + 1) fun y10 => k x3 y10) := fun z => by unfold fJ_X6_placeByRule_J75; rw [if_neg (by decide)]
        refine E2_bd (e_room hb hxb hx hS hg.1 hK hd.2.2.2.2 hpp hi hii) (fun r2 r6 hr => ?_)
        obtain ⟨hr1, hr2⟩ := hr
        subst hr1
        rw [h3, j0, j1]
        refine E2_it Iff.rfl (fun _ _ => keep x2 hb0) (fun _ _ => ?_)
        by_cases n2 : x2 < 0
        · have n2' : ¬ 0 ≤ x2 := fun q => by have := tq_lt rfl (b := 0) (by decide) n2; have := tq_le (a := 0) (by decide) rfl q; omega
          refine E2_pr n2 (E2_itl (fun _ => E2_ql n2' (keep x3 here)) (fun _ => E2_itl (fun _ => E2_pl n2 (keep x3 here)) (fun _ => keep x3 here)))
        · have n2' : 0 ≤ x2 := Int32.le_iff_toInt_le.mpr (by have := tq_ltn rfl (b := 0) (by decide) n2; show (0 : Int) ≤ _; omega)
          have b0 := tq_ltn rfl (b := 0) (by decide) n2
          refine E2_qr n2 ?_
          have cs : S 0 64 = 0 ∨ S 0 64 = 1 ∨ S 0 64 = 2 := by
            rcases (by omega : (S 0 64).toInt = 0 ∨ (S 0 64).toInt = 1 ∨ (S 0 64).toInt = 2) with g | g | g
            · exact Or.inl (Int32.toInt_inj.mp g)
            · exact Or.inr (Or.inl (Int32.toInt_inj.mp g))
            · exact Or.inr (Or.inr (Int32.toInt_inj.mp g))
          rcases cs with g | g | g
          · rw [g]
            exact E2_pl rfl (E2_pl n2' (E2_qr (by decide) (E2_qr (by decide) (keep x2 hb0))))
          · rw [g]
            refine E2_ql (by decide) (E2_pl rfl (E2_ql n2 (E2_ckl (fun _ => E2_ckl (fun _ => E2_qr (by decide) (E2_pr rfl ?_))))))
            obtain ⟨q, hq⟩ : ∃ q : Nat, x2.toInt = q := ⟨x2.toInt.toNat, by omega⟩
            have q12 : (q : Int) < (S 0 12).toInt := by rcases hb0 with z | z <;> omega
            refine E2_br (e_wgt hb hxb hx (by omega) hS hg.1 hK.2.2.2.1 (hd.2.2.2.2 n (by omega))) (fun r16 h16 => E2_br (e_wgt hb hxb hq (by omega) hS hg.1 hK.2.2.2.1 (hd.2.2.2.2 q (by omega))) (fun r19 h19 => ?_))
            rw [h16, h19, i_cn hx, i_cn hq]
            exact E2_it Iff.rfl (fun _ _ => keep x2 hb0) (fun _ _ => keep x3 here)
          · rw [g]
            exact E2_ql (by decide) (E2_ql (by decide) (E2_pr rfl (keep x3 here)))
  unfold f_X6_placeByRule fL_X6_placeByRule_L4 fL_X8_placeFor_L75
  exact lp 2000 2000 0 (-1) 0 (-1) 0 rfl (by decide) (by decide) (by omega) (Or.inl (by decide))
theorem e_ch {b i : Nat} {P T S : Tr} {xb xi : Int32} (hb : xb.toNatClampNeg = b) (hxb : 0 ≤ xb.toInt ∧ xb.toInt ≤ 1) (hR : Rl b P T S) (hi : xi.toInt = i) (hii : (i : Int) < (S 0 14).toInt) : E2 (chC T P xi) (f_X8_placeFor S xb xi) (plQ S) := by
  obtain ⟨⟨hS, hpI, hg⟩, hK, hs, hd, hv⟩ := id hR
  obtain ⟨t1, t2⟩ := hs.2.1 i hii
  have hold : ∀ v : Int32, T 13 i = v → 0 ≤ v.toInt → E2 (bd (f_X6_hasRoom T P (T 13 i) xi) fun r4 => if r4 = 0 then (some (-1 : Int32)) else (some (T 13 i))) (bd (f_X8_doesHold S xb v xi) fun r26 => if r26 = 0 then (some (-1)) else (some v)) (plQ S) := fun v hv0 hv1 => by
    obtain ⟨q, hq⟩ : ∃ q : Nat, v.toInt = q := ⟨v.toInt.toNat, by omega⟩
    rw [hv0] at t2 ⊢
    refine E2_bd (e_room hb hxb hq hS hg.1 hK hd.2.2.2.2 (by omega) hi hii) (fun r4 r26 hr => ?_)
    rw [hr.1]
    exact E2_it Iff.rfl (fun _ _ => E2_some ⟨rfl, Or.inl (by decide)⟩) (fun _ _ => E2_some ⟨rfl, Or.inr ⟨hv1, t2⟩⟩)
  unfold chC f_X8_placeFor
  rw [i_cn hi]
  refine E2_ckr (fun _ => ?_)
  by_cases c72 : S 72 i < 0
  · have c := tq_lt rfl (b := 0) (by decide) c72
    rw [if_pos c] at t1
    refine E2_pr c72 (E2_ckr (fun _ => ?_))
    by_cases c33 : S 33 i < 0
    · have d := tq_lt rfl (b := 0) (by decide) c33
      refine E2_pr c33 (E2_ql (fun q => ?_) (e_pbr hb hxb hR hi hii))
      have := tq_le (a := 0) (by decide) rfl q
      rw [t1] at this; omega
    · have d := tq_ltn rfl (b := 0) (by decide) c33
      exact E2_qr c33 (E2_pl (Int32.le_iff_toInt_le.mpr (by rw [t1]; show (0 : Int) ≤ _; omega)) (hold _ t1 d))
  · have c := tq_ltn rfl (b := 0) (by decide) c72
    rw [if_neg (by omega)] at t1
    exact E2_qr c72 (E2_pl (Int32.le_iff_toInt_le.mpr (by rw [t1]; show (0 : Int) ≤ _; omega)) (hold _ t1 c))
/-- a piece is stowed -/
def stQ (b : Nat) (P T S : Tr) (i : Nat) (T1 S1 : Tr) : Prop := Rl b P T1 S1 ∧ aG b S S1 ∧ (∀ a j, ¬ (53 ≤ a ∧ a ≤ 56) → S1 a j = S a j) ∧ (∀ j, j ≠ 10 * b + i → S1 53 j = S 53 j) ∧ (∀ a j, ¬ (14 ≤ a ∧ a ≤ 18) → T1 a j = T a j) ∧ (S1 53 (10 * b + i) = 1 ∨ S1 53 (10 * b + i) = 5)
theorem e_stow {α β : Type} {Q : α → β → Prop} {K : Tr → Option α} {K' : Tr → Option β} {b i : Nat} {P T S : Tr} {xb xi : Int32} (hb : xb.toNatClampNeg = b) (hxb : 0 ≤ xb.toInt ∧ xb.toInt ≤ 1) (hR : Rl b P T S) (hi : xi.toInt = i) (hii : (i : Int) < (S 0 14).toInt) (h0 : S 53 (10 * b + i) = 0) (hst : S 59 (6 * b + (S 30 i).toNatClampNeg) = 1) (hk : ∀ T1 S1, stQ b P T S i T1 S1 → E2 (K T1) (K' S1) Q) : E2 (bd (f_X6_stow T P xi) K) (bd (f_X8_placeFor S xb xi) fun r => if 0 ≤ r then (bd (f_X8_lays S xb r xi) fun S_27 => K' S_27) else (lt (st S 53 (((10 : Int32) * xb) + xi).toNatClampNeg 5) fun S_31 => K' S_31)) Q := by
  obtain ⟨⟨hS, hpI, hg⟩, hK, hs, hd, hv⟩ := id hR
  have h14 : (S 0 14).toInt ≤ 10 := (hS 0 14).2
  have j10 : (((10 : Int32) * xb) + xi).toNatClampNeg = 10 * b + i := by rw [jx 10 (by decide) (by omega) hxb hi (by omega), hb]
  have n1 : ¬ S 53 (10 * b + i) = 1 := by rw [h0]; decide
  rw [stow_ch, bd_ck, bd_bd]
  refine E2_ckl (fun _ => E2_bd (e_ch hb hxb hR hi hii) (fun r r' hr => ?_))
  obtain ⟨hr1, hr2⟩ := hr
  subst hr1
  unfold fJ_X6_stow_J31
  by_cases c : 0 ≤ r
  · have c0 := tq_le (a := 0) (by decide) rfl c
    obtain ⟨p, hp⟩ : ∃ p : Nat, r.toInt = p := ⟨r.toInt.toNat, by omega⟩
    have hpp : (p : Int) < (S 0 12).toInt := by rcases hr2 with z | z <;> omega
    rw [if_pos c, if_pos c, bd_bd]
    refine E2_bd (e_put hb hxb hR hi hii hp hpp n1 hst) (fun T1 S1 hq => ?_)
    rw [bd_some]
    obtain ⟨q1, q2, h, q3, q4, q5⟩ := hq
    refine hk T1 S1 ⟨q1, q2, q5.2.2.2.2, fun j hj => by rw [q5.2.2.2.1, if_neg hj], q4.2.2.2.2.2, Or.inl (by rw [q5.2.2.2.1, if_pos rfl])⟩
  · rw [if_neg c, if_neg c, bd_ck, bd_lt, j10, i_cn hi]
    refine E2_ckl (fun _ => E2_ltl (fun T13 t13 => E2_ltr (fun S31 s31 => ?_)))
    rw [bd_some]
    have g1 : gI b S31 := by
      have := gI_53 (S := S) (x1 := xb) (x3 := xi) (c := 5) (by rw [hb]; exact hg) hxb ⟨by omega, by omega⟩ (by rw [j10]; exact n1) (by decide)
      rw [hb, j10] at this; rw [s31]; exact this
    have aG1 : aG b S S31 := by rw [s31]; exact aG_set aG_rfl (Wb_53 (inB_of (by omega) (by omega)))
    have so : ∀ a j, ¬ (a = 53 ∧ j = 10 * b + i) → S31 a j = S a j := fun a j hn => by rw [s31, st_no hn]
    have to : ∀ a j, ¬ (a = 14 ∧ j = i) → T13 a j = T a j := fun a j hn => by rw [t13, st_no hn]
    have s5 : S31 53 (10 * b + i) = 5 := by rw [s31, st_same]
    have t5 : T13 14 i = 5 := by rw [t13, st_same]
    have hB : iR BM S31 := by rw [s31]; exact iR_set hS (by decide : (0 : Int) ≤ (5 : Int32).toInt) (by decide : (5 : Int32).toInt ≤ (5 : Int))
    have fM : aM b S S31 := aM_fx aG1 ⟨fun j _ => so 0 j (by omega), fun a j _ => so a j (by omega)⟩
    refine hk T13 S31 ⟨⟨⟨hB, pI_aG hpI aG1, g1⟩, pK_M hK fM, sta_M hs (cM_of (fun a j hn => to a j (by omega))) fM, ?_, ?_⟩, aG1, fun a j hn => so a j (by omega), fun j hj => so 53 j (by omega), fun a j hn => to a j (by omega), Or.inr s5⟩
    · obtain ⟨d1, d2, d3, d4, d5⟩ := hd
      refine ⟨by rw [to 0 0 (by omega), so 62 _ (by omega)]; exact d1, by rw [to 0 1 (by omega), so 61 _ (by omega)]; exact d2, fun q hq => ?_, fun q hq => ?_, stk_e d5 (fun j => to 16 j (by omega)) (fun j => to 17 j (by omega)) (fun j => to 18 j (by omega)) (fun j => so 55 j (by omega)) (fun j => so 56 j (by omega)) hS⟩
      · rw [so 0 13 (by omega)] at hq
        rw [to 11 q (by omega), to 12 q (by omega), so 59 _ (by omega), so 60 _ (by omega)]; exact d3 q hq
      · rw [so 0 14 (by omega)] at hq
        by_cases g : q = i
        · subst g
          rw [t5, s5, to 15 q (by omega), so 54 _ (by omega)]; exact ⟨rfl, (d4 q hq).2⟩
        · rw [to 14 q (by omega), to 15 q (by omega), so 53 _ (by omega), so 54 _ (by omega)]; exact d4 q hq
    · refine ⟨fun q hq => ?_, fun q hq => ?_⟩
      · rw [so 0 14 (by omega)] at hq
        obtain ⟨v1, v2, v3⟩ := hv.1 q hq
        rw [so 30 _ (by omega), so 59 _ (by omega), so 54 _ (by omega), so 0 12 (by omega)]
        by_cases g : q = i
        · subst g
          rw [s5]
          exact ⟨fun e => absurd e (by decide), fun e => by rw [hst] at e; exact absurd e (by decide), v3⟩
        · rw [so 53 _ (by omega)]; exact ⟨v1, v2, v3⟩
      · rw [so 0 13 (by omega)] at hq
        rw [so 59 _ (by omega), so 57 _ (by omega)]; exact hv.2 q hq
-- 62.zaz.20.z11s
/-! seconds of the reference: what stays -/
set_option maxHeartbeats 1000000 in
set_option maxRecDepth 100000 in
theorem q5_X8_boundLaw {S0 : Tr} (S : Tr) (L : Lo) (x1 : Int32) (x2 : Int32) (x3 : Int32) (hS : o51 S0 S)   : Ep (f_X8_boundLaw S L x1 x2 x3) (fun q => o51 S0 q.2.1) := by
  unfold f_X8_boundLaw
  refine Ep_ck ?_
  refine Ep_ite (fun _ => ?_) (fun _ => ?_)
  · exact Ep_some hS
  · refine Ep_bd (Ep_mono (fr_law S L x1) (fun q hq => o51_t hS hq.1)) (fun q hq => ?_)
    refine Ep_lt (fun r3 er3 => ?_)
    refine Ep_lt (fun S_4 eS_4 => ?_)
    have hS_4 : o51 S0 S_4 := by rw [eS_4]; exact hq
    refine Ep_lt (fun L_5 eL_5 => ?_)
    refine Ep_ite (fun _ => ?_) (fun _ => ?_)
    · refine Ep_ite (fun _ => ?_) (fun _ => ?_)
      · refine Ep_ite (fun _ => ?_) (fun _ => ?_)
        · exact Ep_some hS_4
        · exact Ep_some hS_4
      · exact Ep_some hS_4
    · exact Ep_some hS_4
set_option maxHeartbeats 1000000 in
set_option maxRecDepth 100000 in
theorem q5_X8_liftOf {S0 : Tr} (S : Tr) (L : Lo) (x1 : Int32) (x2 : Int32) (x3 : Int32) (hS : o51 S0 S)   : Ep (f_X8_liftOf S L x1 x2 x3) (fun q => o51 S0 q.2.1) := by
  unfold f_X8_liftOf
  refine Ep_any (fun L_1 => ?_)
  refine Ep_ck ?_
  refine Ep_any (fun r5 => ?_)
  refine Ep_ck ?_
  refine Ep_bd (q5_X8_boundLaw S L_1 (0 : Int32) (((S 31 x2.toNatClampNeg) / r5) + 1) (99 : Int32) hS) (fun q hq => ?_)
  refine Ep_lt (fun r9 er9 => ?_)
  refine Ep_lt (fun S_10 eS_10 => ?_)
  have hS_10 : o51 S0 S_10 := by rw [eS_10]; exact hq
  refine Ep_lt (fun L_11 eL_11 => ?_)
  exact Ep_some hS_10
set_option maxHeartbeats 1000000 in
set_option maxRecDepth 100000 in
theorem q5B_X8_secondsOf_L23 {S0 : Tr} (x1 : Int32) (x2 : Int32) (x3 : Int32)    (N : Nat) : ∀ (x4 : Int32) (x5 : Int32) (S : Tr) (L : Lo), o51 S0 S → Ep (lpF (fun _ _ _ _ => none) (fB_X8_secondsOf_L23 x1 x2 x3) N x4 x5 S L) (fun q => o51 S0 q.2.1) := by
  induction N with
  | zero => intro x4 x5 S L _; exact Ep_none
  | succ N ih =>
    intro x4 x5 S L hS
    show Ep (fB_X8_secondsOf_L23 x1 x2 x3 (lpF (fun _ _ _ _ => none) (fB_X8_secondsOf_L23 x1 x2 x3) N) x4 x5 S L) _
    have hk23 := ih
    clear ih
    generalize lpF (fun _ _ _ _ => none) (fB_X8_secondsOf_L23 x1 x2 x3) N = k23 at hk23 ⊢
    unfold fB_X8_secondsOf_L23
    refine Ep_ck ?_
    refine Ep_ite (fun _ => ?_) (fun _ => ?_)
    · exact Ep_some hS
    · refine Ep_any (fun r8 => ?_)
      refine Ep_ck ?_
      refine Ep_bd (q5_X8_liftOf S L x1 r8 (S 30 x2.toNatClampNeg) hS) (fun q hq => ?_)
      refine Ep_lt (fun r12 er12 => ?_)
      refine Ep_lt (fun S_13 eS_13 => ?_)
      have hS_13 : o51 S0 S_13 := by rw [eS_13]; exact hq
      refine Ep_lt (fun L_14 eL_14 => ?_)
      refine Ep_lt (fun y17 ey17 => ?_)
      refine Ep_lt (fun y18 ey18 => ?_)
      exact hk23 y17 y18 S_13 L_14 hS_13
set_option maxHeartbeats 1000000 in
set_option maxRecDepth 100000 in
theorem q5L_X8_secondsOf_L23 {S0 : Tr} (x1 : Int32) (x2 : Int32) (x3 : Int32)    (x4 : Int32) (x5 : Int32) (S : Tr) (L : Lo) (hS : o51 S0 S) : Ep (fL_X8_secondsOf_L23 x1 x2 x3 x4 x5 S L) (fun q => o51 S0 q.2.1) := by
  unfold fL_X8_secondsOf_L23
  exact q5B_X8_secondsOf_L23 x1 x2 x3 2000 x4 x5 S L hS
set_option maxHeartbeats 1000000 in
set_option maxRecDepth 100000 in
theorem q5_X8_secondsOf {S0 : Tr} (S : Tr) (L : Lo) (x1 : Int32) (x2 : Int32) (hS : o51 S0 S)   : Ep (f_X8_secondsOf S L x1 x2) (fun q => o51 S0 q.2.1) := by
  unfold f_X8_secondsOf
  refine Ep_ck ?_
  refine Ep_lt (fun y2 ey2 => ?_)
  refine Ep_any (fun r3 => ?_)
  exact q5L_X8_secondsOf_L23 x1 x2 y2 0 r3 S L hS
set_option maxHeartbeats 1000000 in
set_option maxRecDepth 100000 in
theorem qL_X8_layNames {L0 : Lo} (S : Tr) (L : Lo) (x1 : Int32) (x2 : Int32) (x3 : Int32) (hL : oL L0 L)   : Ep (f_X8_layNames S L x1 x2 x3) (fun q => oL L0 q) := by
  unfold f_X8_layNames
  refine Ep_ck ?_
  refine Ep_lt (fun y2 ey2 => ?_)
  refine Ep_ck ?_
  refine Ep_lt (fun L_4 eL_4 => ?_)
  have hL_4 : oL L0 L_4 := by rw [eL_4]; exact oL_s hL (Or.inl rfl)
  refine Ep_lt (fun L_5 eL_5 => ?_)
  have hL_5 : oL L0 L_5 := by rw [eL_5]; exact oL_s hL_4 (Or.inl rfl)
  refine Ep_any (fun r6 => ?_)
  refine Ep_lt (fun L_9 eL_9 => ?_)
  have hL_9 : oL L0 L_9 := by rw [eL_9]; exact oL_s hL_5 (Or.inl rfl)
  refine Ep_ck ?_
  refine Ep_lt (fun L_11 eL_11 => ?_)
  have hL_11 : oL L0 L_11 := by rw [eL_11]; exact oL_s hL_9 (Or.inl rfl)
  refine Ep_any (fun r12 => ?_)
  refine Ep_lt (fun L_15 eL_15 => ?_)
  have hL_15 : oL L0 L_15 := by rw [eL_15]; exact oL_s hL_11 (Or.inl rfl)
  refine Ep_ck ?_
  refine Ep_lt (fun L_17 eL_17 => ?_)
  have hL_17 : oL L0 L_17 := by rw [eL_17]; exact oL_s hL_15 (Or.inl rfl)
  refine Ep_any (fun r18 => ?_)
  refine Ep_lt (fun L_21 eL_21 => ?_)
  have hL_21 : oL L0 L_21 := by rw [eL_21]; exact oL_s hL_17 (Or.inl rfl)
  exact Ep_some hL_21
set_option maxHeartbeats 1000000 in
set_option maxRecDepth 100000 in
theorem qL_X8_boundLaw {L0 : Lo} (S : Tr) (L : Lo) (x1 : Int32) (x2 : Int32) (x3 : Int32) (hL : oL L0 L)   : Ep (f_X8_boundLaw S L x1 x2 x3) (fun q => oL L0 q.2.2) := by
  unfold f_X8_boundLaw
  refine Ep_ck ?_
  refine Ep_ite (fun _ => ?_) (fun _ => ?_)
  · exact Ep_some hL
  · refine Ep_bd (Ep_mono (fr_law S L x1) (fun q hq => oL_t hL hq.2)) (fun q hq => ?_)
    refine Ep_lt (fun r3 er3 => ?_)
    refine Ep_lt (fun S_4 eS_4 => ?_)
    refine Ep_lt (fun L_5 eL_5 => ?_)
    have hL_5 : oL L0 L_5 := by rw [eL_5]; exact hq
    refine Ep_ite (fun _ => ?_) (fun _ => ?_)
    · refine Ep_ite (fun _ => ?_) (fun _ => ?_)
      · refine Ep_ite (fun _ => ?_) (fun _ => ?_)
        · exact Ep_some hL_5
        · exact Ep_some hL_5
      · exact Ep_some hL_5
    · exact Ep_some hL_5
set_option maxHeartbeats 1000000 in
set_option maxRecDepth 100000 in
theorem qL_X8_liftOf {L0 : Lo} (S : Tr) (L : Lo) (x1 : Int32) (x2 : Int32) (x3 : Int32) (hL : oL L0 L)   : Ep (f_X8_liftOf S L x1 x2 x3) (fun q => oL L0 q.2.2) := by
  unfold f_X8_liftOf
  refine Ep_bd (qL_X8_layNames S L x1 x2 x3 hL) (fun L_1 hL_1 => ?_)
  refine Ep_ck ?_
  refine Ep_any (fun r5 => ?_)
  refine Ep_ck ?_
  refine Ep_bd (qL_X8_boundLaw S L_1 (0 : Int32) (((S 31 x2.toNatClampNeg) / r5) + 1) (99 : Int32) hL_1) (fun q hq => ?_)
  refine Ep_lt (fun r9 er9 => ?_)
  refine Ep_lt (fun S_10 eS_10 => ?_)
  refine Ep_lt (fun L_11 eL_11 => ?_)
  have hL_11 : oL L0 L_11 := by rw [eL_11]; exact hq
  exact Ep_some hL_11
set_option maxHeartbeats 1000000 in
set_option maxRecDepth 100000 in
theorem qLB_X8_secondsOf_L23 {L0 : Lo} (x1 : Int32) (x2 : Int32) (x3 : Int32)    (N : Nat) : ∀ (x4 : Int32) (x5 : Int32) (S : Tr) (L : Lo), oL L0 L → Ep (lpF (fun _ _ _ _ => none) (fB_X8_secondsOf_L23 x1 x2 x3) N x4 x5 S L) (fun q => oL L0 q.2.2) := by
  induction N with
  | zero => intro x4 x5 S L _; exact Ep_none
  | succ N ih =>
    intro x4 x5 S L hL
    show Ep (fB_X8_secondsOf_L23 x1 x2 x3 (lpF (fun _ _ _ _ => none) (fB_X8_secondsOf_L23 x1 x2 x3) N) x4 x5 S L) _
    have hk23 := ih
    clear ih
    generalize lpF (fun _ _ _ _ => none) (fB_X8_secondsOf_L23 x1 x2 x3) N = k23 at hk23 ⊢
    unfold fB_X8_secondsOf_L23
    refine Ep_ck ?_
    refine Ep_ite (fun _ => ?_) (fun _ => ?_)
    · exact Ep_some hL
    · refine Ep_any (fun r8 => ?_)
      refine Ep_ck ?_
      refine Ep_bd (qL_X8_liftOf S L x1 r8 (S 30 x2.toNatClampNeg) hL) (fun q hq => ?_)
      refine Ep_lt (fun r12 er12 => ?_)
      refine Ep_lt (fun S_13 eS_13 => ?_)
      refine Ep_lt (fun L_14 eL_14 => ?_)
      have hL_14 : oL L0 L_14 := by rw [eL_14]; exact hq
      refine Ep_lt (fun y17 ey17 => ?_)
      refine Ep_lt (fun y18 ey18 => ?_)
      exact hk23 y17 y18 S_13 L_14 hL_14
set_option maxHeartbeats 1000000 in
set_option maxRecDepth 100000 in
theorem qLL_X8_secondsOf_L23 {L0 : Lo} (x1 : Int32) (x2 : Int32) (x3 : Int32)    (x4 : Int32) (x5 : Int32) (S : Tr) (L : Lo) (hL : oL L0 L) : Ep (fL_X8_secondsOf_L23 x1 x2 x3 x4 x5 S L) (fun q => oL L0 q.2.2) := by
  unfold fL_X8_secondsOf_L23
  exact qLB_X8_secondsOf_L23 x1 x2 x3 2000 x4 x5 S L hL
set_option maxHeartbeats 1000000 in
set_option maxRecDepth 100000 in
theorem qL_X8_secondsOf {L0 : Lo} (S : Tr) (L : Lo) (x1 : Int32) (x2 : Int32) (hL : oL L0 L)   : Ep (f_X8_secondsOf S L x1 x2) (fun q => oL L0 q.2.2) := by
  unfold f_X8_secondsOf
  refine Ep_ck ?_
  refine Ep_lt (fun y2 ey2 => ?_)
  refine Ep_any (fun r3 => ?_)
  exact qLL_X8_secondsOf_L23 x1 x2 y2 0 r3 S L hL
