/-! what has been seen, the stop, the image stay -/
def zcl (a j : Nat) : Prop := a = 81 ∨ (a = 62 ∧ j = 0) ∨ (a = 0 ∧ (j = 78 ∨ j = 79 ∨ j = 84 ∨ j = 89))
def zf (S S1 : Tr) : Prop := ∀ a j, zcl a j → S1 a j = S a j
theorem zf_r {S : Tr} : zf S S := fun _ _ _ => rfl
theorem zf_t {S S1 S2 : Tr} (h1 : zf S S1) (h2 : zf S1 S2) : zf S S2 := fun a j h => (h2 a j h).trans (h1 a j h)
theorem zf_s {S0 S : Tr} {a i : Nat} {v : Int32} (h : zf S0 S) (hn : ¬ (a = 81 ∨ (a = 62 ∧ i = 0) ∨ (a = 0 ∧ (i = 78 ∨ i = 79 ∨ i = 84 ∨ i = 89)))) : zf S0 (st S a i v) := fun b j hb => by
  rw [st_no (fun e => by obtain ⟨e1, e2⟩ := e; subst e1 e2; exact hn hb)]; exact h b j hb
def zk (S S1 : Tr) : Prop := ∀ a j, (a = 81 ∨ (a = 0 ∧ (j = 78 ∨ j = 79))) → S1 a j = S a j
theorem zk_s {S0 S : Tr} {a i : Nat} {v : Int32} (h : zk S0 S) (hn : ¬ (a = 81 ∨ (a = 0 ∧ (i = 78 ∨ i = 79)))) : zk S0 (st S a i v) := fun b j hb => by
  rw [st_no (fun e => by obtain ⟨e1, e2⟩ := e; subst e1 e2; exact hn hb)]; exact h b j hb
theorem zk_f {S S1 : Tr} (h : zf S S1) : zk S S1 := fun a j q => h a j (by
  rcases q with q | ⟨q, r⟩
  · exact Or.inl q
  · exact Or.inr (Or.inr ⟨q, by omega⟩))
theorem zf_T {S S1 : Tr} (h : aT S S1) : zf S S1 := fun a j q => h a j (by
  rcases q with rfl | ⟨rfl, rfl⟩ | ⟨rfl, rfl | rfl | rfl | rfl⟩ <;> rfl)
theorem zf_G {S S1 : Tr} (h : aG 1 S S1) : zf S S1 := fun a j q => h a j (by
  rcases q with rfl | ⟨rfl, rfl⟩ | ⟨rfl, rfl | rfl | rfl | rfl⟩ <;> rfl)
set_option maxHeartbeats 1000000 in
set_option maxRecDepth 100000 in
theorem zfJ_X8_feed_J113 {S0 : Tr} (S : Tr) (hS : zf S0 S)   : Ep (fJ_X8_feed_J113 S) (fun q => zf S0 q.2) := by
  unfold fJ_X8_feed_J113
  refine Ep_lt (fun S_4 eS_4 => ?_)
  have hS_4 : zf S0 S_4 := by rw [eS_4]; exact zf_s hS (by omega)
  exact Ep_some hS_4
set_option maxHeartbeats 1000000 in
set_option maxRecDepth 100000 in
theorem zfJ_X8_feed_J76 {S0 : Tr} (k23 : Int32 → Tr → Option (Int32 × Tr)) (x1 : Int32) (x2 : Int32) (x3 : Int32) (x4 : Int32) (x5 : Int32) (x6 : Int32) (s0 : Int32) (S : Tr) (hS : zf S0 S) (hk23 : ∀ (x6 : Int32) (S : Tr), zf S0 S → Ep (k23 x6 S) (fun q => zf S0 q.2))  : Ep (fJ_X8_feed_J76 k23 x1 x2 x3 x4 x5 x6 s0 S) (fun q => zf S0 q.2) := by
  unfold fJ_X8_feed_J76
  refine Ep_ck ?_
  refine Ep_lt (fun S_10 eS_10 => ?_)
  have hS_10 : zf S0 S_10 := by rw [eS_10]; exact zf_s hS (by omega)
  refine Ep_lt (fun y11 ey11 => ?_)
  exact hk23 y11 S_10 hS_10
set_option maxHeartbeats 1000000 in
set_option maxRecDepth 100000 in
theorem zfB_X8_feed_L23 {S0 : Tr} (x1 : Int32) (x2 : Int32) (x3 : Int32) (x4 : Int32) (x5 : Int32)    (N : Nat) : ∀ (x6 : Int32) (S : Tr), zf S0 S → Ep (lpF (fun _ _ => none) (fB_X8_feed_L23 x1 x2 x3 x4 x5) N x6 S) (fun q => zf S0 q.2) := by
  induction N with
  | zero => intro x6 S _; exact Ep_none
  | succ N ih =>
    intro x6 S hS
    show Ep (fB_X8_feed_L23 x1 x2 x3 x4 x5 (lpF (fun _ _ => none) (fB_X8_feed_L23 x1 x2 x3 x4 x5) N) x6 S) _
    have hk23 := ih
    clear ih
    generalize lpF (fun _ _ => none) (fB_X8_feed_L23 x1 x2 x3 x4 x5) N = k23 at hk23 ⊢
    unfold fB_X8_feed_L23
    refine Ep_ite (fun _ => ?_) (fun _ => ?_)
    · exact zfJ_X8_feed_J113 S hS
    · refine Ep_ite (fun _ => ?_) (fun _ => ?_)
      · refine Ep_ite (fun _ => ?_) (fun _ => ?_)
        · refine Ep_ite (fun _ => ?_) (fun _ => ?_)
          · refine Ep_ite (fun _ => ?_) (fun _ => ?_)
            · exact zfJ_X8_feed_J76 k23 x1 x2 x3 x4 x5 x6 x5 S hS hk23
            · exact zfJ_X8_feed_J76 k23 x1 x2 x3 x4 x5 x6 x4 S hS hk23
          · exact zfJ_X8_feed_J76 k23 x1 x2 x3 x4 x5 x6 x3 S hS hk23
        · exact zfJ_X8_feed_J76 k23 x1 x2 x3 x4 x5 x6 x2 S hS hk23
      · exact zfJ_X8_feed_J76 k23 x1 x2 x3 x4 x5 x6 x1 S hS hk23
set_option maxHeartbeats 1000000 in
set_option maxRecDepth 100000 in
theorem zfL_X8_feed_L23 {S0 : Tr} (x1 : Int32) (x2 : Int32) (x3 : Int32) (x4 : Int32) (x5 : Int32)    (x6 : Int32) (S : Tr) (hS : zf S0 S) : Ep (fL_X8_feed_L23 x1 x2 x3 x4 x5 x6 S) (fun q => zf S0 q.2) := by
  unfold fL_X8_feed_L23
  exact zfB_X8_feed_L23 x1 x2 x3 x4 x5 2000 x6 S hS
set_option maxHeartbeats 1000000 in
set_option maxRecDepth 100000 in
theorem zf_X8_feed {S0 : Tr} (S : Tr) (x1 : Int32) (x2 : Int32) (x3 : Int32) (x4 : Int32) (x5 : Int32) (hS : zf S0 S)   : Ep (f_X8_feed S x1 x2 x3 x4 x5) (fun q => zf S0 q.2) := by
  unfold f_X8_feed
  refine Ep_lt (fun S_1 eS_1 => ?_)
  have hS_1 : zf S0 S_1 := by rw [eS_1]; exact zf_s hS (by omega)
  refine Ep_ite (fun _ => ?_) (fun _ => ?_)
  · exact zfL_X8_feed_L23 x1 x2 x3 x4 x5 0 S_1 hS_1
  · exact Ep_some hS_1
set_option maxHeartbeats 1000000 in
set_option maxRecDepth 100000 in
theorem zfB_X8_put_84_L54 {S0 : Tr} (x2 : Int32)    (N : Nat) : ∀ (x3 : Int32) (S : Tr), zf S0 S → Ep (lpF (fun _ _ => none) (fB_X8_put_84_L54 x2) N x3 S) (fun q => zf S0 q) := by
  induction N with
  | zero => intro x3 S _; exact Ep_none
  | succ N ih =>
    intro x3 S hS
    show Ep (fB_X8_put_84_L54 x2 (lpF (fun _ _ => none) (fB_X8_put_84_L54 x2) N) x3 S) _
    have hk54 := ih
    clear ih
    generalize lpF (fun _ _ => none) (fB_X8_put_84_L54 x2) N = k54 at hk54 ⊢
    unfold fB_X8_put_84_L54
    refine Ep_ite (fun _ => ?_) (fun _ => ?_)
    · exact Ep_some hS
    · refine Ep_ck ?_
      refine Ep_ck ?_
      refine Ep_lt (fun S_6 eS_6 => ?_)
      have hS_6 : zf S0 S_6 := by rw [eS_6]; exact zf_s hS (by omega)
      refine Ep_lt (fun y7 ey7 => ?_)
      exact hk54 y7 S_6 hS_6
set_option maxHeartbeats 1000000 in
set_option maxRecDepth 100000 in
theorem zfL_X8_put_84_L54 {S0 : Tr} (x2 : Int32)    (x3 : Int32) (S : Tr) (hS : zf S0 S) : Ep (fL_X8_put_84_L54 x2 x3 S) (fun q => zf S0 q) := by
  unfold fL_X8_put_84_L54
  exact zfB_X8_put_84_L54 x2 2000 x3 S hS
set_option maxHeartbeats 1000000 in
set_option maxRecDepth 100000 in
theorem zfB_X8_put_84_L27 {S0 : Tr} (x2 : Int32)    (N : Nat) : ∀ (x3 : Int32) (S : Tr), zf S0 S → Ep (lpF (fun _ _ => none) (fB_X8_put_84_L27 x2) N x3 S) (fun q => zf S0 q) := by
  induction N with
  | zero => intro x3 S _; exact Ep_none
  | succ N ih =>
    intro x3 S hS
    show Ep (fB_X8_put_84_L27 x2 (lpF (fun _ _ => none) (fB_X8_put_84_L27 x2) N) x3 S) _
    have hk27 := ih
    clear ih
    generalize lpF (fun _ _ => none) (fB_X8_put_84_L27 x2) N = k27 at hk27 ⊢
    unfold fB_X8_put_84_L27
    refine Ep_ite (fun _ => ?_) (fun _ => ?_)
    · exact zfL_X8_put_84_L54 x2 0 S hS
    · refine Ep_ck ?_
      refine Ep_ck ?_
      refine Ep_lt (fun S_10 eS_10 => ?_)
      have hS_10 : zf S0 S_10 := by rw [eS_10]; exact zf_s hS (by omega)
      refine Ep_lt (fun y11 ey11 => ?_)
      exact hk27 y11 S_10 hS_10
set_option maxHeartbeats 1000000 in
set_option maxRecDepth 100000 in
theorem zfL_X8_put_84_L27 {S0 : Tr} (x2 : Int32)    (x3 : Int32) (S : Tr) (hS : zf S0 S) : Ep (fL_X8_put_84_L27 x2 x3 S) (fun q => zf S0 q) := by
  unfold fL_X8_put_84_L27
  exact zfB_X8_put_84_L27 x2 2000 x3 S hS
set_option maxHeartbeats 1000000 in
set_option maxRecDepth 100000 in
theorem zfB_X8_put_84_L2 {S0 : Tr} (x2 : Int32)    (N : Nat) : ∀ (x3 : Int32) (S : Tr), zf S0 S → Ep (lpF (fun _ _ => none) (fB_X8_put_84_L2 x2) N x3 S) (fun q => zf S0 q) := by
  induction N with
  | zero => intro x3 S _; exact Ep_none
  | succ N ih =>
    intro x3 S hS
    show Ep (fB_X8_put_84_L2 x2 (lpF (fun _ _ => none) (fB_X8_put_84_L2 x2) N) x3 S) _
    have hk2 := ih
    clear ih
    generalize lpF (fun _ _ => none) (fB_X8_put_84_L2 x2) N = k2 at hk2 ⊢
    unfold fB_X8_put_84_L2
    refine Ep_ite (fun _ => ?_) (fun _ => ?_)
    · exact zfL_X8_put_84_L27 x2 0 S hS
    · refine Ep_ck ?_
      refine Ep_ck ?_
      refine Ep_lt (fun S_14 eS_14 => ?_)
      have hS_14 : zf S0 S_14 := by rw [eS_14]; exact zf_s hS (by omega)
      refine Ep_lt (fun y15 ey15 => ?_)
      exact hk2 y15 S_14 hS_14
set_option maxHeartbeats 1000000 in
set_option maxRecDepth 100000 in
theorem zfL_X8_put_84_L2 {S0 : Tr} (x2 : Int32)    (x3 : Int32) (S : Tr) (hS : zf S0 S) : Ep (fL_X8_put_84_L2 x2 x3 S) (fun q => zf S0 q) := by
  unfold fL_X8_put_84_L2
  exact zfB_X8_put_84_L2 x2 2000 x3 S hS
set_option maxHeartbeats 1000000 in
set_option maxRecDepth 100000 in
theorem zf_X8_put_84 {S0 : Tr} (S : Tr) (x2 : Int32) (hS : zf S0 S)   : Ep (f_X8_put_84 S x2) (fun q => zf S0 q) := by
  unfold f_X8_put_84
  exact zfL_X8_put_84_L2 x2 0 S hS
set_option maxHeartbeats 1000000 in
set_option maxRecDepth 100000 in
theorem zfJ_X8_remember_J49 {S0 : Tr} (S : Tr) (hS : zf S0 S)   : Ep (fJ_X8_remember_J49 S) (fun q => zf S0 q) := by
  unfold fJ_X8_remember_J49
  refine Ep_bd (zf_X8_put_84 S ((61 : Int32) * (S 0 82)) hS) (fun S_2 hS_2 => ?_)
  refine Ep_lt (fun S_5 eS_5 => ?_)
  have hS_5 : zf S0 S_5 := by rw [eS_5]; exact zf_s hS_2 (by omega)
  exact Ep_some hS_5
set_option maxHeartbeats 1000000 in
set_option maxRecDepth 100000 in
theorem zfJ_X8_remember_J39 {S0 : Tr} (S : Tr) (hS : zf S0 S)   : Ep (fJ_X8_remember_J39 S) (fun q => zf S0 q) := by
  unfold fJ_X8_remember_J39
  refine Ep_lt (fun S_7 eS_7 => ?_)
  have hS_7 : zf S0 S_7 := by rw [eS_7]; exact zf_s hS (by omega)
  exact zfJ_X8_remember_J49 S_7 hS_7
set_option maxHeartbeats 1000000 in
set_option maxRecDepth 100000 in
theorem zfB_X8_remember_L11 {S0 : Tr}     (N : Nat) : ∀ (x1 : Int32) (S : Tr), zf S0 S → Ep (lpF (fun _ _ => none) (fB_X8_remember_L11) N x1 S) (fun q => zf S0 q) := by
  induction N with
  | zero => intro x1 S _; exact Ep_none
  | succ N ih =>
    intro x1 S hS
    show Ep (fB_X8_remember_L11 (lpF (fun _ _ => none) (fB_X8_remember_L11) N) x1 S) _
    have hk11 := ih
    clear ih
    generalize lpF (fun _ _ => none) (fB_X8_remember_L11) N = k11 at hk11 ⊢
    unfold fB_X8_remember_L11
    refine Ep_ite (fun _ => ?_) (fun _ => ?_)
    · exact zfJ_X8_remember_J39 S hS
    · refine Ep_ck ?_
      refine Ep_ck ?_
      refine Ep_lt (fun S_10 eS_10 => ?_)
      have hS_10 : zf S0 S_10 := by rw [eS_10]; exact zf_s hS (by omega)
      refine Ep_lt (fun y11 ey11 => ?_)
      exact hk11 y11 S_10 hS_10
set_option maxHeartbeats 1000000 in
set_option maxRecDepth 100000 in
theorem zfL_X8_remember_L11 {S0 : Tr}     (x1 : Int32) (S : Tr) (hS : zf S0 S) : Ep (fL_X8_remember_L11 x1 S) (fun q => zf S0 q) := by
  unfold fL_X8_remember_L11
  exact zfB_X8_remember_L11 2000 x1 S hS
set_option maxHeartbeats 1000000 in
set_option maxRecDepth 100000 in
theorem zf_X8_remember {S0 : Tr} (S : Tr) (hS : zf S0 S)   : Ep (f_X8_remember S) (fun q => zf S0 q) := by
  unfold f_X8_remember
  refine Ep_ite (fun _ => ?_) (fun _ => ?_)
  · exact zfL_X8_remember_L11 0 S hS
  · exact zfJ_X8_remember_J49 S hS
set_option maxHeartbeats 1000000 in
set_option maxRecDepth 100000 in
theorem zfJ_X8_takes_J96 {S0 : Tr} (x1 : Int32) (x2 : Int32) (x3 : Int32) (S : Tr) (hS : zf S0 S)   : Ep (fJ_X8_takes_J96 x1 x2 x3 S) (fun q => zf S0 q) := by
  unfold fJ_X8_takes_J96
  refine Ep_ck ?_
  refine Ep_lt (fun S_11 eS_11 => ?_)
  have hS_11 : zf S0 S_11 := by rw [eS_11]; exact zf_s hS (by omega)
  refine Ep_lt (fun S_12 eS_12 => ?_)
  have hS_12 : zf S0 S_12 := by rw [eS_12]; exact zf_s hS_11 (by omega)
  exact Ep_some hS_12
set_option maxHeartbeats 1000000 in
set_option maxRecDepth 100000 in
theorem zfB_X8_takes_L36 {S0 : Tr} (x1 : Int32) (x2 : Int32) (x3 : Int32) (x4 : Int32)    (N : Nat) : ∀ (x5 : Int32) (S : Tr), zf S0 S → Ep (lpF (fun _ _ => none) (fB_X8_takes_L36 x1 x2 x3 x4) N x5 S) (fun q => zf S0 q) := by
  induction N with
  | zero => intro x5 S _; exact Ep_none
  | succ N ih =>
    intro x5 S hS
    show Ep (fB_X8_takes_L36 x1 x2 x3 x4 (lpF (fun _ _ => none) (fB_X8_takes_L36 x1 x2 x3 x4) N) x5 S) _
    have hk36 := ih
    clear ih
    generalize lpF (fun _ _ => none) (fB_X8_takes_L36 x1 x2 x3 x4) N = k36 at hk36 ⊢
    unfold fB_X8_takes_L36
    refine Ep_ck ?_
    refine Ep_ite (fun _ => ?_) (fun _ => ?_)
    · exact zfJ_X8_takes_J96 x1 x2 x3 S hS
    · refine Ep_ck ?_
      refine Ep_ck ?_
      refine Ep_lt (fun S_15 eS_15 => ?_)
      have hS_15 : zf S0 S_15 := by rw [eS_15]; exact zf_s hS (by omega)
      refine Ep_lt (fun y16 ey16 => ?_)
      exact hk36 y16 S_15 hS_15
set_option maxHeartbeats 1000000 in
set_option maxRecDepth 100000 in
theorem zfL_X8_takes_L36 {S0 : Tr} (x1 : Int32) (x2 : Int32) (x3 : Int32) (x4 : Int32)    (x5 : Int32) (S : Tr) (hS : zf S0 S) : Ep (fL_X8_takes_L36 x1 x2 x3 x4 x5 S) (fun q => zf S0 q) := by
  unfold fL_X8_takes_L36
  exact zfB_X8_takes_L36 x1 x2 x3 x4 2000 x5 S hS
set_option maxHeartbeats 1000000 in
set_option maxRecDepth 100000 in
theorem zf_X8_takes {S0 : Tr} (S : Tr) (x1 : Int32) (x2 : Int32) (x3 : Int32) (hS : zf S0 S)   : Ep (f_X8_takes S x1 x2 x3) (fun q => zf S0 q) := by
  unfold f_X8_takes
  refine Ep_ck ?_
  refine Ep_lt (fun y2 ey2 => ?_)
  refine Ep_any (fun r3 => ?_)
  refine Ep_ck ?_
  refine Ep_lt (fun S_7 eS_7 => ?_)
  have hS_7 : zf S0 S_7 := by rw [eS_7]; exact zf_s hS (by omega)
  exact zfL_X8_takes_L36 x1 x2 x3 y2 r3 S_7 hS_7
set_option maxHeartbeats 1000000 in
set_option maxRecDepth 100000 in
theorem zf_X8_lays {S0 : Tr} (S : Tr) (x1 : Int32) (x2 : Int32) (x3 : Int32) (hS : zf S0 S)   : Ep (f_X8_lays S x1 x2 x3) (fun q => zf S0 q) := by
  unfold f_X8_lays
  refine Ep_ck ?_
  refine Ep_ck ?_
  refine Ep_lt (fun S_3 eS_3 => ?_)
  have hS_3 : zf S0 S_3 := by rw [eS_3]; exact zf_s hS (by omega)
  refine Ep_lt (fun S_4 eS_4 => ?_)
  have hS_4 : zf S0 S_4 := by rw [eS_4]; exact zf_s hS_3 (by omega)
  refine Ep_ck ?_
  refine Ep_lt (fun S_6 eS_6 => ?_)
  have hS_6 : zf S0 S_6 := by rw [eS_6]; exact zf_s hS_4 (by omega)
  refine Ep_lt (fun S_7 eS_7 => ?_)
  have hS_7 : zf S0 S_7 := by rw [eS_7]; exact zf_s hS_6 (by omega)
  exact Ep_some hS_7
set_option maxHeartbeats 1000000 in
set_option maxRecDepth 100000 in
theorem zfJ_X8_move_J67 {S0 : Tr} (x1 : Int32) (x2 : Int32) (S : Tr) (hS : zf S0 S)   : Ep (fJ_X8_move_J67 x1 x2 S) (fun q => zf S0 q.2) := by
  unfold fJ_X8_move_J67
  refine Ep_bd (zf_X8_remember S hS) (fun S_17 hS_17 => ?_)
  refine Ep_bd (zf_X8_takes S_17 (0 : Int32) x1 (1 : Int32) hS_17) (fun S_20 hS_20 => ?_)
  refine Ep_bd (zf_X8_lays S_20 (0 : Int32) x2 x1 hS_20) (fun S_23 hS_23 => ?_)
  exact Ep_some hS_23
set_option maxHeartbeats 1000000 in
set_option maxRecDepth 100000 in
theorem zf_X8_move {S0 : Tr} (S : Tr) (x1 : Int32) (x2 : Int32) (hS : zf S0 S)   : Ep (f_X8_move S x1 x2) (fun q => zf S0 q.2) := by
  unfold f_X8_move
  refine Ep_lt (fun S_1 eS_1 => ?_)
  have hS_1 : zf S0 S_1 := by rw [eS_1]; exact zf_s hS (by omega)
  refine Ep_any (fun r2 => ?_)
  refine Ep_ite (fun _ => ?_) (fun _ => ?_)
  · exact Ep_some hS_1
  · refine Ep_any (fun r6 => ?_)
    refine Ep_ite (fun _ => ?_) (fun _ => ?_)
    · exact Ep_some hS_1
    · refine Ep_ck ?_
      refine Ep_ite (fun _ => ?_) (fun _ => ?_)
      · refine Ep_ite (fun _ => ?_) (fun _ => ?_)
        · refine Ep_any (fun r26 => ?_)
          refine Ep_ite (fun _ => ?_) (fun _ => ?_)
          · exact Ep_some hS_1
          · exact zfJ_X8_move_J67 x1 x2 S_1 hS_1
        · refine Ep_any (fun r13 => ?_)
          refine Ep_ite (fun _ => ?_) (fun _ => ?_)
          · exact Ep_some hS_1
          · exact zfJ_X8_move_J67 x1 x2 S_1 hS_1
      · exact Ep_some hS_1
set_option maxHeartbeats 1000000 in
set_option maxRecDepth 100000 in
theorem zfB_X8_plainTried_L42 {S0 : Tr}     (N : Nat) : ∀ (x1 : Int32) (S : Tr), zf S0 S → Ep (lpF (fun _ _ => none) (fB_X8_plainTried_L42) N x1 S) (fun q => zf S0 q) := by
  induction N with
  | zero => intro x1 S _; exact Ep_none
  | succ N ih =>
    intro x1 S hS
    show Ep (fB_X8_plainTried_L42 (lpF (fun _ _ => none) (fB_X8_plainTried_L42) N) x1 S) _
    have hk42 := ih
    clear ih
    generalize lpF (fun _ _ => none) (fB_X8_plainTried_L42) N = k42 at hk42 ⊢
    unfold fB_X8_plainTried_L42
    refine Ep_ite (fun _ => ?_) (fun _ => ?_)
    · exact Ep_some hS
    · refine Ep_ck ?_
      refine Ep_lt (fun S_10 eS_10 => ?_)
      have hS_10 : zf S0 S_10 := by rw [eS_10]; exact zf_s hS (by omega)
      refine Ep_lt (fun y11 ey11 => ?_)
      exact hk42 y11 S_10 hS_10
set_option maxHeartbeats 1000000 in
set_option maxRecDepth 100000 in
theorem zfL_X8_plainTried_L42 {S0 : Tr}     (x1 : Int32) (S : Tr) (hS : zf S0 S) : Ep (fL_X8_plainTried_L42 x1 S) (fun q => zf S0 q) := by
  unfold fL_X8_plainTried_L42
  exact zfB_X8_plainTried_L42 2000 x1 S hS
set_option maxHeartbeats 1000000 in
set_option maxRecDepth 100000 in
theorem zf_X8_plainTried {S0 : Tr} (S : Tr) (hS : zf S0 S)   : Ep (f_X8_plainTried S) (fun q => zf S0 q) := by
  unfold f_X8_plainTried
  refine Ep_lt (fun S_1 eS_1 => ?_)
  have hS_1 : zf S0 S_1 := by rw [eS_1]; exact zf_s hS (by omega)
  refine Ep_lt (fun S_2 eS_2 => ?_)
  have hS_2 : zf S0 S_2 := by rw [eS_2]; exact zf_s hS_1 (by omega)
  refine Ep_lt (fun S_3 eS_3 => ?_)
  have hS_3 : zf S0 S_3 := by rw [eS_3]; exact zf_s hS_2 (by omega)
  refine Ep_lt (fun S_4 eS_4 => ?_)
  have hS_4 : zf S0 S_4 := by rw [eS_4]; exact zf_s hS_3 (by omega)
  refine Ep_lt (fun S_5 eS_5 => ?_)
  have hS_5 : zf S0 S_5 := by rw [eS_5]; exact zf_s hS_4 (by omega)
  refine Ep_lt (fun S_6 eS_6 => ?_)
  have hS_6 : zf S0 S_6 := by rw [eS_6]; exact zf_s hS_5 (by omega)
  refine Ep_lt (fun S_7 eS_7 => ?_)
  have hS_7 : zf S0 S_7 := by rw [eS_7]; exact zf_s hS_6 (by omega)
  exact zfL_X8_plainTried_L42 0 S_7 hS_7
set_option maxHeartbeats 1000000 in
set_option maxRecDepth 100000 in
theorem zfJ_X8_layTried_J174 {S0 : Tr} (S : Tr) (hS : zf S0 S)   : Ep (fJ_X8_layTried_J174 S) (fun q => zf S0 q) := by
  unfold fJ_X8_layTried_J174
  refine Ep_lt (fun S_5 eS_5 => ?_)
  have hS_5 : zf S0 S_5 := by rw [eS_5]; exact zf_s hS (by omega)
  refine Ep_lt (fun S_6 eS_6 => ?_)
  have hS_6 : zf S0 S_6 := by rw [eS_6]; exact zf_s hS_5 (by omega)
  refine Ep_lt (fun S_7 eS_7 => ?_)
  have hS_7 : zf S0 S_7 := by rw [eS_7]; exact zf_s hS_6 (by omega)
  refine Ep_bd (zf_X8_plainTried S_7 hS_7) (fun S_8 hS_8 => ?_)
  exact Ep_some hS_8
set_option maxHeartbeats 1000000 in
set_option maxRecDepth 100000 in
theorem zfB_X8_layTried_L102 {S0 : Tr}     (N : Nat) : ∀ (x1 : Int32) (S : Tr), zf S0 S → Ep (lpF (fun _ _ => none) (fB_X8_layTried_L102) N x1 S) (fun q => zf S0 q) := by
  induction N with
  | zero => intro x1 S _; exact Ep_none
  | succ N ih =>
    intro x1 S hS
    show Ep (fB_X8_layTried_L102 (lpF (fun _ _ => none) (fB_X8_layTried_L102) N) x1 S) _
    have hk102 := ih
    clear ih
    generalize lpF (fun _ _ => none) (fB_X8_layTried_L102) N = k102 at hk102 ⊢
    unfold fB_X8_layTried_L102
    refine Ep_ite (fun _ => ?_) (fun _ => ?_)
    · exact zfJ_X8_layTried_J174 S hS
    · refine Ep_ck ?_
      refine Ep_ck ?_
      refine Ep_lt (fun S_13 eS_13 => ?_)
      have hS_13 : zf S0 S_13 := by rw [eS_13]; exact zf_s hS (by omega)
      refine Ep_lt (fun S_14 eS_14 => ?_)
      have hS_14 : zf S0 S_14 := by rw [eS_14]; exact zf_s hS_13 (by omega)
      refine Ep_lt (fun S_15 eS_15 => ?_)
      have hS_15 : zf S0 S_15 := by rw [eS_15]; exact zf_s hS_14 (by omega)
      refine Ep_lt (fun S_16 eS_16 => ?_)
      have hS_16 : zf S0 S_16 := by rw [eS_16]; exact zf_s hS_15 (by omega)
      refine Ep_lt (fun y17 ey17 => ?_)
      exact hk102 y17 S_16 hS_16
set_option maxHeartbeats 1000000 in
set_option maxRecDepth 100000 in
theorem zfL_X8_layTried_L102 {S0 : Tr}     (x1 : Int32) (S : Tr) (hS : zf S0 S) : Ep (fL_X8_layTried_L102 x1 S) (fun q => zf S0 q) := by
  unfold fL_X8_layTried_L102
  exact zfB_X8_layTried_L102 2000 x1 S hS
set_option maxHeartbeats 1000000 in
set_option maxRecDepth 100000 in
theorem zfB_X8_layTried_L75 {S0 : Tr}     (N : Nat) : ∀ (x1 : Int32) (S : Tr), zf S0 S → Ep (lpF (fun _ _ => none) (fB_X8_layTried_L75) N x1 S) (fun q => zf S0 q) := by
  induction N with
  | zero => intro x1 S _; exact Ep_none
  | succ N ih =>
    intro x1 S hS
    show Ep (fB_X8_layTried_L75 (lpF (fun _ _ => none) (fB_X8_layTried_L75) N) x1 S) _
    have hk75 := ih
    clear ih
    generalize lpF (fun _ _ => none) (fB_X8_layTried_L75) N = k75 at hk75 ⊢
    unfold fB_X8_layTried_L75
    refine Ep_ite (fun _ => ?_) (fun _ => ?_)
    · exact zfL_X8_layTried_L102 0 S hS
    · refine Ep_ck ?_
      refine Ep_ck ?_
      refine Ep_lt (fun S_20 eS_20 => ?_)
      have hS_20 : zf S0 S_20 := by rw [eS_20]; exact zf_s hS (by omega)
      refine Ep_lt (fun y21 ey21 => ?_)
      exact hk75 y21 S_20 hS_20
set_option maxHeartbeats 1000000 in
set_option maxRecDepth 100000 in
theorem zfL_X8_layTried_L75 {S0 : Tr}     (x1 : Int32) (S : Tr) (hS : zf S0 S) : Ep (fL_X8_layTried_L75 x1 S) (fun q => zf S0 q) := by
  unfold fL_X8_layTried_L75
  exact zfB_X8_layTried_L75 2000 x1 S hS
set_option maxHeartbeats 1000000 in
set_option maxRecDepth 100000 in
theorem zfB_X8_layTried_L46 {S0 : Tr}     (N : Nat) : ∀ (x1 : Int32) (S : Tr), zf S0 S → Ep (lpF (fun _ _ => none) (fB_X8_layTried_L46) N x1 S) (fun q => zf S0 q) := by
  induction N with
  | zero => intro x1 S _; exact Ep_none
  | succ N ih =>
    intro x1 S hS
    show Ep (fB_X8_layTried_L46 (lpF (fun _ _ => none) (fB_X8_layTried_L46) N) x1 S) _
    have hk46 := ih
    clear ih
    generalize lpF (fun _ _ => none) (fB_X8_layTried_L46) N = k46 at hk46 ⊢
    unfold fB_X8_layTried_L46
    refine Ep_ite (fun _ => ?_) (fun _ => ?_)
    · exact zfL_X8_layTried_L75 0 S hS
    · refine Ep_ck ?_
      refine Ep_ck ?_
      refine Ep_lt (fun S_24 eS_24 => ?_)
      have hS_24 : zf S0 S_24 := by rw [eS_24]; exact zf_s hS (by omega)
      refine Ep_lt (fun y25 ey25 => ?_)
      exact hk46 y25 S_24 hS_24
set_option maxHeartbeats 1000000 in
set_option maxRecDepth 100000 in
theorem zfL_X8_layTried_L46 {S0 : Tr}     (x1 : Int32) (S : Tr) (hS : zf S0 S) : Ep (fL_X8_layTried_L46 x1 S) (fun q => zf S0 q) := by
  unfold fL_X8_layTried_L46
  exact zfB_X8_layTried_L46 2000 x1 S hS
set_option maxHeartbeats 1000000 in
set_option maxRecDepth 100000 in
theorem zfB_X8_layTried_L2 {S0 : Tr}     (N : Nat) : ∀ (x1 : Int32) (S : Tr), zf S0 S → Ep (lpF (fun _ _ => none) (fB_X8_layTried_L2) N x1 S) (fun q => zf S0 q) := by
  induction N with
  | zero => intro x1 S _; exact Ep_none
  | succ N ih =>
    intro x1 S hS
    show Ep (fB_X8_layTried_L2 (lpF (fun _ _ => none) (fB_X8_layTried_L2) N) x1 S) _
    have hk2 := ih
    clear ih
    generalize lpF (fun _ _ => none) (fB_X8_layTried_L2) N = k2 at hk2 ⊢
    unfold fB_X8_layTried_L2
    refine Ep_ite (fun _ => ?_) (fun _ => ?_)
    · exact zfL_X8_layTried_L46 0 S hS
    · refine Ep_ck ?_
      refine Ep_ck ?_
      refine Ep_lt (fun S_28 eS_28 => ?_)
      have hS_28 : zf S0 S_28 := by rw [eS_28]; exact zf_s hS (by omega)
      refine Ep_lt (fun S_29 eS_29 => ?_)
      have hS_29 : zf S0 S_29 := by rw [eS_29]; exact zf_s hS_28 (by omega)
      refine Ep_lt (fun y30 ey30 => ?_)
      exact hk2 y30 S_29 hS_29
set_option maxHeartbeats 1000000 in
set_option maxRecDepth 100000 in
theorem zfL_X8_layTried_L2 {S0 : Tr}     (x1 : Int32) (S : Tr) (hS : zf S0 S) : Ep (fL_X8_layTried_L2 x1 S) (fun q => zf S0 q) := by
  unfold fL_X8_layTried_L2
  exact zfB_X8_layTried_L2 2000 x1 S hS
set_option maxHeartbeats 1000000 in
set_option maxRecDepth 100000 in
theorem zf_X8_layTried {S0 : Tr} (S : Tr) (hS : zf S0 S)   : Ep (f_X8_layTried S) (fun q => zf S0 q) := by
  unfold f_X8_layTried
  exact zfL_X8_layTried_L2 0 S hS
set_option maxHeartbeats 1000000 in
set_option maxRecDepth 100000 in
theorem zfB_X8_turns_L113 {S0 : Tr} (x1 : Int32) (x2 : Int32) (x3 : Int32) (x4 : Int32)    (N : Nat) : ∀ (x5 : Int32) (S : Tr), zf S0 S → Ep (lpF (fun _ _ => none) (fB_X8_turns_L113 x1 x2 x3 x4) N x5 S) (fun q => zf S0 q.2) := by
  induction N with
  | zero => intro x5 S _; exact Ep_none
  | succ N ih =>
    intro x5 S hS
    show Ep (fB_X8_turns_L113 x1 x2 x3 x4 (lpF (fun _ _ => none) (fB_X8_turns_L113 x1 x2 x3 x4) N) x5 S) _
    have hk113 := ih
    clear ih
    generalize lpF (fun _ _ => none) (fB_X8_turns_L113 x1 x2 x3 x4) N = k113 at hk113 ⊢
    unfold fB_X8_turns_L113
    refine Ep_ite (fun _ => ?_) (fun _ => ?_)
    · exact Ep_some hS
    · refine Ep_ck ?_
      refine Ep_ck ?_
      refine Ep_lt (fun S_7 eS_7 => ?_)
      have hS_7 : zf S0 S_7 := by rw [eS_7]; exact zf_s hS (by omega)
      refine Ep_lt (fun y8 ey8 => ?_)
      exact hk113 y8 S_7 hS_7
set_option maxHeartbeats 1000000 in
set_option maxRecDepth 100000 in
theorem zfL_X8_turns_L113 {S0 : Tr} (x1 : Int32) (x2 : Int32) (x3 : Int32) (x4 : Int32)    (x5 : Int32) (S : Tr) (hS : zf S0 S) : Ep (fL_X8_turns_L113 x1 x2 x3 x4 x5 S) (fun q => zf S0 q.2) := by
  unfold fL_X8_turns_L113
  exact zfB_X8_turns_L113 x1 x2 x3 x4 2000 x5 S hS
set_option maxHeartbeats 1000000 in
set_option maxRecDepth 100000 in
theorem zfJ_X8_turns_J78 {S0 : Tr} (k17 : Int32 → Int32 → Tr → Option (Int32 × Tr)) (x1 : Int32) (x2 : Int32) (x3 : Int32) (x4 : Int32) (x5 : Int32) (x6 : Int32) (x7 : Int32) (S : Tr) (hS : zf S0 S) (hk17 : ∀ (x4 : Int32) (x5 : Int32) (S : Tr), zf S0 S → Ep (k17 x4 x5 S) (fun q => zf S0 q.2))  : Ep (fJ_X8_turns_J78 k17 x1 x2 x3 x4 x5 x6 x7 S) (fun q => zf S0 q.2) := by
  unfold fJ_X8_turns_J78
  refine Ep_ck ?_
  refine Ep_lt (fun S_14 eS_14 => ?_)
  have hS_14 : zf S0 S_14 := by rw [eS_14]; exact zf_s hS (by omega)
  refine Ep_ite (fun _ => ?_) (fun _ => ?_)
  · refine Ep_lt (fun y18 ey18 => ?_)
    refine Ep_lt (fun y19 ey19 => ?_)
    exact hk17 y18 y19 S_14 hS_14
  · refine Ep_lt (fun y16 ey16 => ?_)
    refine Ep_lt (fun y17 ey17 => ?_)
    exact hk17 y16 y17 S_14 hS_14
set_option maxHeartbeats 1000000 in
set_option maxRecDepth 100000 in
theorem zfB_X8_turns_L39 {S0 : Tr} (k17 : Int32 → Int32 → Tr → Option (Int32 × Tr)) (S : Tr) (x1 : Int32) (x2 : Int32) (x3 : Int32) (x4 : Int32) (x5 : Int32) (x6 : Int32) (hS : zf S0 S) (hk17 : ∀ (x4 : Int32) (x5 : Int32) (S : Tr), zf S0 S → Ep (k17 x4 x5 S) (fun q => zf S0 q.2))  (N : Nat) : ∀ (x7 : Int32) (x8 : Int32), Ep (lpF (fun _ _ => none) (fB_X8_turns_L39 k17 S x1 x2 x3 x4 x5 x6) N x7 x8) (fun q => zf S0 q.2) := by
  induction N with
  | zero => intro x7 x8; exact Ep_none
  | succ N ih =>
    intro x7 x8
    show Ep (fB_X8_turns_L39 k17 S x1 x2 x3 x4 x5 x6 (lpF (fun _ _ => none) (fB_X8_turns_L39 k17 S x1 x2 x3 x4 x5 x6) N) x7 x8) _
    have hk39 := ih
    clear ih
    generalize lpF (fun _ _ => none) (fB_X8_turns_L39 k17 S x1 x2 x3 x4 x5 x6) N = k39 at hk39 ⊢
    unfold fB_X8_turns_L39
    refine Ep_ite (fun _ => ?_) (fun _ => ?_)
    · exact zfJ_X8_turns_J78 k17 x1 x2 x3 x4 x5 x6 x7 S hS hk17
    · refine Ep_any (fun r20 => ?_)
      refine Ep_any (fun r23 => ?_)
      refine Ep_ite (fun _ => ?_) (fun _ => ?_)
      · refine Ep_lt (fun y27 ey27 => ?_)
        refine Ep_lt (fun y28 ey28 => ?_)
        exact hk39 y27 y28
      · refine Ep_lt (fun y29 ey29 => ?_)
        refine Ep_lt (fun y30 ey30 => ?_)
        exact hk39 y29 y30
set_option maxHeartbeats 1000000 in
set_option maxRecDepth 100000 in
theorem zfL_X8_turns_L39 {S0 : Tr} (k17 : Int32 → Int32 → Tr → Option (Int32 × Tr)) (S : Tr) (x1 : Int32) (x2 : Int32) (x3 : Int32) (x4 : Int32) (x5 : Int32) (x6 : Int32) (hS : zf S0 S) (hk17 : ∀ (x4 : Int32) (x5 : Int32) (S : Tr), zf S0 S → Ep (k17 x4 x5 S) (fun q => zf S0 q.2))  (x7 : Int32) (x8 : Int32)  : Ep (fL_X8_turns_L39 k17 S x1 x2 x3 x4 x5 x6 x7 x8) (fun q => zf S0 q.2) := by
  unfold fL_X8_turns_L39
  exact zfB_X8_turns_L39 k17 S x1 x2 x3 x4 x5 x6 hS hk17 2000 x7 x8
set_option maxHeartbeats 1000000 in
set_option maxRecDepth 100000 in
theorem zfB_X8_turns_L17 {S0 : Tr} (x1 : Int32) (x2 : Int32) (x3 : Int32)    (N : Nat) : ∀ (x4 : Int32) (x5 : Int32) (S : Tr), zf S0 S → Ep (lpF (fun _ _ _ => none) (fB_X8_turns_L17 x1 x2 x3) N x4 x5 S) (fun q => zf S0 q.2) := by
  induction N with
  | zero => intro x4 x5 S _; exact Ep_none
  | succ N ih =>
    intro x4 x5 S hS
    show Ep (fB_X8_turns_L17 x1 x2 x3 (lpF (fun _ _ _ => none) (fB_X8_turns_L17 x1 x2 x3) N) x4 x5 S) _
    have hk17 := ih
    clear ih
    generalize lpF (fun _ _ _ => none) (fB_X8_turns_L17 x1 x2 x3) N = k17 at hk17 ⊢
    unfold fB_X8_turns_L17
    refine Ep_ite (fun _ => ?_) (fun _ => ?_)
    · exact zfL_X8_turns_L113 x1 x2 x3 x4 0 S hS
    · refine Ep_any (fun r9 => ?_)
      exact zfL_X8_turns_L39 k17 S x1 x2 x3 x4 x5 r9 hS hk17 0 0
set_option maxHeartbeats 1000000 in
set_option maxRecDepth 100000 in
theorem zfL_X8_turns_L17 {S0 : Tr} (x1 : Int32) (x2 : Int32) (x3 : Int32)    (x4 : Int32) (x5 : Int32) (S : Tr) (hS : zf S0 S) : Ep (fL_X8_turns_L17 x1 x2 x3 x4 x5 S) (fun q => zf S0 q.2) := by
  unfold fL_X8_turns_L17
  exact zfB_X8_turns_L17 x1 x2 x3 2000 x4 x5 S hS
set_option maxHeartbeats 1000000 in
set_option maxRecDepth 100000 in
theorem zf_X8_turns {S0 : Tr} (S : Tr) (x1 : Int32) (x2 : Int32) (hS : zf S0 S)   : Ep (f_X8_turns S x1 x2) (fun q => zf S0 q.2) := by
  unfold f_X8_turns
  refine Ep_ck ?_
  refine Ep_lt (fun y2 ey2 => ?_)
  exact zfL_X8_turns_L17 x1 x2 y2 0 0 S hS
set_option maxHeartbeats 1000000 in
set_option maxRecDepth 100000 in
theorem zf_X8_turn {S0 : Tr} (S : Tr) (x1 : Int32) (hS : zf S0 S)   : Ep (f_X8_turn S x1) (fun q => zf S0 q.2) := by
  unfold f_X8_turn
  refine Ep_lt (fun S_1 eS_1 => ?_)
  have hS_1 : zf S0 S_1 := by rw [eS_1]; exact zf_s hS (by omega)
  refine Ep_any (fun r2 => ?_)
  refine Ep_ite (fun _ => ?_) (fun _ => ?_)
  · exact Ep_some hS_1
  · refine Ep_bd (zf_X8_layTried S_1 hS_1) (fun S_6 hS_6 => ?_)
    refine Ep_bd (zf_X8_turns S_6 (1 : Int32) x1 hS_6) (fun q hq => ?_)
    refine Ep_lt (fun r9 er9 => ?_)
    refine Ep_lt (fun S_10 eS_10 => ?_)
    have hS_10 : zf S0 S_10 := by rw [eS_10]; exact hq
    refine Ep_ite (fun _ => ?_) (fun _ => ?_)
    · exact Ep_some hS_10
    · refine Ep_bd (zf_X8_remember S_10 hS_10) (fun S_14 hS_14 => ?_)
      refine Ep_bd (zf_X8_turns S_14 (0 : Int32) x1 hS_14) (fun q hq => ?_)
      refine Ep_lt (fun r17 er17 => ?_)
      refine Ep_lt (fun S_18 eS_18 => ?_)
      have hS_18 : zf S0 S_18 := by rw [eS_18]; exact hq
      exact Ep_some hS_18
set_option maxHeartbeats 1000000 in
set_option maxRecDepth 100000 in
theorem zf_X8_help {S0 : Tr} (S : Tr) (x1 : Int32) (x2 : Int32) (hS : zf S0 S)   : Ep (f_X8_help S x1 x2) (fun q => zf S0 q.2) := by
  unfold f_X8_help
  refine Ep_lt (fun S_1 eS_1 => ?_)
  have hS_1 : zf S0 S_1 := by rw [eS_1]; exact zf_s hS (by omega)
  refine Ep_any (fun r2 => ?_)
  refine Ep_ite (fun _ => ?_) (fun _ => ?_)
  · exact Ep_some hS_1
  · refine Ep_any (fun r6 => ?_)
    refine Ep_ite (fun _ => ?_) (fun _ => ?_)
    · exact Ep_some hS_1
    · refine Ep_ck ?_
      refine Ep_ite (fun _ => ?_) (fun _ => ?_)
      · exact Ep_some hS_1
      · refine Ep_bd (zf_X8_remember S_1 hS_1) (fun S_12 hS_12 => ?_)
        refine Ep_lt (fun S_15 eS_15 => ?_)
        have hS_15 : zf S0 S_15 := by rw [eS_15]; exact zf_s hS_12 (by omega)
        exact Ep_some hS_15
set_option maxHeartbeats 1000000 in
set_option maxRecDepth 100000 in
theorem zfB_X8_take_84_L103 {S0 : Tr}     (N : Nat) : ∀ (x3 : Int32) (S : Tr), zf S0 S → Ep (lpF (fun _ _ => none) (fB_X8_take_84_L103) N x3 S) (fun q => zf S0 q) := by
  induction N with
  | zero => intro x3 S _; exact Ep_none
  | succ N ih =>
    intro x3 S hS
    show Ep (fB_X8_take_84_L103 (lpF (fun _ _ => none) (fB_X8_take_84_L103) N) x3 S) _
    have hk103 := ih
    clear ih
    generalize lpF (fun _ _ => none) (fB_X8_take_84_L103) N = k103 at hk103 ⊢
    unfold fB_X8_take_84_L103
    refine Ep_ite (fun _ => ?_) (fun _ => ?_)
    · exact Ep_some hS
    · refine Ep_ck ?_
      refine Ep_ite (fun _ => ?_) (fun _ => ?_)
      · refine Ep_lt (fun y8 ey8 => ?_)
        exact hk103 y8 S hS
      · refine Ep_ck ?_
        refine Ep_ck ?_
        refine Ep_lt (fun S_11 eS_11 => ?_)
        have hS_11 : zf S0 S_11 := by rw [eS_11]; exact zf_s hS (by omega)
        refine Ep_lt (fun y12 ey12 => ?_)
        exact hk103 y12 S_11 hS_11
set_option maxHeartbeats 1000000 in
set_option maxRecDepth 100000 in
theorem zfL_X8_take_84_L103 {S0 : Tr}     (x3 : Int32) (S : Tr) (hS : zf S0 S) : Ep (fL_X8_take_84_L103 x3 S) (fun q => zf S0 q) := by
  unfold fL_X8_take_84_L103
  exact zfB_X8_take_84_L103 2000 x3 S hS
set_option maxHeartbeats 1000000 in
set_option maxRecDepth 100000 in
theorem zfB_X8_take_84_L82 {S0 : Tr}     (N : Nat) : ∀ (x3 : Int32) (S : Tr), zf S0 S → Ep (lpF (fun _ _ => none) (fB_X8_take_84_L82) N x3 S) (fun q => zf S0 q) := by
  induction N with
  | zero => intro x3 S _; exact Ep_none
  | succ N ih =>
    intro x3 S hS
    show Ep (fB_X8_take_84_L82 (lpF (fun _ _ => none) (fB_X8_take_84_L82) N) x3 S) _
    have hk82 := ih
    clear ih
    generalize lpF (fun _ _ => none) (fB_X8_take_84_L82) N = k82 at hk82 ⊢
    unfold fB_X8_take_84_L82
    refine Ep_ite (fun _ => ?_) (fun _ => ?_)
    · exact zfL_X8_take_84_L103 0 S hS
    · refine Ep_ck ?_
      refine Ep_lt (fun S_14 eS_14 => ?_)
      have hS_14 : zf S0 S_14 := by rw [eS_14]; exact zf_s hS (by omega)
      refine Ep_lt (fun y15 ey15 => ?_)
      exact hk82 y15 S_14 hS_14
set_option maxHeartbeats 1000000 in
set_option maxRecDepth 100000 in
theorem zfL_X8_take_84_L82 {S0 : Tr}     (x3 : Int32) (S : Tr) (hS : zf S0 S) : Ep (fL_X8_take_84_L82 x3 S) (fun q => zf S0 q) := by
  unfold fL_X8_take_84_L82
  exact zfB_X8_take_84_L82 2000 x3 S hS
set_option maxHeartbeats 1000000 in
set_option maxRecDepth 100000 in
theorem zfB_X8_take_84_L54 {S0 : Tr} (x2 : Int32)    (N : Nat) : ∀ (x3 : Int32) (S : Tr), zf S0 S → Ep (lpF (fun _ _ => none) (fB_X8_take_84_L54 x2) N x3 S) (fun q => zf S0 q) := by
  induction N with
  | zero => intro x3 S _; exact Ep_none
  | succ N ih =>
    intro x3 S hS
    show Ep (fB_X8_take_84_L54 x2 (lpF (fun _ _ => none) (fB_X8_take_84_L54 x2) N) x3 S) _
    have hk54 := ih
    clear ih
    generalize lpF (fun _ _ => none) (fB_X8_take_84_L54 x2) N = k54 at hk54 ⊢
    unfold fB_X8_take_84_L54
    refine Ep_ite (fun _ => ?_) (fun _ => ?_)
    · exact zfL_X8_take_84_L82 0 S hS
    · refine Ep_ck ?_
      refine Ep_ck ?_
      refine Ep_lt (fun S_18 eS_18 => ?_)
      have hS_18 : zf S0 S_18 := by rw [eS_18]; exact zf_s hS (by omega)
      refine Ep_lt (fun y19 ey19 => ?_)
      exact hk54 y19 S_18 hS_18
set_option maxHeartbeats 1000000 in
set_option maxRecDepth 100000 in
theorem zfL_X8_take_84_L54 {S0 : Tr} (x2 : Int32)    (x3 : Int32) (S : Tr) (hS : zf S0 S) : Ep (fL_X8_take_84_L54 x2 x3 S) (fun q => zf S0 q) := by
  unfold fL_X8_take_84_L54
  exact zfB_X8_take_84_L54 x2 2000 x3 S hS
set_option maxHeartbeats 1000000 in
set_option maxRecDepth 100000 in
theorem zfB_X8_take_84_L27 {S0 : Tr} (x2 : Int32)    (N : Nat) : ∀ (x3 : Int32) (S : Tr), zf S0 S → Ep (lpF (fun _ _ => none) (fB_X8_take_84_L27 x2) N x3 S) (fun q => zf S0 q) := by
  induction N with
  | zero => intro x3 S _; exact Ep_none
  | succ N ih =>
    intro x3 S hS
    show Ep (fB_X8_take_84_L27 x2 (lpF (fun _ _ => none) (fB_X8_take_84_L27 x2) N) x3 S) _
    have hk27 := ih
    clear ih
    generalize lpF (fun _ _ => none) (fB_X8_take_84_L27 x2) N = k27 at hk27 ⊢
    unfold fB_X8_take_84_L27
    refine Ep_ite (fun _ => ?_) (fun _ => ?_)
    · exact zfL_X8_take_84_L54 x2 0 S hS
    · refine Ep_ck ?_
      refine Ep_ck ?_
      refine Ep_lt (fun S_22 eS_22 => ?_)
      have hS_22 : zf S0 S_22 := by rw [eS_22]; exact zf_s hS (by omega)
      refine Ep_lt (fun y23 ey23 => ?_)
      exact hk27 y23 S_22 hS_22
set_option maxHeartbeats 1000000 in
set_option maxRecDepth 100000 in
theorem zfL_X8_take_84_L27 {S0 : Tr} (x2 : Int32)    (x3 : Int32) (S : Tr) (hS : zf S0 S) : Ep (fL_X8_take_84_L27 x2 x3 S) (fun q => zf S0 q) := by
  unfold fL_X8_take_84_L27
  exact zfB_X8_take_84_L27 x2 2000 x3 S hS
set_option maxHeartbeats 1000000 in
set_option maxRecDepth 100000 in
theorem zfB_X8_take_84_L2 {S0 : Tr} (x2 : Int32)    (N : Nat) : ∀ (x3 : Int32) (S : Tr), zf S0 S → Ep (lpF (fun _ _ => none) (fB_X8_take_84_L2 x2) N x3 S) (fun q => zf S0 q) := by
  induction N with
  | zero => intro x3 S _; exact Ep_none
  | succ N ih =>
    intro x3 S hS
    show Ep (fB_X8_take_84_L2 x2 (lpF (fun _ _ => none) (fB_X8_take_84_L2 x2) N) x3 S) _
    have hk2 := ih
    clear ih
    generalize lpF (fun _ _ => none) (fB_X8_take_84_L2 x2) N = k2 at hk2 ⊢
    unfold fB_X8_take_84_L2
    refine Ep_ite (fun _ => ?_) (fun _ => ?_)
    · exact zfL_X8_take_84_L27 x2 0 S hS
    · refine Ep_ck ?_
      refine Ep_ck ?_
      refine Ep_lt (fun S_26 eS_26 => ?_)
      have hS_26 : zf S0 S_26 := by rw [eS_26]; exact zf_s hS (by omega)
      refine Ep_lt (fun y27 ey27 => ?_)
      exact hk2 y27 S_26 hS_26
set_option maxHeartbeats 1000000 in
set_option maxRecDepth 100000 in
theorem zfL_X8_take_84_L2 {S0 : Tr} (x2 : Int32)    (x3 : Int32) (S : Tr) (hS : zf S0 S) : Ep (fL_X8_take_84_L2 x2 x3 S) (fun q => zf S0 q) := by
  unfold fL_X8_take_84_L2
  exact zfB_X8_take_84_L2 x2 2000 x3 S hS
set_option maxHeartbeats 1000000 in
set_option maxRecDepth 100000 in
theorem zf_X8_take_84 {S0 : Tr} (S : Tr) (x2 : Int32) (hS : zf S0 S)   : Ep (f_X8_take_84 S x2) (fun q => zf S0 q) := by
  unfold f_X8_take_84
  exact zfL_X8_take_84_L2 x2 0 S hS
set_option maxHeartbeats 1000000 in
set_option maxRecDepth 100000 in
theorem zf_X8_undo {S0 : Tr} (S : Tr) (hS : zf S0 S)   : Ep (f_X8_undo S) (fun q => zf S0 q.2) := by
  unfold f_X8_undo
  refine Ep_lt (fun S_1 eS_1 => ?_)
  have hS_1 : zf S0 S_1 := by rw [eS_1]; exact zf_s hS (by omega)
  refine Ep_ite (fun _ => ?_) (fun _ => ?_)
  · exact Ep_some hS_1
  · refine Ep_lt (fun S_3 eS_3 => ?_)
    have hS_3 : zf S0 S_3 := by rw [eS_3]; exact zf_s hS_1 (by omega)
    refine Ep_bd (zf_X8_take_84 S_3 ((61 : Int32) * (S_3 0 82)) hS_3) (fun S_4 hS_4 => ?_)
    exact Ep_some hS_4
set_option maxHeartbeats 1000000 in
set_option maxRecDepth 100000 in
theorem zfB_X8_outs_L261 {S0 : Tr} (L : Lo) (x1 : Int32)    (N : Nat) : ∀ (x3 : Int32) (S : Tr), zf S0 S → Ep (lpF (fun _ _ => none) (fB_X8_outs_L261 L x1) N x3 S) (fun q => zf S0 q.1) := by
  induction N with
  | zero => intro x3 S _; exact Ep_none
  | succ N ih =>
    intro x3 S hS
    show Ep (fB_X8_outs_L261 L x1 (lpF (fun _ _ => none) (fB_X8_outs_L261 L x1) N) x3 S) _
    have hk261 := ih
    clear ih
    generalize lpF (fun _ _ => none) (fB_X8_outs_L261 L x1) N = k261 at hk261 ⊢
    unfold fB_X8_outs_L261
    refine Ep_ite (fun _ => ?_) (fun _ => ?_)
    · exact Ep_some hS
    · refine Ep_ck ?_
      refine Ep_ite (fun _ => ?_) (fun _ => ?_)
      · refine Ep_lt (fun S_10 eS_10 => ?_)
        have hS_10 : zf S0 S_10 := by rw [eS_10]; exact zf_s hS (by omega)
        refine Ep_lt (fun y11 ey11 => ?_)
        exact hk261 y11 S_10 hS_10
      · refine Ep_lt (fun y9 ey9 => ?_)
        exact hk261 y9 S hS
set_option maxHeartbeats 1000000 in
set_option maxRecDepth 100000 in
theorem zfL_X8_outs_L261 {S0 : Tr} (L : Lo) (x1 : Int32)    (x3 : Int32) (S : Tr) (hS : zf S0 S) : Ep (fL_X8_outs_L261 L x1 x3 S) (fun q => zf S0 q.1) := by
  unfold fL_X8_outs_L261
  exact zfB_X8_outs_L261 L x1 2000 x3 S hS
set_option maxHeartbeats 1000000 in
set_option maxRecDepth 100000 in
theorem zfB_X8_outs_L223 {S0 : Tr} (L : Lo) (x1 : Int32)    (N : Nat) : ∀ (x3 : Int32) (S : Tr), zf S0 S → Ep (lpF (fun _ _ => none) (fB_X8_outs_L223 L x1) N x3 S) (fun q => zf S0 q.1) := by
  induction N with
  | zero => intro x3 S _; exact Ep_none
  | succ N ih =>
    intro x3 S hS
    show Ep (fB_X8_outs_L223 L x1 (lpF (fun _ _ => none) (fB_X8_outs_L223 L x1) N) x3 S) _
    have hk223 := ih
    clear ih
    generalize lpF (fun _ _ => none) (fB_X8_outs_L223 L x1) N = k223 at hk223 ⊢
    unfold fB_X8_outs_L223
    refine Ep_ite (fun _ => ?_) (fun _ => ?_)
    · exact zfL_X8_outs_L261 L x1 0 S hS
    · refine Ep_ck ?_
      refine Ep_ite (fun _ => ?_) (fun _ => ?_)
      · refine Ep_bd (zf_X8_takes S x1 x3 (5 : Int32) hS) (fun S_15 hS_15 => ?_)
        refine Ep_lt (fun y18 ey18 => ?_)
        exact hk223 y18 S_15 hS_15
      · refine Ep_lt (fun y14 ey14 => ?_)
        exact hk223 y14 S hS
set_option maxHeartbeats 1000000 in
set_option maxRecDepth 100000 in
theorem zfL_X8_outs_L223 {S0 : Tr} (L : Lo) (x1 : Int32)    (x3 : Int32) (S : Tr) (hS : zf S0 S) : Ep (fL_X8_outs_L223 L x1 x3 S) (fun q => zf S0 q.1) := by
  unfold fL_X8_outs_L223
  exact zfB_X8_outs_L223 L x1 2000 x3 S hS
set_option maxHeartbeats 1000000 in
set_option maxRecDepth 100000 in
theorem zfJ_X8_outs_J209 {S0 : Tr} (x1 : Int32) (S : Tr) (L : Lo) (hS : zf S0 S)   : Ep (fJ_X8_outs_J209 x1 S L) (fun q => zf S0 q.1) := by
  unfold fJ_X8_outs_J209
  refine Ep_ck ?_
  refine Ep_ite (fun _ => ?_) (fun _ => ?_)
  · exact zfL_X8_outs_L223 L x1 0 S hS
  · exact Ep_some hS
set_option maxHeartbeats 1000000 in
set_option maxRecDepth 100000 in
theorem zfJ_X8_outs_J182 {S0 : Tr} (k9 : Int32 → Int32 → Tr → Lo → Option (Tr × Lo)) (x1 : Int32) (x2 : Int32) (x3 : Int32) (S : Tr) (L : Lo) (hS : zf S0 S) (hk9 : ∀ (x2 : Int32) (x3 : Int32) (S : Tr) (L : Lo), zf S0 S → Ep (k9 x2 x3 S L) (fun q => zf S0 q.1))  : Ep (fJ_X8_outs_J182 k9 x1 x2 x3 S L) (fun q => zf S0 q.1) := by
  unfold fJ_X8_outs_J182
  refine Ep_any (fun r24 => ?_)
  refine Ep_ite (fun _ => ?_) (fun _ => ?_)
  · refine Ep_ck ?_
    refine Ep_lt (fun S_30 eS_30 => ?_)
    have hS_30 : zf S0 S_30 := by rw [eS_30]; exact zf_s hS (by omega)
    refine Ep_lt (fun y31 ey31 => ?_)
    exact hk9 x2 y31 S_30 L hS_30
  · refine Ep_lt (fun y28 ey28 => ?_)
    exact hk9 x2 y28 S L hS
set_option maxHeartbeats 1000000 in
set_option maxRecDepth 100000 in
theorem zfJ_X8_lawOf_J39 {S0 : Tr} (x1 : Int32) (S : Tr) (L : Lo) (hS : zf S0 S)   : Ep (fJ_X8_lawOf_J39 x1 S L) (fun q => zf S0 q.2.1) := by
  unfold fJ_X8_lawOf_J39
  refine Ep_ite (fun _ => ?_) (fun _ => ?_)
  · refine Ep_ck ?_
    refine Ep_ck ?_
    exact Ep_some hS
  · exact Ep_some hS
set_option maxHeartbeats 1000000 in
set_option maxRecDepth 100000 in
theorem zfJ_X8_bounded_J29 {S0 : Tr} (x1 : Int64) (s0 : Int32) (S : Tr) (hS : zf S0 S)   : Ep (fJ_X8_bounded_J29 x1 s0 S) (fun q => zf S0 q.2) := by
  unfold fJ_X8_bounded_J29
  refine Ep_ck ?_
  refine Ep_lt (fun S_3 eS_3 => ?_)
  have hS_3 : zf S0 S_3 := by rw [eS_3]; exact zf_s hS (by omega)
  refine Ep_ite (fun _ => ?_) (fun _ => ?_)
  · exact Ep_some hS_3
  · exact Ep_some hS_3
set_option maxHeartbeats 1000000 in
set_option maxRecDepth 100000 in
theorem zfJ_X8_bounded_J24 {S0 : Tr} (x1 : Int64) (S : Tr) (hS : zf S0 S)   : Ep (fJ_X8_bounded_J24 x1 S) (fun q => zf S0 q.2) := by
  unfold fJ_X8_bounded_J24
  exact zfJ_X8_bounded_J29 x1 1 S hS
set_option maxHeartbeats 1000000 in
set_option maxRecDepth 100000 in
theorem zf_X8_bounded {S0 : Tr} (S : Tr) (x1 : Int64) (hS : zf S0 S)   : Ep (f_X8_bounded S x1) (fun q => zf S0 q.2) := by
  unfold f_X8_bounded
  refine Ep_ite (fun _ => ?_) (fun _ => ?_)
  · refine Ep_ite (fun _ => ?_) (fun _ => ?_)
    · exact zfJ_X8_bounded_J24 x1 S hS
    · refine Ep_ite (fun _ => ?_) (fun _ => ?_)
      · exact zfJ_X8_bounded_J29 x1 0 S hS
      · exact zfJ_X8_bounded_J24 x1 S hS
  · exact zfJ_X8_bounded_J24 x1 S hS
set_option maxHeartbeats 1000000 in
set_option maxRecDepth 100000 in
theorem zfJ_X8_times_J69 {S0 : Tr} (x1 : Int64) (x3 : Int64) (s0 : Int32) (S : Tr) (hS : zf S0 S)   : Ep (fJ_X8_times_J69 x1 x3 s0 S) (fun q => zf S0 q.2) := by
  unfold fJ_X8_times_J69
  refine Ep_ck ?_
  refine Ep_lt (fun S_4 eS_4 => ?_)
  have hS_4 : zf S0 S_4 := by rw [eS_4]; exact zf_s hS (by omega)
  refine Ep_ite (fun _ => ?_) (fun _ => ?_)
  · exact Ep_some hS_4
  · exact Ep_some hS_4
set_option maxHeartbeats 1000000 in
set_option maxRecDepth 100000 in
theorem zfJ_X8_times_J64 {S0 : Tr} (x1 : Int64) (x3 : Int64) (S : Tr) (hS : zf S0 S)   : Ep (fJ_X8_times_J64 x1 x3 S) (fun q => zf S0 q.2) := by
  unfold fJ_X8_times_J64
  exact zfJ_X8_times_J69 x1 x3 1 S hS
set_option maxHeartbeats 1000000 in
set_option maxRecDepth 100000 in
theorem zfJ_X8_times_J49 {S0 : Tr} (x1 : Int64) (x3 : Int64) (s0 : Int32) (S : Tr) (hS : zf S0 S)   : Ep (fJ_X8_times_J49 x1 x3 s0 S) (fun q => zf S0 q.2) := by
  unfold fJ_X8_times_J49
  refine Ep_ite (fun _ => ?_) (fun _ => ?_)
  · refine Ep_ite (fun _ => ?_) (fun _ => ?_)
    · exact zfJ_X8_times_J69 x1 x3 0 S hS
    · exact zfJ_X8_times_J64 x1 x3 S hS
  · exact zfJ_X8_times_J64 x1 x3 S hS
set_option maxHeartbeats 1000000 in
set_option maxRecDepth 100000 in
theorem zfJ_X8_times_J48 {S0 : Tr} (x1 : Int64) (x3 : Int64) (S : Tr) (hS : zf S0 S)   : Ep (fJ_X8_times_J48 x1 x3 S) (fun q => zf S0 q.2) := by
  unfold fJ_X8_times_J48
  exact zfJ_X8_times_J49 x1 x3 0 S hS
set_option maxHeartbeats 1000000 in
set_option maxRecDepth 100000 in
theorem zfJ_X8_times_J39 {S0 : Tr} (x1 : Int64) (x3 : Int64) (s0 : Int64) (s1 : Int64) (s2 : Int64) (S : Tr) (hS : zf S0 S)   : Ep (fJ_X8_times_J39 x1 x3 s0 s1 s2 S) (fun q => zf S0 q.2) := by
  unfold fJ_X8_times_J39
  refine Ep_ck ?_
  refine Ep_ite (fun _ => ?_) (fun _ => ?_)
  · exact zfJ_X8_times_J48 x1 x3 S hS
  · exact zfJ_X8_times_J49 x1 x3 1 S hS
set_option maxHeartbeats 1000000 in
set_option maxRecDepth 100000 in
theorem zfJ_X8_times_J24 {S0 : Tr} (x1 : Int64) (x3 : Int64) (s0 : Int64) (S : Tr) (hS : zf S0 S)   : Ep (fJ_X8_times_J24 x1 x3 s0 S) (fun q => zf S0 q.2) := by
  unfold fJ_X8_times_J24
  refine Ep_ite (fun _ => ?_) (fun _ => ?_)
  · exact zfJ_X8_times_J39 x1 x3 x1 1000000000000 s0 S hS
  · exact zfJ_X8_times_J39 x1 x3 (-x1) 1000000000000 s0 S hS
set_option maxHeartbeats 1000000 in
set_option maxRecDepth 100000 in
theorem zf_X8_times {S0 : Tr} (S : Tr) (x1 : Int64) (x3 : Int64) (hS : zf S0 S)   : Ep (f_X8_times S x1 x3) (fun q => zf S0 q.2) := by
  unfold f_X8_times
  refine Ep_ite (fun _ => ?_) (fun _ => ?_)
  · exact zfJ_X8_times_J48 x1 x3 S hS
  · refine Ep_ite (fun _ => ?_) (fun _ => ?_)
    · exact zfJ_X8_times_J48 x1 x3 S hS
    · refine Ep_ite (fun _ => ?_) (fun _ => ?_)
      · exact zfJ_X8_times_J24 x1 x3 x3 S hS
      · exact zfJ_X8_times_J24 x1 x3 (-x3) S hS
set_option maxHeartbeats 1000000 in
set_option maxRecDepth 100000 in
theorem zfJ_X8_valueOf_J240 {S0 : Tr} (L : Lo) (x2 : Int64) (x4 : Int64) (s0 : Int32) (S : Tr) (hS : zf S0 S)   : Ep (fJ_X8_valueOf_J240 L x2 x4 s0 S) (fun q => zf S0 q.2) := by
  unfold fJ_X8_valueOf_J240
  refine Ep_ck ?_
  refine Ep_lt (fun S_34 eS_34 => ?_)
  have hS_34 : zf S0 S_34 := by rw [eS_34]; exact zf_s hS (by omega)
  refine Ep_ite (fun _ => ?_) (fun _ => ?_)
  · refine Ep_ck ?_
    exact Ep_some hS_34
  · exact Ep_some hS_34
set_option maxHeartbeats 1000000 in
set_option maxRecDepth 100000 in
theorem zfJ_X8_valueOf_J235 {S0 : Tr} (L : Lo) (x2 : Int64) (x4 : Int64) (S : Tr) (hS : zf S0 S)   : Ep (fJ_X8_valueOf_J235 L x2 x4 S) (fun q => zf S0 q.2) := by
  unfold fJ_X8_valueOf_J235
  exact zfJ_X8_valueOf_J240 L x2 x4 1 S hS
set_option maxHeartbeats 1000000 in
set_option maxRecDepth 100000 in
theorem zf_X8_valueOf {S0 : Tr} (S : Tr) (L : Lo) (x1 : Int32) (hS : zf S0 S)   : Ep (f_X8_valueOf S L x1) (fun q => zf S0 q.2) := by
  unfold f_X8_valueOf
  refine Ep_ck ?_
  refine Ep_ite (fun _ => ?_) (fun _ => ?_)
  · exact Ep_some hS
  · refine Ep_ite (fun _ => ?_) (fun _ => ?_)
    · refine Ep_ck ?_
      exact Ep_some hS
    · refine Ep_ck ?_
      refine Ep_lt (fun y5 ey5 => ?_)
      refine Ep_ite (fun _ => ?_) (fun _ => ?_)
      · refine Ep_ite (fun _ => ?_) (fun _ => ?_)
        · exact Ep_some hS
        · exact Ep_some hS
      · refine Ep_ck ?_
        refine Ep_lt (fun y8 ey8 => ?_)
        refine Ep_lt (fun y9 ey9 => ?_)
        refine Ep_ite (fun _ => ?_) (fun _ => ?_)
        · refine Ep_ite (fun _ => ?_) (fun _ => ?_)
          · exact Ep_some hS
          · refine Ep_ite (fun _ => ?_) (fun _ => ?_)
            · exact Ep_some hS
            · exact Ep_some hS
        · refine Ep_ite (fun _ => ?_) (fun _ => ?_)
          · refine Ep_ite (fun _ => ?_) (fun _ => ?_)
            · refine Ep_ite (fun _ => ?_) (fun _ => ?_)
              · exact Ep_some hS
              · exact Ep_some hS
            · exact Ep_some hS
          · refine Ep_ite (fun _ => ?_) (fun _ => ?_)
            · refine Ep_bd (zf_X8_bounded S (y5 + y8) hS) (fun q hq => ?_)
              refine Ep_lt (fun r17 er17 => ?_)
              refine Ep_lt (fun S_18 eS_18 => ?_)
              have hS_18 : zf S0 S_18 := by rw [eS_18]; exact hq
              exact Ep_some hS_18
            · refine Ep_ite (fun _ => ?_) (fun _ => ?_)
              · refine Ep_bd (zf_X8_bounded S (y5 - y8) hS) (fun q hq => ?_)
                refine Ep_lt (fun r22 er22 => ?_)
                refine Ep_lt (fun S_23 eS_23 => ?_)
                have hS_23 : zf S0 S_23 := by rw [eS_23]; exact hq
                exact Ep_some hS_23
              · refine Ep_ite (fun _ => ?_) (fun _ => ?_)
                · refine Ep_bd (zf_X8_times S y5 y8 hS) (fun q hq => ?_)
                  refine Ep_lt (fun r27 er27 => ?_)
                  refine Ep_lt (fun S_28 eS_28 => ?_)
                  have hS_28 : zf S0 S_28 := by rw [eS_28]; exact hq
                  exact Ep_some hS_28
                · refine Ep_ite (fun _ => ?_) (fun _ => ?_)
                  · refine Ep_ite (fun _ => ?_) (fun _ => ?_)
                    · refine Ep_ite (fun _ => ?_) (fun _ => ?_)
                      · exact zfJ_X8_valueOf_J235 L y5 y8 S hS
                      · exact zfJ_X8_valueOf_J240 L y5 y8 0 S hS
                    · exact zfJ_X8_valueOf_J235 L y5 y8 S hS
                  · refine Ep_any (fun r38 => ?_)
                    refine Ep_ite (fun _ => ?_) (fun _ => ?_)
                    · exact Ep_some hS
                    · exact Ep_some hS
set_option maxHeartbeats 1000000 in
set_option maxRecDepth 100000 in
theorem zfB_X8_lawOf_L12 {S0 : Tr} (x1 : Int32)    (N : Nat) : ∀ (x2 : Int32) (S : Tr) (L : Lo), zf S0 S → Ep (lpF (fun _ _ _ => none) (fB_X8_lawOf_L12 x1) N x2 S L) (fun q => zf S0 q.2.1) := by
  induction N with
  | zero => intro x2 S L _; exact Ep_none
  | succ N ih =>
    intro x2 S L hS
    show Ep (fB_X8_lawOf_L12 x1 (lpF (fun _ _ _ => none) (fB_X8_lawOf_L12 x1) N) x2 S L) _
    have hk12 := ih
    clear ih
    generalize lpF (fun _ _ _ => none) (fB_X8_lawOf_L12 x1) N = k12 at hk12 ⊢
    unfold fB_X8_lawOf_L12
    refine Ep_ck ?_
    refine Ep_ite (fun _ => ?_) (fun _ => ?_)
    · exact zfJ_X8_lawOf_J39 x1 S L hS
    · refine Ep_bd (zf_X8_valueOf S L x2 hS) (fun q hq => ?_)
      refine Ep_lt (fun r9 er9 => ?_)
      refine Ep_lt (fun S_10 eS_10 => ?_)
      have hS_10 : zf S0 S_10 := by rw [eS_10]; exact hq
      refine Ep_ck ?_
      refine Ep_lt (fun L_14 eL_14 => ?_)
      refine Ep_lt (fun y15 ey15 => ?_)
      exact hk12 y15 S_10 L_14 hS_10
set_option maxHeartbeats 1000000 in
set_option maxRecDepth 100000 in
theorem zfL_X8_lawOf_L12 {S0 : Tr} (x1 : Int32)    (x2 : Int32) (S : Tr) (L : Lo) (hS : zf S0 S) : Ep (fL_X8_lawOf_L12 x1 x2 S L) (fun q => zf S0 q.2.1) := by
  unfold fL_X8_lawOf_L12
  exact zfB_X8_lawOf_L12 x1 2000 x2 S L hS
set_option maxHeartbeats 1000000 in
set_option maxRecDepth 100000 in
theorem zf_X8_lawOf {S0 : Tr} (S : Tr) (L : Lo) (x1 : Int32) (hS : zf S0 S)   : Ep (f_X8_lawOf S L x1) (fun q => zf S0 q.2.1) := by
  unfold f_X8_lawOf
  refine Ep_lt (fun S_1 eS_1 => ?_)
  have hS_1 : zf S0 S_1 := by rw [eS_1]; exact zf_s hS (by omega)
  refine Ep_ck ?_
  refine Ep_lt (fun y3 ey3 => ?_)
  exact zfL_X8_lawOf_L12 x1 y3 S_1 L hS_1
set_option maxHeartbeats 1000000 in
set_option maxRecDepth 100000 in
theorem zf_X8_boundLaw {S0 : Tr} (S : Tr) (L : Lo) (x1 : Int32) (x2 : Int32) (x3 : Int32) (hS : zf S0 S)   : Ep (f_X8_boundLaw S L x1 x2 x3) (fun q => zf S0 q.2.1) := by
  unfold f_X8_boundLaw
  refine Ep_ck ?_
  refine Ep_ite (fun _ => ?_) (fun _ => ?_)
  · exact Ep_some hS
  · refine Ep_bd (zf_X8_lawOf S L x1 hS) (fun q hq => ?_)
    refine Ep_lt (fun r3 er3 => ?_)
    refine Ep_lt (fun S_4 eS_4 => ?_)
    have hS_4 : zf S0 S_4 := by rw [eS_4]; exact hq
    refine Ep_lt (fun L_5 eL_5 => ?_)
    refine Ep_ite (fun _ => ?_) (fun _ => ?_)
    · refine Ep_ite (fun _ => ?_) (fun _ => ?_)
      · refine Ep_ite (fun _ => ?_) (fun _ => ?_)
        · exact Ep_some hS_4
        · exact Ep_some hS_4
      · exact Ep_some hS_4
    · exact Ep_some hS_4
set_option maxHeartbeats 1000000 in
set_option maxRecDepth 100000 in
theorem zf_X8_liftOf {S0 : Tr} (S : Tr) (L : Lo) (x1 : Int32) (x2 : Int32) (x3 : Int32) (hS : zf S0 S)   : Ep (f_X8_liftOf S L x1 x2 x3) (fun q => zf S0 q.2.1) := by
  unfold f_X8_liftOf
  refine Ep_any (fun L_1 => ?_)
  refine Ep_ck ?_
  refine Ep_any (fun r5 => ?_)
  refine Ep_ck ?_
  refine Ep_bd (zf_X8_boundLaw S L_1 (0 : Int32) (((S 31 x2.toNatClampNeg) / r5) + 1) (99 : Int32) hS) (fun q hq => ?_)
  refine Ep_lt (fun r9 er9 => ?_)
  refine Ep_lt (fun S_10 eS_10 => ?_)
  have hS_10 : zf S0 S_10 := by rw [eS_10]; exact hq
  refine Ep_lt (fun L_11 eL_11 => ?_)
  exact Ep_some hS_10
set_option maxHeartbeats 1000000 in
set_option maxRecDepth 100000 in
theorem zfB_X8_secondsOf_L23 {S0 : Tr} (x1 : Int32) (x2 : Int32) (x3 : Int32)    (N : Nat) : ∀ (x4 : Int32) (x5 : Int32) (S : Tr) (L : Lo), zf S0 S → Ep (lpF (fun _ _ _ _ => none) (fB_X8_secondsOf_L23 x1 x2 x3) N x4 x5 S L) (fun q => zf S0 q.2.1) := by
  induction N with
  | zero => intro x4 x5 S L _; exact Ep_none
  | succ N ih =>
    intro x4 x5 S L hS
    show Ep (fB_X8_secondsOf_L23 x1 x2 x3 (lpF (fun _ _ _ _ => none) (fB_X8_secondsOf_L23 x1 x2 x3) N) x4 x5 S L) _
    have hk23 := ih
    clear ih
    generalize lpF (fun _ _ _ _ => none) (fB_X8_secondsOf_L23 x1 x2 x3) N = k23 at hk23 ⊢
    unfold fB_X8_secondsOf_L23
    refine Ep_ck ?_
    refine Ep_ite (fun _ => ?_) (fun _ => ?_)
    · exact Ep_some hS
    · refine Ep_any (fun r8 => ?_)
      refine Ep_ck ?_
      refine Ep_bd (zf_X8_liftOf S L x1 r8 (S 30 x2.toNatClampNeg) hS) (fun q hq => ?_)
      refine Ep_lt (fun r12 er12 => ?_)
      refine Ep_lt (fun S_13 eS_13 => ?_)
      have hS_13 : zf S0 S_13 := by rw [eS_13]; exact hq
      refine Ep_lt (fun L_14 eL_14 => ?_)
      refine Ep_lt (fun y17 ey17 => ?_)
      refine Ep_lt (fun y18 ey18 => ?_)
      exact hk23 y17 y18 S_13 L_14 hS_13
set_option maxHeartbeats 1000000 in
set_option maxRecDepth 100000 in
theorem zfL_X8_secondsOf_L23 {S0 : Tr} (x1 : Int32) (x2 : Int32) (x3 : Int32)    (x4 : Int32) (x5 : Int32) (S : Tr) (L : Lo) (hS : zf S0 S) : Ep (fL_X8_secondsOf_L23 x1 x2 x3 x4 x5 S L) (fun q => zf S0 q.2.1) := by
  unfold fL_X8_secondsOf_L23
  exact zfB_X8_secondsOf_L23 x1 x2 x3 2000 x4 x5 S L hS
set_option maxHeartbeats 1000000 in
set_option maxRecDepth 100000 in
theorem zf_X8_secondsOf {S0 : Tr} (S : Tr) (L : Lo) (x1 : Int32) (x2 : Int32) (hS : zf S0 S)   : Ep (f_X8_secondsOf S L x1 x2) (fun q => zf S0 q.2.1) := by
  unfold f_X8_secondsOf
  refine Ep_ck ?_
  refine Ep_lt (fun y2 ey2 => ?_)
  refine Ep_any (fun r3 => ?_)
  exact zfL_X8_secondsOf_L23 x1 x2 y2 0 r3 S L hS
set_option maxHeartbeats 1000000 in
set_option maxRecDepth 100000 in
theorem zfJ_X8_outs_J117 {S0 : Tr} (k9 : Int32 → Int32 → Tr → Lo → Option (Tr × Lo)) (k32 : Int32 → Int32 → Tr → Lo → Option (Tr × Lo)) (x1 : Int32) (x3 : Int32) (x4 : Int32) (x5 : Int32) (s0 : Int32) (S : Tr) (L : Lo) (hS : zf S0 S) (hk9 : ∀ (x2 : Int32) (x3 : Int32) (S : Tr) (L : Lo), zf S0 S → Ep (k9 x2 x3 S L) (fun q => zf S0 q.1)) (hk32 : ∀ (x2 : Int32) (x4 : Int32) (S : Tr) (L : Lo), zf S0 S → Ep (k32 x2 x4 S L) (fun q => zf S0 q.1))  : Ep (fJ_X8_outs_J117 k9 k32 x1 x3 x4 x5 s0 S L) (fun q => zf S0 q.1) := by
  unfold fJ_X8_outs_J117
  refine Ep_ite (fun _ => ?_) (fun _ => ?_)
  · refine Ep_lt (fun y56 ey56 => ?_)
    exact hk32 s0 y56 S L hS
  · refine Ep_lt (fun S_44 eS_44 => ?_)
    have hS_44 : zf S0 S_44 := by rw [eS_44]; exact zf_s hS (by omega)
    refine Ep_ck ?_
    refine Ep_lt (fun S_46 eS_46 => ?_)
    have hS_46 : zf S0 S_46 := by rw [eS_46]; exact zf_s hS_44 (by omega)
    refine Ep_ck ?_
    refine Ep_any (fun r48 => ?_)
    refine Ep_lt (fun S_51 eS_51 => ?_)
    have hS_51 : zf S0 S_51 := by rw [eS_51]; exact zf_s hS_46 (by omega)
    refine Ep_bd (zf_X8_takes S_51 x1 x4 (2 : Int32) hS_51) (fun S_52 hS_52 => ?_)
    refine Ep_lt (fun y55 ey55 => ?_)
    exact hk32 s0 y55 S_52 L hS_52
set_option maxHeartbeats 1000000 in
set_option maxRecDepth 100000 in
theorem zfJ_X8_outs_J116 {S0 : Tr} (k9 : Int32 → Int32 → Tr → Lo → Option (Tr × Lo)) (k32 : Int32 → Int32 → Tr → Lo → Option (Tr × Lo)) (x1 : Int32) (x3 : Int32) (x4 : Int32) (x5 : Int32) (S : Tr) (L : Lo) (hS : zf S0 S) (hk9 : ∀ (x2 : Int32) (x3 : Int32) (S : Tr) (L : Lo), zf S0 S → Ep (k9 x2 x3 S L) (fun q => zf S0 q.1)) (hk32 : ∀ (x2 : Int32) (x4 : Int32) (S : Tr) (L : Lo), zf S0 S → Ep (k32 x2 x4 S L) (fun q => zf S0 q.1))  : Ep (fJ_X8_outs_J116 k9 k32 x1 x3 x4 x5 S L) (fun q => zf S0 q.1) := by
  unfold fJ_X8_outs_J116
  exact zfJ_X8_outs_J117 k9 k32 x1 x3 x4 x5 0 S L hS hk9 hk32
set_option maxHeartbeats 1000000 in
set_option maxRecDepth 100000 in
theorem zfJ_X8_outs_J112 {S0 : Tr} (k9 : Int32 → Int32 → Tr → Lo → Option (Tr × Lo)) (k32 : Int32 → Int32 → Tr → Lo → Option (Tr × Lo)) (x1 : Int32) (x3 : Int32) (x4 : Int32) (x5 : Int32) (S : Tr) (L : Lo) (hS : zf S0 S) (hk9 : ∀ (x2 : Int32) (x3 : Int32) (S : Tr) (L : Lo), zf S0 S → Ep (k9 x2 x3 S L) (fun q => zf S0 q.1)) (hk32 : ∀ (x2 : Int32) (x4 : Int32) (S : Tr) (L : Lo), zf S0 S → Ep (k32 x2 x4 S L) (fun q => zf S0 q.1))  : Ep (fJ_X8_outs_J112 k9 k32 x1 x3 x4 x5 S L) (fun q => zf S0 q.1) := by
  unfold fJ_X8_outs_J112
  exact zfJ_X8_outs_J117 k9 k32 x1 x3 x4 x5 1 S L hS hk9 hk32
set_option maxHeartbeats 1000000 in
set_option maxRecDepth 100000 in
theorem zfB_X8_outs_L32 {S0 : Tr} (k9 : Int32 → Int32 → Tr → Lo → Option (Tr × Lo)) (x1 : Int32) (x3 : Int32)  (hk9 : ∀ (x2 : Int32) (x3 : Int32) (S : Tr) (L : Lo), zf S0 S → Ep (k9 x2 x3 S L) (fun q => zf S0 q.1))  (N : Nat) : ∀ (x2 : Int32) (x4 : Int32) (S : Tr) (L : Lo), zf S0 S → Ep (lpF (fun _ _ _ _ => none) (fB_X8_outs_L32 k9 x1 x3) N x2 x4 S L) (fun q => zf S0 q.1) := by
  induction N with
  | zero => intro x2 x4 S L _; exact Ep_none
  | succ N ih =>
    intro x2 x4 S L hS
    show Ep (fB_X8_outs_L32 k9 x1 x3 (lpF (fun _ _ _ _ => none) (fB_X8_outs_L32 k9 x1 x3) N) x2 x4 S L) _
    have hk32 := ih
    clear ih
    generalize lpF (fun _ _ _ _ => none) (fB_X8_outs_L32 k9 x1 x3) N = k32 at hk32 ⊢
    unfold fB_X8_outs_L32
    refine Ep_ite (fun _ => ?_) (fun _ => ?_)
    · exact zfJ_X8_outs_J182 k9 x1 x2 x3 S L hS hk9
    · refine Ep_ck ?_
      refine Ep_ite (fun _ => ?_) (fun _ => ?_)
      · refine Ep_ck ?_
        refine Ep_ite (fun _ => ?_) (fun _ => ?_)
        · refine Ep_bd (zf_X8_secondsOf S L x1 x4 hS) (fun q hq => ?_)
          refine Ep_lt (fun r37 er37 => ?_)
          refine Ep_lt (fun S_38 eS_38 => ?_)
          have hS_38 : zf S0 S_38 := by rw [eS_38]; exact hq
          refine Ep_lt (fun L_39 eL_39 => ?_)
          refine Ep_ite (fun _ => ?_) (fun _ => ?_)
          · exact zfJ_X8_outs_J116 k9 k32 x1 x3 x4 r37 S_38 L_39 hS_38 hk9 hk32
          · refine Ep_ite (fun _ => ?_) (fun _ => ?_)
            · refine Ep_ck ?_
              refine Ep_ck ?_
              refine Ep_ite (fun _ => ?_) (fun _ => ?_)
              · exact zfJ_X8_outs_J116 k9 k32 x1 x3 x4 r37 S_38 L_39 hS_38 hk9 hk32
              · exact zfJ_X8_outs_J112 k9 k32 x1 x3 x4 r37 S_38 L_39 hS_38 hk9 hk32
            · exact zfJ_X8_outs_J112 k9 k32 x1 x3 x4 r37 S_38 L_39 hS_38 hk9 hk32
        · refine Ep_lt (fun y61 ey61 => ?_)
          exact hk32 x2 y61 S L hS
      · refine Ep_lt (fun y34 ey34 => ?_)
        exact hk32 x2 y34 S L hS
set_option maxHeartbeats 1000000 in
set_option maxRecDepth 100000 in
theorem zfL_X8_outs_L32 {S0 : Tr} (k9 : Int32 → Int32 → Tr → Lo → Option (Tr × Lo)) (x1 : Int32) (x3 : Int32)  (hk9 : ∀ (x2 : Int32) (x3 : Int32) (S : Tr) (L : Lo), zf S0 S → Ep (k9 x2 x3 S L) (fun q => zf S0 q.1))  (x2 : Int32) (x4 : Int32) (S : Tr) (L : Lo) (hS : zf S0 S) : Ep (fL_X8_outs_L32 k9 x1 x3 x2 x4 S L) (fun q => zf S0 q.1) := by
  unfold fL_X8_outs_L32
  exact zfB_X8_outs_L32 k9 x1 x3 hk9 2000 x2 x4 S L hS
set_option maxHeartbeats 1000000 in
set_option maxRecDepth 100000 in
theorem zfB_X8_outs_L9 {S0 : Tr} (x1 : Int32)    (N : Nat) : ∀ (x2 : Int32) (x3 : Int32) (S : Tr) (L : Lo), zf S0 S → Ep (lpF (fun _ _ _ _ => none) (fB_X8_outs_L9 x1) N x2 x3 S L) (fun q => zf S0 q.1) := by
  induction N with
  | zero => intro x2 x3 S L _; exact Ep_none
  | succ N ih =>
    intro x2 x3 S L hS
    show Ep (fB_X8_outs_L9 x1 (lpF (fun _ _ _ _ => none) (fB_X8_outs_L9 x1) N) x2 x3 S L) _
    have hk9 := ih
    clear ih
    generalize lpF (fun _ _ _ _ => none) (fB_X8_outs_L9 x1) N = k9 at hk9 ⊢
    unfold fB_X8_outs_L9
    refine Ep_ite (fun _ => ?_) (fun _ => ?_)
    · exact zfJ_X8_outs_J209 x1 S L hS
    · refine Ep_any (fun r19 => ?_)
      refine Ep_ite (fun _ => ?_) (fun _ => ?_)
      · refine Ep_lt (fun y62 ey62 => ?_)
        exact hk9 x2 y62 S L hS
      · exact zfL_X8_outs_L32 k9 x1 x3 hk9 x2 0 S L hS
set_option maxHeartbeats 1000000 in
set_option maxRecDepth 100000 in
theorem zfL_X8_outs_L9 {S0 : Tr} (x1 : Int32)    (x2 : Int32) (x3 : Int32) (S : Tr) (L : Lo) (hS : zf S0 S) : Ep (fL_X8_outs_L9 x1 x2 x3 S L) (fun q => zf S0 q.1) := by
  unfold fL_X8_outs_L9
  exact zfB_X8_outs_L9 x1 2000 x2 x3 S L hS
set_option maxHeartbeats 1000000 in
set_option maxRecDepth 100000 in
theorem zf_X8_outs {S0 : Tr} (S : Tr) (L : Lo) (x1 : Int32) (hS : zf S0 S)   : Ep (f_X8_outs S L x1) (fun q => zf S0 q.1) := by
  unfold f_X8_outs
  refine Ep_lt (fun S_1 eS_1 => ?_)
  have hS_1 : zf S0 S_1 := by rw [eS_1]; exact zf_s hS (by omega)
  exact zfL_X8_outs_L9 x1 1 0 S_1 L hS_1
set_option maxHeartbeats 1000000 in
set_option maxRecDepth 100000 in
theorem zfJ_X8_ins_J185 {S0 : Tr} (k146 : Int32 → Tr → Option (Tr)) (x1 : Int32) (x2 : Int32) (s0 : Int32) (s1 : Int32) (s2 : Int32) (S : Tr) (hS : zf S0 S) (hk146 : ∀ (x2 : Int32) (S : Tr), zf S0 S → Ep (k146 x2 S) (fun q => zf S0 q))  : Ep (fJ_X8_ins_J185 k146 x1 x2 s0 s1 s2 S) (fun q => zf S0 q) := by
  unfold fJ_X8_ins_J185
  refine Ep_ck ?_
  refine Ep_lt (fun S_7 eS_7 => ?_)
  have hS_7 : zf S0 S_7 := by rw [eS_7]; exact zf_s hS (by omega)
  refine Ep_lt (fun y8 ey8 => ?_)
  exact hk146 y8 S_7 hS_7
set_option maxHeartbeats 1000000 in
set_option maxRecDepth 100000 in
theorem zfB_X8_ins_L146 {S0 : Tr} (x1 : Int32)    (N : Nat) : ∀ (x2 : Int32) (S : Tr), zf S0 S → Ep (lpF (fun _ _ => none) (fB_X8_ins_L146 x1) N x2 S) (fun q => zf S0 q) := by
  induction N with
  | zero => intro x2 S _; exact Ep_none
  | succ N ih =>
    intro x2 S hS
    show Ep (fB_X8_ins_L146 x1 (lpF (fun _ _ => none) (fB_X8_ins_L146 x1) N) x2 S) _
    have hk146 := ih
    clear ih
    generalize lpF (fun _ _ => none) (fB_X8_ins_L146 x1) N = k146 at hk146 ⊢
    unfold fB_X8_ins_L146
    refine Ep_ite (fun _ => ?_) (fun _ => ?_)
    · exact Ep_some hS
    · refine Ep_ck ?_
      refine Ep_ck ?_
      refine Ep_ite (fun _ => ?_) (fun _ => ?_)
      · refine Ep_ck ?_
        exact zfJ_X8_ins_J185 k146 x1 x2 (S 56 (((5 : Int32) * x1) + x2).toNatClampNeg) (S 63 x1.toNatClampNeg) x1 S hS hk146
      · exact zfJ_X8_ins_J185 k146 x1 x2 0 (S 63 x1.toNatClampNeg) x1 S hS hk146
set_option maxHeartbeats 1000000 in
set_option maxRecDepth 100000 in
theorem zfL_X8_ins_L146 {S0 : Tr} (x1 : Int32)    (x2 : Int32) (S : Tr) (hS : zf S0 S) : Ep (fL_X8_ins_L146 x1 x2 S) (fun q => zf S0 q) := by
  unfold fL_X8_ins_L146
  exact zfB_X8_ins_L146 x1 2000 x2 S hS
set_option maxHeartbeats 1000000 in
set_option maxRecDepth 100000 in
theorem zfB_X8_ins_L61 {S0 : Tr} (k2 : Int32 → Tr → Option (Tr)) (x1 : Int32) (x2 : Int32)  (hk2 : ∀ (x2 : Int32) (S : Tr), zf S0 S → Ep (k2 x2 S) (fun q => zf S0 q))  (N : Nat) : ∀ (x3 : Int32) (S : Tr), zf S0 S → Ep (lpF (fun _ _ => none) (fB_X8_ins_L61 k2 x1 x2) N x3 S) (fun q => zf S0 q) := by
  induction N with
  | zero => intro x3 S _; exact Ep_none
  | succ N ih =>
    intro x3 S hS
    show Ep (fB_X8_ins_L61 k2 x1 x2 (lpF (fun _ _ => none) (fB_X8_ins_L61 k2 x1 x2) N) x3 S) _
    have hk61 := ih
    clear ih
    generalize lpF (fun _ _ => none) (fB_X8_ins_L61 k2 x1 x2) N = k61 at hk61 ⊢
    unfold fB_X8_ins_L61
    refine Ep_ite (fun _ => ?_) (fun _ => ?_)
    · refine Ep_lt (fun y17 ey17 => ?_)
      exact hk2 y17 S hS
    · refine Ep_ck ?_
      refine Ep_ite (fun _ => ?_) (fun _ => ?_)
      · refine Ep_ck ?_
        refine Ep_ite (fun _ => ?_) (fun _ => ?_)
        · refine Ep_any (fun r23 => ?_)
          refine Ep_ite (fun _ => ?_) (fun _ => ?_)
          · refine Ep_bd (zf_X8_lays S x1 r23 x3 hS) (fun S_27 hS_27 => ?_)
            refine Ep_lt (fun y30 ey30 => ?_)
            exact hk61 y30 S_27 hS_27
          · refine Ep_lt (fun S_31 eS_31 => ?_)
            have hS_31 : zf S0 S_31 := by rw [eS_31]; exact zf_s hS (by omega)
            refine Ep_lt (fun y32 ey32 => ?_)
            exact hk61 y32 S_31 hS_31
        · refine Ep_lt (fun y33 ey33 => ?_)
          exact hk61 y33 S hS
      · refine Ep_lt (fun y20 ey20 => ?_)
        exact hk61 y20 S hS
set_option maxHeartbeats 1000000 in
set_option maxRecDepth 100000 in
theorem zfL_X8_ins_L61 {S0 : Tr} (k2 : Int32 → Tr → Option (Tr)) (x1 : Int32) (x2 : Int32)  (hk2 : ∀ (x2 : Int32) (S : Tr), zf S0 S → Ep (k2 x2 S) (fun q => zf S0 q))  (x3 : Int32) (S : Tr) (hS : zf S0 S) : Ep (fL_X8_ins_L61 k2 x1 x2 x3 S) (fun q => zf S0 q) := by
  unfold fL_X8_ins_L61
  exact zfB_X8_ins_L61 k2 x1 x2 hk2 2000 x3 S hS
set_option maxHeartbeats 1000000 in
set_option maxRecDepth 100000 in
theorem zfB_X8_ins_L2 {S0 : Tr} (x1 : Int32)    (N : Nat) : ∀ (x2 : Int32) (S : Tr), zf S0 S → Ep (lpF (fun _ _ => none) (fB_X8_ins_L2 x1) N x2 S) (fun q => zf S0 q) := by
  induction N with
  | zero => intro x2 S _; exact Ep_none
  | succ N ih =>
    intro x2 S hS
    show Ep (fB_X8_ins_L2 x1 (lpF (fun _ _ => none) (fB_X8_ins_L2 x1) N) x2 S) _
    have hk2 := ih
    clear ih
    generalize lpF (fun _ _ => none) (fB_X8_ins_L2 x1) N = k2 at hk2 ⊢
    unfold fB_X8_ins_L2
    refine Ep_ite (fun _ => ?_) (fun _ => ?_)
    · exact zfL_X8_ins_L146 x1 0 S hS
    · refine Ep_ck ?_
      refine Ep_ck ?_
      refine Ep_ite (fun _ => ?_) (fun _ => ?_)
      · refine Ep_ite (fun _ => ?_) (fun _ => ?_)
        · refine Ep_lt (fun S_15 eS_15 => ?_)
          have hS_15 : zf S0 S_15 := by rw [eS_15]; exact zf_s hS (by omega)
          exact zfL_X8_ins_L61 k2 x1 x2 hk2 0 S_15 hS_15
        · refine Ep_lt (fun y34 ey34 => ?_)
          exact hk2 y34 S hS
      · refine Ep_lt (fun y13 ey13 => ?_)
        exact hk2 y13 S hS
set_option maxHeartbeats 1000000 in
set_option maxRecDepth 100000 in
theorem zfL_X8_ins_L2 {S0 : Tr} (x1 : Int32)    (x2 : Int32) (S : Tr) (hS : zf S0 S) : Ep (fL_X8_ins_L2 x1 x2 S) (fun q => zf S0 q) := by
  unfold fL_X8_ins_L2
  exact zfB_X8_ins_L2 x1 2000 x2 S hS
set_option maxHeartbeats 1000000 in
set_option maxRecDepth 100000 in
theorem zf_X8_ins {S0 : Tr} (S : Tr) (x1 : Int32) (hS : zf S0 S)   : Ep (f_X8_ins S x1) (fun q => zf S0 q) := by
  unfold f_X8_ins
  exact zfL_X8_ins_L2 x1 0 S hS
set_option maxHeartbeats 1000000 in
set_option maxRecDepth 100000 in
theorem zfB_X8_onTheWay_L90 {S0 : Tr} (x1 : Int32)    (N : Nat) : ∀ (x2 : Int32) (S : Tr) (L : Lo), zf S0 S → Ep (lpF (fun _ _ _ => none) (fB_X8_onTheWay_L90 x1) N x2 S L) (fun q => zf S0 q.1) := by
  induction N with
  | zero => intro x2 S L _; exact Ep_none
  | succ N ih =>
    intro x2 S L hS
    show Ep (fB_X8_onTheWay_L90 x1 (lpF (fun _ _ _ => none) (fB_X8_onTheWay_L90 x1) N) x2 S L) _
    have hk90 := ih
    clear ih
    generalize lpF (fun _ _ _ => none) (fB_X8_onTheWay_L90 x1) N = k90 at hk90 ⊢
    unfold fB_X8_onTheWay_L90
    refine Ep_ite (fun _ => ?_) (fun _ => ?_)
    · exact Ep_some hS
    · refine Ep_ite (fun _ => ?_) (fun _ => ?_)
      · refine Ep_ck ?_
        refine Ep_ite (fun _ => ?_) (fun _ => ?_)
        · refine Ep_ck ?_
          refine Ep_ite (fun _ => ?_) (fun _ => ?_)
          · refine Ep_ck ?_
            refine Ep_any (fun L_10 => ?_)
            refine Ep_bd (zf_X8_boundLaw S L_10 (2 : Int32) (10 : Int32) (100 : Int32) hS) (fun q hq => ?_)
            refine Ep_lt (fun r13 er13 => ?_)
            refine Ep_lt (fun S_14 eS_14 => ?_)
            have hS_14 : zf S0 S_14 := by rw [eS_14]; exact hq
            refine Ep_lt (fun L_15 eL_15 => ?_)
            refine Ep_any (fun q => ?_)
            refine Ep_lt (fun r18 er18 => ?_)
            refine Ep_lt (fun L_19 eL_19 => ?_)
            refine Ep_ite (fun _ => ?_) (fun _ => ?_)
            · refine Ep_lt (fun y23 ey23 => ?_)
              exact hk90 y23 S_14 L_19 hS_14
            · refine Ep_bd (zf_X8_takes S_14 x1 x2 (4 : Int32) hS_14) (fun S_24 hS_24 => ?_)
              refine Ep_lt (fun y27 ey27 => ?_)
              exact hk90 y27 S_24 L_19 hS_24
          · refine Ep_lt (fun y28 ey28 => ?_)
            exact hk90 y28 S L hS
        · refine Ep_lt (fun y6 ey6 => ?_)
          exact hk90 y6 S L hS
      · exact Ep_some hS
set_option maxHeartbeats 1000000 in
set_option maxRecDepth 100000 in
theorem zfL_X8_onTheWay_L90 {S0 : Tr} (x1 : Int32)    (x2 : Int32) (S : Tr) (L : Lo) (hS : zf S0 S) : Ep (fL_X8_onTheWay_L90 x1 x2 S L) (fun q => zf S0 q.1) := by
  unfold fL_X8_onTheWay_L90
  exact zfB_X8_onTheWay_L90 x1 2000 x2 S L hS
set_option maxHeartbeats 1000000 in
set_option maxRecDepth 100000 in
theorem zfJ_X8_fallOf_J58 {S0 : Tr} (s0 : Int32) (s1 : Int32) (S : Tr) (L : Lo) (hS : zf S0 S)   : Ep (fJ_X8_fallOf_J58 s0 s1 S L) (fun q => zf S0 q.2.1) := by
  unfold fJ_X8_fallOf_J58
  refine Ep_bd (zf_X8_boundLaw S L s1 s0 (100 : Int32) hS) (fun q hq => ?_)
  refine Ep_lt (fun r11 er11 => ?_)
  refine Ep_lt (fun S_12 eS_12 => ?_)
  have hS_12 : zf S0 S_12 := by rw [eS_12]; exact hq
  refine Ep_lt (fun L_13 eL_13 => ?_)
  exact Ep_some hS_12
set_option maxHeartbeats 1000000 in
set_option maxRecDepth 100000 in
theorem zfJ_X8_fallOf_J17 {S0 : Tr} (x1 : Int32) (x2 : Int32) (s0 : Int32) (S : Tr) (L : Lo) (hS : zf S0 S)   : Ep (fJ_X8_fallOf_J17 x1 x2 s0 S L) (fun q => zf S0 q.2.1) := by
  unfold fJ_X8_fallOf_J17
  refine Ep_any (fun r2 => ?_)
  refine Ep_ck ?_
  refine Ep_lt (fun y6 ey6 => ?_)
  refine Ep_any (fun L_7 => ?_)
  refine Ep_ite (fun _ => ?_) (fun _ => ?_)
  · exact zfJ_X8_fallOf_J58 y6 1 S L_7 hS
  · exact zfJ_X8_fallOf_J58 0 1 S L_7 hS
set_option maxHeartbeats 1000000 in
set_option maxRecDepth 100000 in
theorem zf_X8_fallOf {S0 : Tr} (S : Tr) (L : Lo) (x1 : Int32) (x2 : Int32) (hS : zf S0 S)   : Ep (f_X8_fallOf S L x1 x2) (fun q => zf S0 q.2.1) := by
  unfold f_X8_fallOf
  refine Ep_ite (fun _ => ?_) (fun _ => ?_)
  · exact zfJ_X8_fallOf_J17 x1 x2 (S 23 1) S L hS
  · exact zfJ_X8_fallOf_J17 x1 x2 0 S L hS
set_option maxHeartbeats 1000000 in
set_option maxRecDepth 100000 in
theorem zfB_X8_onTheWay_L2 {S0 : Tr} (x1 : Int32)    (N : Nat) : ∀ (x2 : Int32) (S : Tr) (L : Lo), zf S0 S → Ep (lpF (fun _ _ _ => none) (fB_X8_onTheWay_L2 x1) N x2 S L) (fun q => zf S0 q.1) := by
  induction N with
  | zero => intro x2 S L _; exact Ep_none
  | succ N ih =>
    intro x2 S L hS
    show Ep (fB_X8_onTheWay_L2 x1 (lpF (fun _ _ _ => none) (fB_X8_onTheWay_L2 x1) N) x2 S L) _
    have hk2 := ih
    clear ih
    generalize lpF (fun _ _ _ => none) (fB_X8_onTheWay_L2 x1) N = k2 at hk2 ⊢
    unfold fB_X8_onTheWay_L2
    refine Ep_ite (fun _ => ?_) (fun _ => ?_)
    · exact zfL_X8_onTheWay_L90 x1 0 S L hS
    · refine Ep_ite (fun _ => ?_) (fun _ => ?_)
      · refine Ep_ck ?_
        refine Ep_ite (fun _ => ?_) (fun _ => ?_)
        · refine Ep_lt (fun y32 ey32 => ?_)
          exact hk2 y32 S L hS
        · refine Ep_ck ?_
          refine Ep_ite (fun _ => ?_) (fun _ => ?_)
          · refine Ep_lt (fun y53 ey53 => ?_)
            exact hk2 y53 S L hS
          · refine Ep_any (fun r35 => ?_)
            refine Ep_bd (zf_X8_fallOf S L x1 r35 hS) (fun q hq => ?_)
            refine Ep_lt (fun r38 er38 => ?_)
            refine Ep_lt (fun S_39 eS_39 => ?_)
            have hS_39 : zf S0 S_39 := by rw [eS_39]; exact hq
            refine Ep_lt (fun L_40 eL_40 => ?_)
            refine Ep_any (fun q => ?_)
            refine Ep_lt (fun r43 er43 => ?_)
            refine Ep_lt (fun L_44 eL_44 => ?_)
            refine Ep_ite (fun _ => ?_) (fun _ => ?_)
            · refine Ep_lt (fun y48 ey48 => ?_)
              exact hk2 y48 S_39 L_44 hS_39
            · refine Ep_bd (zf_X8_takes S_39 x1 r35 (3 : Int32) hS_39) (fun S_49 hS_49 => ?_)
              refine Ep_lt (fun y52 ey52 => ?_)
              exact hk2 y52 S_49 L_44 hS_49
      · exact zfL_X8_onTheWay_L90 x1 0 S L hS
set_option maxHeartbeats 1000000 in
set_option maxRecDepth 100000 in
theorem zfL_X8_onTheWay_L2 {S0 : Tr} (x1 : Int32)    (x2 : Int32) (S : Tr) (L : Lo) (hS : zf S0 S) : Ep (fL_X8_onTheWay_L2 x1 x2 S L) (fun q => zf S0 q.1) := by
  unfold fL_X8_onTheWay_L2
  exact zfB_X8_onTheWay_L2 x1 2000 x2 S L hS
set_option maxHeartbeats 1000000 in
set_option maxRecDepth 100000 in
theorem zf_X8_onTheWay {S0 : Tr} (S : Tr) (L : Lo) (x1 : Int32) (hS : zf S0 S)   : Ep (f_X8_onTheWay S L x1) (fun q => zf S0 q.1) := by
  unfold f_X8_onTheWay
  exact zfL_X8_onTheWay_L2 x1 0 S L hS
set_option maxHeartbeats 1000000 in
set_option maxRecDepth 100000 in
theorem zfB_X8_put_86_L54 {S0 : Tr} (x2 : Int32)    (N : Nat) : ∀ (x3 : Int32) (S : Tr), zf S0 S → Ep (lpF (fun _ _ => none) (fB_X8_put_86_L54 x2) N x3 S) (fun q => zf S0 q) := by
  induction N with
  | zero => intro x3 S _; exact Ep_none
  | succ N ih =>
    intro x3 S hS
    show Ep (fB_X8_put_86_L54 x2 (lpF (fun _ _ => none) (fB_X8_put_86_L54 x2) N) x3 S) _
    have hk54 := ih
    clear ih
    generalize lpF (fun _ _ => none) (fB_X8_put_86_L54 x2) N = k54 at hk54 ⊢
    unfold fB_X8_put_86_L54
    refine Ep_ite (fun _ => ?_) (fun _ => ?_)
    · exact Ep_some hS
    · refine Ep_ck ?_
      refine Ep_ck ?_
      refine Ep_lt (fun S_6 eS_6 => ?_)
      have hS_6 : zf S0 S_6 := by rw [eS_6]; exact zf_s hS (by omega)
      refine Ep_lt (fun y7 ey7 => ?_)
      exact hk54 y7 S_6 hS_6
set_option maxHeartbeats 1000000 in
set_option maxRecDepth 100000 in
theorem zfL_X8_put_86_L54 {S0 : Tr} (x2 : Int32)    (x3 : Int32) (S : Tr) (hS : zf S0 S) : Ep (fL_X8_put_86_L54 x2 x3 S) (fun q => zf S0 q) := by
  unfold fL_X8_put_86_L54
  exact zfB_X8_put_86_L54 x2 2000 x3 S hS
set_option maxHeartbeats 1000000 in
set_option maxRecDepth 100000 in
theorem zfB_X8_put_86_L27 {S0 : Tr} (x2 : Int32)    (N : Nat) : ∀ (x3 : Int32) (S : Tr), zf S0 S → Ep (lpF (fun _ _ => none) (fB_X8_put_86_L27 x2) N x3 S) (fun q => zf S0 q) := by
  induction N with
  | zero => intro x3 S _; exact Ep_none
  | succ N ih =>
    intro x3 S hS
    show Ep (fB_X8_put_86_L27 x2 (lpF (fun _ _ => none) (fB_X8_put_86_L27 x2) N) x3 S) _
    have hk27 := ih
    clear ih
    generalize lpF (fun _ _ => none) (fB_X8_put_86_L27 x2) N = k27 at hk27 ⊢
    unfold fB_X8_put_86_L27
    refine Ep_ite (fun _ => ?_) (fun _ => ?_)
    · exact zfL_X8_put_86_L54 x2 0 S hS
    · refine Ep_ck ?_
      refine Ep_ck ?_
      refine Ep_lt (fun S_10 eS_10 => ?_)
      have hS_10 : zf S0 S_10 := by rw [eS_10]; exact zf_s hS (by omega)
      refine Ep_lt (fun y11 ey11 => ?_)
      exact hk27 y11 S_10 hS_10
set_option maxHeartbeats 1000000 in
set_option maxRecDepth 100000 in
theorem zfL_X8_put_86_L27 {S0 : Tr} (x2 : Int32)    (x3 : Int32) (S : Tr) (hS : zf S0 S) : Ep (fL_X8_put_86_L27 x2 x3 S) (fun q => zf S0 q) := by
  unfold fL_X8_put_86_L27
  exact zfB_X8_put_86_L27 x2 2000 x3 S hS
set_option maxHeartbeats 1000000 in
set_option maxRecDepth 100000 in
theorem zfB_X8_put_86_L2 {S0 : Tr} (x2 : Int32)    (N : Nat) : ∀ (x3 : Int32) (S : Tr), zf S0 S → Ep (lpF (fun _ _ => none) (fB_X8_put_86_L2 x2) N x3 S) (fun q => zf S0 q) := by
  induction N with
  | zero => intro x3 S _; exact Ep_none
  | succ N ih =>
    intro x3 S hS
    show Ep (fB_X8_put_86_L2 x2 (lpF (fun _ _ => none) (fB_X8_put_86_L2 x2) N) x3 S) _
    have hk2 := ih
    clear ih
    generalize lpF (fun _ _ => none) (fB_X8_put_86_L2 x2) N = k2 at hk2 ⊢
    unfold fB_X8_put_86_L2
    refine Ep_ite (fun _ => ?_) (fun _ => ?_)
    · exact zfL_X8_put_86_L27 x2 0 S hS
    · refine Ep_ck ?_
      refine Ep_ck ?_
      refine Ep_lt (fun S_14 eS_14 => ?_)
      have hS_14 : zf S0 S_14 := by rw [eS_14]; exact zf_s hS (by omega)
      refine Ep_lt (fun y15 ey15 => ?_)
      exact hk2 y15 S_14 hS_14
set_option maxHeartbeats 1000000 in
set_option maxRecDepth 100000 in
theorem zfL_X8_put_86_L2 {S0 : Tr} (x2 : Int32)    (x3 : Int32) (S : Tr) (hS : zf S0 S) : Ep (fL_X8_put_86_L2 x2 x3 S) (fun q => zf S0 q) := by
  unfold fL_X8_put_86_L2
  exact zfB_X8_put_86_L2 x2 2000 x3 S hS
set_option maxHeartbeats 1000000 in
set_option maxRecDepth 100000 in
theorem zf_X8_put_86 {S0 : Tr} (S : Tr) (x2 : Int32) (hS : zf S0 S)   : Ep (f_X8_put_86 S x2) (fun q => zf S0 q) := by
  unfold f_X8_put_86
  exact zfL_X8_put_86_L2 x2 0 S hS
set_option maxHeartbeats 1000000 in
set_option maxRecDepth 100000 in
theorem zfB_X8_take_86_L103 {S0 : Tr}     (N : Nat) : ∀ (x3 : Int32) (S : Tr), zf S0 S → Ep (lpF (fun _ _ => none) (fB_X8_take_86_L103) N x3 S) (fun q => zf S0 q) := by
  induction N with
  | zero => intro x3 S _; exact Ep_none
  | succ N ih =>
    intro x3 S hS
    show Ep (fB_X8_take_86_L103 (lpF (fun _ _ => none) (fB_X8_take_86_L103) N) x3 S) _
    have hk103 := ih
    clear ih
    generalize lpF (fun _ _ => none) (fB_X8_take_86_L103) N = k103 at hk103 ⊢
    unfold fB_X8_take_86_L103
    refine Ep_ite (fun _ => ?_) (fun _ => ?_)
    · exact Ep_some hS
    · refine Ep_ck ?_
      refine Ep_ite (fun _ => ?_) (fun _ => ?_)
      · refine Ep_lt (fun y8 ey8 => ?_)
        exact hk103 y8 S hS
      · refine Ep_ck ?_
        refine Ep_ck ?_
        refine Ep_lt (fun S_11 eS_11 => ?_)
        have hS_11 : zf S0 S_11 := by rw [eS_11]; exact zf_s hS (by omega)
        refine Ep_lt (fun y12 ey12 => ?_)
        exact hk103 y12 S_11 hS_11
set_option maxHeartbeats 1000000 in
set_option maxRecDepth 100000 in
theorem zfL_X8_take_86_L103 {S0 : Tr}     (x3 : Int32) (S : Tr) (hS : zf S0 S) : Ep (fL_X8_take_86_L103 x3 S) (fun q => zf S0 q) := by
  unfold fL_X8_take_86_L103
  exact zfB_X8_take_86_L103 2000 x3 S hS
set_option maxHeartbeats 1000000 in
set_option maxRecDepth 100000 in
theorem zfB_X8_take_86_L82 {S0 : Tr}     (N : Nat) : ∀ (x3 : Int32) (S : Tr), zf S0 S → Ep (lpF (fun _ _ => none) (fB_X8_take_86_L82) N x3 S) (fun q => zf S0 q) := by
  induction N with
  | zero => intro x3 S _; exact Ep_none
  | succ N ih =>
    intro x3 S hS
    show Ep (fB_X8_take_86_L82 (lpF (fun _ _ => none) (fB_X8_take_86_L82) N) x3 S) _
    have hk82 := ih
    clear ih
    generalize lpF (fun _ _ => none) (fB_X8_take_86_L82) N = k82 at hk82 ⊢
    unfold fB_X8_take_86_L82
    refine Ep_ite (fun _ => ?_) (fun _ => ?_)
    · exact zfL_X8_take_86_L103 0 S hS
    · refine Ep_ck ?_
      refine Ep_lt (fun S_14 eS_14 => ?_)
      have hS_14 : zf S0 S_14 := by rw [eS_14]; exact zf_s hS (by omega)
      refine Ep_lt (fun y15 ey15 => ?_)
      exact hk82 y15 S_14 hS_14
set_option maxHeartbeats 1000000 in
set_option maxRecDepth 100000 in
theorem zfL_X8_take_86_L82 {S0 : Tr}     (x3 : Int32) (S : Tr) (hS : zf S0 S) : Ep (fL_X8_take_86_L82 x3 S) (fun q => zf S0 q) := by
  unfold fL_X8_take_86_L82
  exact zfB_X8_take_86_L82 2000 x3 S hS
set_option maxHeartbeats 1000000 in
set_option maxRecDepth 100000 in
theorem zfB_X8_take_86_L54 {S0 : Tr} (x2 : Int32)    (N : Nat) : ∀ (x3 : Int32) (S : Tr), zf S0 S → Ep (lpF (fun _ _ => none) (fB_X8_take_86_L54 x2) N x3 S) (fun q => zf S0 q) := by
  induction N with
  | zero => intro x3 S _; exact Ep_none
  | succ N ih =>
    intro x3 S hS
    show Ep (fB_X8_take_86_L54 x2 (lpF (fun _ _ => none) (fB_X8_take_86_L54 x2) N) x3 S) _
    have hk54 := ih
    clear ih
    generalize lpF (fun _ _ => none) (fB_X8_take_86_L54 x2) N = k54 at hk54 ⊢
    unfold fB_X8_take_86_L54
    refine Ep_ite (fun _ => ?_) (fun _ => ?_)
    · exact zfL_X8_take_86_L82 0 S hS
    · refine Ep_ck ?_
      refine Ep_ck ?_
      refine Ep_lt (fun S_18 eS_18 => ?_)
      have hS_18 : zf S0 S_18 := by rw [eS_18]; exact zf_s hS (by omega)
      refine Ep_lt (fun y19 ey19 => ?_)
      exact hk54 y19 S_18 hS_18
set_option maxHeartbeats 1000000 in
set_option maxRecDepth 100000 in
theorem zfL_X8_take_86_L54 {S0 : Tr} (x2 : Int32)    (x3 : Int32) (S : Tr) (hS : zf S0 S) : Ep (fL_X8_take_86_L54 x2 x3 S) (fun q => zf S0 q) := by
  unfold fL_X8_take_86_L54
  exact zfB_X8_take_86_L54 x2 2000 x3 S hS
set_option maxHeartbeats 1000000 in
set_option maxRecDepth 100000 in
theorem zfB_X8_take_86_L27 {S0 : Tr} (x2 : Int32)    (N : Nat) : ∀ (x3 : Int32) (S : Tr), zf S0 S → Ep (lpF (fun _ _ => none) (fB_X8_take_86_L27 x2) N x3 S) (fun q => zf S0 q) := by
  induction N with
  | zero => intro x3 S _; exact Ep_none
  | succ N ih =>
    intro x3 S hS
    show Ep (fB_X8_take_86_L27 x2 (lpF (fun _ _ => none) (fB_X8_take_86_L27 x2) N) x3 S) _
    have hk27 := ih
    clear ih
    generalize lpF (fun _ _ => none) (fB_X8_take_86_L27 x2) N = k27 at hk27 ⊢
    unfold fB_X8_take_86_L27
    refine Ep_ite (fun _ => ?_) (fun _ => ?_)
    · exact zfL_X8_take_86_L54 x2 0 S hS
    · refine Ep_ck ?_
      refine Ep_ck ?_
      refine Ep_lt (fun S_22 eS_22 => ?_)
      have hS_22 : zf S0 S_22 := by rw [eS_22]; exact zf_s hS (by omega)
      refine Ep_lt (fun y23 ey23 => ?_)
      exact hk27 y23 S_22 hS_22
set_option maxHeartbeats 1000000 in
set_option maxRecDepth 100000 in
theorem zfL_X8_take_86_L27 {S0 : Tr} (x2 : Int32)    (x3 : Int32) (S : Tr) (hS : zf S0 S) : Ep (fL_X8_take_86_L27 x2 x3 S) (fun q => zf S0 q) := by
  unfold fL_X8_take_86_L27
  exact zfB_X8_take_86_L27 x2 2000 x3 S hS
set_option maxHeartbeats 1000000 in
set_option maxRecDepth 100000 in
theorem zfB_X8_take_86_L2 {S0 : Tr} (x2 : Int32)    (N : Nat) : ∀ (x3 : Int32) (S : Tr), zf S0 S → Ep (lpF (fun _ _ => none) (fB_X8_take_86_L2 x2) N x3 S) (fun q => zf S0 q) := by
  induction N with
  | zero => intro x3 S _; exact Ep_none
  | succ N ih =>
    intro x3 S hS
    show Ep (fB_X8_take_86_L2 x2 (lpF (fun _ _ => none) (fB_X8_take_86_L2 x2) N) x3 S) _
    have hk2 := ih
    clear ih
    generalize lpF (fun _ _ => none) (fB_X8_take_86_L2 x2) N = k2 at hk2 ⊢
    unfold fB_X8_take_86_L2
    refine Ep_ite (fun _ => ?_) (fun _ => ?_)
    · exact zfL_X8_take_86_L27 x2 0 S hS
    · refine Ep_ck ?_
      refine Ep_ck ?_
      refine Ep_lt (fun S_26 eS_26 => ?_)
      have hS_26 : zf S0 S_26 := by rw [eS_26]; exact zf_s hS (by omega)
      refine Ep_lt (fun y27 ey27 => ?_)
      exact hk2 y27 S_26 hS_26
set_option maxHeartbeats 1000000 in
set_option maxRecDepth 100000 in
theorem zfL_X8_take_86_L2 {S0 : Tr} (x2 : Int32)    (x3 : Int32) (S : Tr) (hS : zf S0 S) : Ep (fL_X8_take_86_L2 x2 x3 S) (fun q => zf S0 q) := by
  unfold fL_X8_take_86_L2
  exact zfB_X8_take_86_L2 x2 2000 x3 S hS
set_option maxHeartbeats 1000000 in
set_option maxRecDepth 100000 in
theorem zf_X8_take_86 {S0 : Tr} (S : Tr) (x2 : Int32) (hS : zf S0 S)   : Ep (f_X8_take_86 S x2) (fun q => zf S0 q) := by
  unfold f_X8_take_86
  exact zfL_X8_take_86_L2 x2 0 S hS
def sg (S S1 : Tr) : Prop := ∀ a j, ((a = 62 ∧ j = 0) ∨ (a = 0 ∧ (j = 84 ∨ j = 89))) → S1 a j = S a j
theorem sg_r {S : Tr} : sg S S := fun _ _ _ => rfl
theorem sg_s {S0 S : Tr} {a i : Nat} {v : Int32} (h : sg S0 S) (hn : ¬ ((a = 62 ∧ i = 0) ∨ (a = 0 ∧ (i = 84 ∨ i = 89)))) : sg S0 (st S a i v) := fun b j hb => by
  rw [st_no (fun e => by obtain ⟨e1, e2⟩ := e; subst e1 e2; exact hn hb)]; exact h b j hb
set_option maxHeartbeats 1000000 in
set_option maxRecDepth 100000 in
theorem sg_X8_noted {S0 : Tr} (S : Tr) (x1 : Int32) (x2 : Int32) (x3 : Int32) (x4 : Int32) (hS : sg S0 S)   : Ep (f_X8_noted S x1 x2 x3 x4) (fun q => sg S0 q.2) := by
  unfold f_X8_noted
  refine Ep_ck ?_
  refine Ep_lt (fun S_2 eS_2 => ?_)
  have hS_2 : sg S0 S_2 := by rw [eS_2]; exact sg_s hS (by omega)
  refine Ep_ck ?_
  refine Ep_lt (fun S_4 eS_4 => ?_)
  have hS_4 : sg S0 S_4 := by rw [eS_4]; exact sg_s hS_2 (by omega)
  refine Ep_ck ?_
  refine Ep_lt (fun S_6 eS_6 => ?_)
  have hS_6 : sg S0 S_6 := by rw [eS_6]; exact sg_s hS_4 (by omega)
  refine Ep_ck ?_
  refine Ep_lt (fun S_8 eS_8 => ?_)
  have hS_8 : sg S0 S_8 := by rw [eS_8]; exact sg_s hS_6 (by omega)
  refine Ep_lt (fun S_9 eS_9 => ?_)
  have hS_9 : sg S0 S_9 := by rw [eS_9]; exact sg_s hS_8 (by omega)
  exact Ep_some hS_9
set_option maxHeartbeats 1000000 in
set_option maxRecDepth 100000 in
theorem sgJ_X8_see_J58 {S0 : Tr} (s0 : Int32) (s1 : Int32) (s2 : Int32) (s3 : Int32) (S : Tr) (hS : sg S0 S)   : Ep (fJ_X8_see_J58 s0 s1 s2 s3 S) (fun q => sg S0 q.2) := by
  unfold fJ_X8_see_J58
  refine Ep_bd (sg_X8_noted S s3 s2 s1 s0 hS) (fun q hq => ?_)
  refine Ep_lt (fun r16 er16 => ?_)
  refine Ep_lt (fun S_17 eS_17 => ?_)
  have hS_17 : sg S0 S_17 := by rw [eS_17]; exact hq
  exact Ep_some hS_17
set_option maxHeartbeats 1000000 in
set_option maxRecDepth 100000 in
theorem sg_X8_see {S0 : Tr} (S : Tr) (x1 : Int32) (x2 : Int32) (x3 : Int32) (x4 : Int32) (hS : sg S0 S)   : Ep (f_X8_see S x1 x2 x3 x4) (fun q => sg S0 q.2) := by
  unfold f_X8_see
  refine Ep_lt (fun S_1 eS_1 => ?_)
  have hS_1 : sg S0 S_1 := by rw [eS_1]; exact sg_s hS (by omega)
  refine Ep_ite (fun _ => ?_) (fun _ => ?_)
  · exact Ep_some hS_1
  · refine Ep_any (fun r3 => ?_)
    refine Ep_ite (fun _ => ?_) (fun _ => ?_)
    · exact Ep_some hS_1
    · refine Ep_any (fun r7 => ?_)
      refine Ep_ite (fun _ => ?_) (fun _ => ?_)
      · exact Ep_some hS_1
      · refine Ep_any (fun r11 => ?_)
        refine Ep_ite (fun _ => ?_) (fun _ => ?_)
        · exact Ep_some hS_1
        · refine Ep_ite (fun _ => ?_) (fun _ => ?_)
          · exact sgJ_X8_see_J58 0 x3 x2 x1 S_1 hS_1
          · exact sgJ_X8_see_J58 1 x3 x2 x1 S_1 hS_1
set_option maxHeartbeats 1000000 in
set_option maxRecDepth 100000 in
theorem sg_X8_strike {S0 : Tr} (S : Tr) (x1 : Int32) (hS : sg S0 S)   : Ep (f_X8_strike S x1) (fun q => sg S0 q.2) := by
  unfold f_X8_strike
  refine Ep_lt (fun S_1 eS_1 => ?_)
  have hS_1 : sg S0 S_1 := by rw [eS_1]; exact sg_s hS (by omega)
  refine Ep_ite (fun _ => ?_) (fun _ => ?_)
  · exact Ep_some hS_1
  · refine Ep_ite (fun _ => ?_) (fun _ => ?_)
    · exact Ep_some hS_1
    · refine Ep_ite (fun _ => ?_) (fun _ => ?_)
      · refine Ep_bd (sg_X8_noted S_1 (-1 : Int32) x1 (0 : Int32) (0 : Int32) hS_1) (fun q hq => ?_)
        refine Ep_lt (fun r5 er5 => ?_)
        refine Ep_lt (fun S_6 eS_6 => ?_)
        have hS_6 : sg S0 S_6 := by rw [eS_6]; exact hq
        exact Ep_some hS_6
      · exact Ep_some hS_1
set_option maxHeartbeats 1000000 in
set_option maxRecDepth 100000 in
theorem sg_X8_known {S0 : Tr} (S : Tr) (x1 : Int32) (hS : sg S0 S)   : Ep (f_X8_known S x1) (fun q => sg S0 q.2) := by
  unfold f_X8_known
  refine Ep_lt (fun S_1 eS_1 => ?_)
  have hS_1 : sg S0 S_1 := by rw [eS_1]; exact sg_s hS (by omega)
  refine Ep_any (fun r2 => ?_)
  refine Ep_ite (fun _ => ?_) (fun _ => ?_)
  · exact Ep_some hS_1
  · refine Ep_lt (fun S_6 eS_6 => ?_)
    have hS_6 : sg S0 S_6 := by rw [eS_6]; exact sg_s hS_1 (by omega)
    exact Ep_some hS_6
