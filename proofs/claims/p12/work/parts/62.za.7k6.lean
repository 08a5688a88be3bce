/-! what has been read is kept: the kept rows after keepText -/
def kfT (S S1 : Tr) : Prop := ∀ a j, (a = 0 ∧ 12 ≤ j ∧ j ≤ 15) ∨ (23 ≤ a ∧ a ≤ 41) → S1 a j = S a j
theorem kfT_r {S : Tr} : kfT S S := fun _ _ _ => rfl
theorem kfT_t {S S1 S2 : Tr} (h1 : kfT S S1) (h2 : kfT S1 S2) : kfT S S2 := fun a j q => (h2 a j q).trans (h1 a j q)
theorem kfT_s {S0 S : Tr} {a i : Nat} {v : Int32} (h : kfT S0 S) (hn : ¬ ((a = 0 ∧ 12 ≤ i ∧ i ≤ 15) ∨ (23 ≤ a ∧ a ≤ 41))) : kfT S0 (st S a i v) := fun b j hb => by
  rw [st_no (fun e => by omega)]; exact h b j hb

set_option maxHeartbeats 1000000 in
set_option maxRecDepth 100000 in
theorem kbJ_X8_atFirst_J134 {S0 : Tr} (x1 : Int32) (S : Tr) (hS : kfT S0 S)   : Ep (fJ_X8_atFirst_J134 x1 S) (fun q => kfT S0 q) := by
  unfold fJ_X8_atFirst_J134
  refine Ep_ck ?_
  refine Ep_lt (fun S_5 eS_5 => ?_)
  have hS_5 : kfT S0 S_5 := by rw [eS_5]; exact kfT_s hS (by omega)
  refine Ep_lt (fun S_6 eS_6 => ?_)
  have hS_6 : kfT S0 S_6 := by rw [eS_6]; exact kfT_s hS_5 (by omega)
  refine Ep_lt (fun S_7 eS_7 => ?_)
  have hS_7 : kfT S0 S_7 := by rw [eS_7]; exact kfT_s hS_6 (by omega)
  exact Ep_some hS_7
set_option maxHeartbeats 1000000 in
set_option maxRecDepth 100000 in
theorem kbB_X8_atFirst_L64 {S0 : Tr} (x1 : Int32)    (N : Nat) : ∀ (x2 : Int32) (S : Tr), kfT S0 S → Ep (lpF (fun _ _ => none) (fB_X8_atFirst_L64 x1) N x2 S) (fun q => kfT S0 q) := by
  induction N with
  | zero => intro x2 S _; exact Ep_none
  | succ N ih =>
    intro x2 S hS
    show Ep (fB_X8_atFirst_L64 x1 (lpF (fun _ _ => none) (fB_X8_atFirst_L64 x1) N) x2 S) _
    have hk64 := ih
    clear ih
    generalize lpF (fun _ _ => none) (fB_X8_atFirst_L64 x1) N = k64 at hk64 ⊢
    unfold fB_X8_atFirst_L64
    refine Ep_ite (fun _ => ?_) (fun _ => ?_)
    · exact kbJ_X8_atFirst_J134 x1 S hS
    · refine Ep_ck ?_
      refine Ep_ck ?_
      refine Ep_lt (fun S_10 eS_10 => ?_)
      have hS_10 : kfT S0 S_10 := by rw [eS_10]; exact kfT_s hS (by omega)
      refine Ep_lt (fun S_11 eS_11 => ?_)
      have hS_11 : kfT S0 S_11 := by rw [eS_11]; exact kfT_s hS_10 (by omega)
      refine Ep_lt (fun S_12 eS_12 => ?_)
      have hS_12 : kfT S0 S_12 := by rw [eS_12]; exact kfT_s hS_11 (by omega)
      refine Ep_lt (fun S_13 eS_13 => ?_)
      have hS_13 : kfT S0 S_13 := by rw [eS_13]; exact kfT_s hS_12 (by omega)
      refine Ep_lt (fun y14 ey14 => ?_)
      exact hk64 y14 S_13 hS_13
set_option maxHeartbeats 1000000 in
set_option maxRecDepth 100000 in
theorem kbL_X8_atFirst_L64 {S0 : Tr} (x1 : Int32)    (x2 : Int32) (S : Tr) (hS : kfT S0 S) : Ep (fL_X8_atFirst_L64 x1 x2 S) (fun q => kfT S0 q) := by
  unfold fL_X8_atFirst_L64
  exact kbB_X8_atFirst_L64 x1 2000 x2 S hS
set_option maxHeartbeats 1000000 in
set_option maxRecDepth 100000 in
theorem kbB_X8_atFirst_L40 {S0 : Tr} (x1 : Int32)    (N : Nat) : ∀ (x2 : Int32) (S : Tr), kfT S0 S → Ep (lpF (fun _ _ => none) (fB_X8_atFirst_L40 x1) N x2 S) (fun q => kfT S0 q) := by
  induction N with
  | zero => intro x2 S _; exact Ep_none
  | succ N ih =>
    intro x2 S hS
    show Ep (fB_X8_atFirst_L40 x1 (lpF (fun _ _ => none) (fB_X8_atFirst_L40 x1) N) x2 S) _
    have hk40 := ih
    clear ih
    generalize lpF (fun _ _ => none) (fB_X8_atFirst_L40 x1) N = k40 at hk40 ⊢
    unfold fB_X8_atFirst_L40
    refine Ep_ite (fun _ => ?_) (fun _ => ?_)
    · exact kbL_X8_atFirst_L64 x1 0 S hS
    · refine Ep_ck ?_
      refine Ep_lt (fun S_16 eS_16 => ?_)
      have hS_16 : kfT S0 S_16 := by rw [eS_16]; exact kfT_s hS (by omega)
      refine Ep_lt (fun y17 ey17 => ?_)
      exact hk40 y17 S_16 hS_16
set_option maxHeartbeats 1000000 in
set_option maxRecDepth 100000 in
theorem kbL_X8_atFirst_L40 {S0 : Tr} (x1 : Int32)    (x2 : Int32) (S : Tr) (hS : kfT S0 S) : Ep (fL_X8_atFirst_L40 x1 x2 S) (fun q => kfT S0 q) := by
  unfold fL_X8_atFirst_L40
  exact kbB_X8_atFirst_L40 x1 2000 x2 S hS
set_option maxHeartbeats 1000000 in
set_option maxRecDepth 100000 in
theorem kbB_X8_atFirst_L2 {S0 : Tr} (x1 : Int32)    (N : Nat) : ∀ (x2 : Int32) (S : Tr), kfT S0 S → Ep (lpF (fun _ _ => none) (fB_X8_atFirst_L2 x1) N x2 S) (fun q => kfT S0 q) := by
  induction N with
  | zero => intro x2 S _; exact Ep_none
  | succ N ih =>
    intro x2 S hS
    show Ep (fB_X8_atFirst_L2 x1 (lpF (fun _ _ => none) (fB_X8_atFirst_L2 x1) N) x2 S) _
    have hk2 := ih
    clear ih
    generalize lpF (fun _ _ => none) (fB_X8_atFirst_L2 x1) N = k2 at hk2 ⊢
    unfold fB_X8_atFirst_L2
    refine Ep_ite (fun _ => ?_) (fun _ => ?_)
    · exact kbL_X8_atFirst_L40 x1 0 S hS
    · refine Ep_ck ?_
      refine Ep_lt (fun S_19 eS_19 => ?_)
      have hS_19 : kfT S0 S_19 := by rw [eS_19]; exact kfT_s hS (by omega)
      refine Ep_lt (fun S_20 eS_20 => ?_)
      have hS_20 : kfT S0 S_20 := by rw [eS_20]; exact kfT_s hS_19 (by omega)
      refine Ep_lt (fun y21 ey21 => ?_)
      exact hk2 y21 S_20 hS_20
set_option maxHeartbeats 1000000 in
set_option maxRecDepth 100000 in
theorem kbL_X8_atFirst_L2 {S0 : Tr} (x1 : Int32)    (x2 : Int32) (S : Tr) (hS : kfT S0 S) : Ep (fL_X8_atFirst_L2 x1 x2 S) (fun q => kfT S0 q) := by
  unfold fL_X8_atFirst_L2
  exact kbB_X8_atFirst_L2 x1 2000 x2 S hS
set_option maxHeartbeats 1000000 in
set_option maxRecDepth 100000 in
theorem kb_X8_atFirst {S0 : Tr} (S : Tr) (x1 : Int32) (hS : kfT S0 S)   : Ep (f_X8_atFirst S x1) (fun q => kfT S0 q) := by
  unfold f_X8_atFirst
  exact kbL_X8_atFirst_L2 x1 0 S hS
set_option maxHeartbeats 1000000 in
set_option maxRecDepth 100000 in
theorem kbB_X8_plainTried_L42 {S0 : Tr}     (N : Nat) : ∀ (x1 : Int32) (S : Tr), kfT S0 S → Ep (lpF (fun _ _ => none) (fB_X8_plainTried_L42) N x1 S) (fun q => kfT S0 q) := by
  induction N with
  | zero => intro x1 S _; exact Ep_none
  | succ N ih =>
    intro x1 S hS
    show Ep (fB_X8_plainTried_L42 (lpF (fun _ _ => none) (fB_X8_plainTried_L42) N) x1 S) _
    have hk42 := ih
    clear ih
    generalize lpF (fun _ _ => none) (fB_X8_plainTried_L42) N = k42 at hk42 ⊢
    unfold fB_X8_plainTried_L42
    refine Ep_ite (fun _ => ?_) (fun _ => ?_)
    · exact Ep_some hS
    · refine Ep_ck ?_
      refine Ep_lt (fun S_10 eS_10 => ?_)
      have hS_10 : kfT S0 S_10 := by rw [eS_10]; exact kfT_s hS (by omega)
      refine Ep_lt (fun y11 ey11 => ?_)
      exact hk42 y11 S_10 hS_10
set_option maxHeartbeats 1000000 in
set_option maxRecDepth 100000 in
theorem kbL_X8_plainTried_L42 {S0 : Tr}     (x1 : Int32) (S : Tr) (hS : kfT S0 S) : Ep (fL_X8_plainTried_L42 x1 S) (fun q => kfT S0 q) := by
  unfold fL_X8_plainTried_L42
  exact kbB_X8_plainTried_L42 2000 x1 S hS
set_option maxHeartbeats 1000000 in
set_option maxRecDepth 100000 in
theorem kb_X8_plainTried {S0 : Tr} (S : Tr) (hS : kfT S0 S)   : Ep (f_X8_plainTried S) (fun q => kfT S0 q) := by
  unfold f_X8_plainTried
  refine Ep_lt (fun S_1 eS_1 => ?_)
  have hS_1 : kfT S0 S_1 := by rw [eS_1]; exact kfT_s hS (by omega)
  refine Ep_lt (fun S_2 eS_2 => ?_)
  have hS_2 : kfT S0 S_2 := by rw [eS_2]; exact kfT_s hS_1 (by omega)
  refine Ep_lt (fun S_3 eS_3 => ?_)
  have hS_3 : kfT S0 S_3 := by rw [eS_3]; exact kfT_s hS_2 (by omega)
  refine Ep_lt (fun S_4 eS_4 => ?_)
  have hS_4 : kfT S0 S_4 := by rw [eS_4]; exact kfT_s hS_3 (by omega)
  refine Ep_lt (fun S_5 eS_5 => ?_)
  have hS_5 : kfT S0 S_5 := by rw [eS_5]; exact kfT_s hS_4 (by omega)
  refine Ep_lt (fun S_6 eS_6 => ?_)
  have hS_6 : kfT S0 S_6 := by rw [eS_6]; exact kfT_s hS_5 (by omega)
  refine Ep_lt (fun S_7 eS_7 => ?_)
  have hS_7 : kfT S0 S_7 := by rw [eS_7]; exact kfT_s hS_6 (by omega)
  exact kbL_X8_plainTried_L42 0 S_7 hS_7
set_option maxHeartbeats 1000000 in
set_option maxRecDepth 100000 in
theorem kb_X8_begin {S0 : Tr} (S : Tr) (L : Lo) (hS : kfT S0 S)   : Ep (f_X8_begin S L) (fun q => kfT S0 q.1) := by
  unfold f_X8_begin
  refine Ep_bd (kb_X8_atFirst S (0 : Int32) hS) (fun S_1 hS_1 => ?_)
  refine Ep_lt (fun L_4 eL_4 => ?_)
  refine Ep_bd (kb_X8_plainTried S_1 hS_1) (fun S_5 hS_5 => ?_)
  refine Ep_lt (fun S_8 eS_8 => ?_)
  have hS_8 : kfT S0 S_8 := by rw [eS_8]; exact kfT_s hS_5 (by omega)
  refine Ep_lt (fun S_9 eS_9 => ?_)
  have hS_9 : kfT S0 S_9 := by rw [eS_9]; exact kfT_s hS_8 (by omega)
  refine Ep_lt (fun S_10 eS_10 => ?_)
  have hS_10 : kfT S0 S_10 := by rw [eS_10]; exact kfT_s hS_9 (by omega)
  refine Ep_lt (fun S_11 eS_11 => ?_)
  have hS_11 : kfT S0 S_11 := by rw [eS_11]; exact kfT_s hS_10 (by omega)
  exact Ep_some hS_11
set_option maxHeartbeats 1000000 in
set_option maxRecDepth 100000 in
theorem kbJ_X8_feed_J113 {S0 : Tr} (S : Tr) (hS : kfT S0 S)   : Ep (fJ_X8_feed_J113 S) (fun q => kfT S0 q.2) := by
  unfold fJ_X8_feed_J113
  refine Ep_lt (fun S_4 eS_4 => ?_)
  have hS_4 : kfT S0 S_4 := by rw [eS_4]; exact kfT_s hS (by omega)
  exact Ep_some hS_4
set_option maxHeartbeats 1000000 in
set_option maxRecDepth 100000 in
theorem kbJ_X8_feed_J76 {S0 : Tr} (k23 : Int32 → Tr → Option (Int32 × Tr)) (x1 : Int32) (x2 : Int32) (x3 : Int32) (x4 : Int32) (x5 : Int32) (x6 : Int32) (s0 : Int32) (S : Tr) (hS : kfT S0 S) (hk23 : ∀ (x6 : Int32) (S : Tr), kfT S0 S → Ep (k23 x6 S) (fun q => kfT S0 q.2))  : Ep (fJ_X8_feed_J76 k23 x1 x2 x3 x4 x5 x6 s0 S) (fun q => kfT S0 q.2) := by
  unfold fJ_X8_feed_J76
  refine Ep_ck ?_
  refine Ep_lt (fun S_10 eS_10 => ?_)
  have hS_10 : kfT S0 S_10 := by rw [eS_10]; exact kfT_s hS (by omega)
  refine Ep_lt (fun y11 ey11 => ?_)
  exact hk23 y11 S_10 hS_10
set_option maxHeartbeats 1000000 in
set_option maxRecDepth 100000 in
theorem kbB_X8_feed_L23 {S0 : Tr} (x1 : Int32) (x2 : Int32) (x3 : Int32) (x4 : Int32) (x5 : Int32)    (N : Nat) : ∀ (x6 : Int32) (S : Tr), kfT S0 S → Ep (lpF (fun _ _ => none) (fB_X8_feed_L23 x1 x2 x3 x4 x5) N x6 S) (fun q => kfT S0 q.2) := by
  induction N with
  | zero => intro x6 S _; exact Ep_none
  | succ N ih =>
    intro x6 S hS
    show Ep (fB_X8_feed_L23 x1 x2 x3 x4 x5 (lpF (fun _ _ => none) (fB_X8_feed_L23 x1 x2 x3 x4 x5) N) x6 S) _
    have hk23 := ih
    clear ih
    generalize lpF (fun _ _ => none) (fB_X8_feed_L23 x1 x2 x3 x4 x5) N = k23 at hk23 ⊢
    unfold fB_X8_feed_L23
    refine Ep_ite (fun _ => ?_) (fun _ => ?_)
    · exact kbJ_X8_feed_J113 S hS
    · refine Ep_ite (fun _ => ?_) (fun _ => ?_)
      · refine Ep_ite (fun _ => ?_) (fun _ => ?_)
        · refine Ep_ite (fun _ => ?_) (fun _ => ?_)
          · refine Ep_ite (fun _ => ?_) (fun _ => ?_)
            · exact kbJ_X8_feed_J76 k23 x1 x2 x3 x4 x5 x6 x5 S hS hk23
            · exact kbJ_X8_feed_J76 k23 x1 x2 x3 x4 x5 x6 x4 S hS hk23
          · exact kbJ_X8_feed_J76 k23 x1 x2 x3 x4 x5 x6 x3 S hS hk23
        · exact kbJ_X8_feed_J76 k23 x1 x2 x3 x4 x5 x6 x2 S hS hk23
      · exact kbJ_X8_feed_J76 k23 x1 x2 x3 x4 x5 x6 x1 S hS hk23
set_option maxHeartbeats 1000000 in
set_option maxRecDepth 100000 in
theorem kbL_X8_feed_L23 {S0 : Tr} (x1 : Int32) (x2 : Int32) (x3 : Int32) (x4 : Int32) (x5 : Int32)    (x6 : Int32) (S : Tr) (hS : kfT S0 S) : Ep (fL_X8_feed_L23 x1 x2 x3 x4 x5 x6 S) (fun q => kfT S0 q.2) := by
  unfold fL_X8_feed_L23
  exact kbB_X8_feed_L23 x1 x2 x3 x4 x5 2000 x6 S hS
set_option maxHeartbeats 1000000 in
set_option maxRecDepth 100000 in
theorem kb_X8_feed {S0 : Tr} (S : Tr) (x1 : Int32) (x2 : Int32) (x3 : Int32) (x4 : Int32) (x5 : Int32) (hS : kfT S0 S)   : Ep (f_X8_feed S x1 x2 x3 x4 x5) (fun q => kfT S0 q.2) := by
  unfold f_X8_feed
  refine Ep_lt (fun S_1 eS_1 => ?_)
  have hS_1 : kfT S0 S_1 := by rw [eS_1]; exact kfT_s hS (by omega)
  refine Ep_ite (fun _ => ?_) (fun _ => ?_)
  · exact kbL_X8_feed_L23 x1 x2 x3 x4 x5 0 S_1 hS_1
  · exact Ep_some hS_1

theorem ke_139 (L : Lo) (S : Tr) {Q : Tr × Lo → Prop} (hE : ∀ T, bcp S T → Ep (fJ_X8_keepText_J164 T L) Q) (N : Nat) : ∀ (x1 : Int32) (T : Tr), 0 ≤ x1.toInt → x1.toInt ≤ 3 → (∀ w : Nat, (w : Int) < x1.toInt → T 36 w = vp_nar .boolean (S 36 (3 + w))) → (∀ (c j : Nat), ¬ (c = 36 ∧ (j : Int) < x1.toInt) → T c j = S c j) → Ep (lpF (fun _ _ => none) (fB_X8_keepText_L139 L) N x1 T) Q := by
  induction N with
  | zero => intro x1 T h1 h2 h4 h5; exact Ep_none
  | succ N ih =>
    intro x1 T h1 h2 h4 h5
    show Ep (fB_X8_keepText_L139 L (lpF (fun _ _ => none) (fB_X8_keepText_L139 L) N) x1 T) _
    generalize lpF (fun _ _ => none) (fB_X8_keepText_L139 L) N = k at ih ⊢
    unfold fB_X8_keepText_L139
    refine Ep_ite (fun c => ?_) (fun c => ?_)
    · have k1 := tq_le (x := (3 : Int32)) (y := x1) (a := 3) (by decide) rfl c
      exact hE T ⟨fun w hw => h4 w (by omega), fun c j q => h5 c j (fun g => q ⟨g.1, by omega⟩)⟩
    · have k1 := tq_len (x := (3 : Int32)) (y := x1) (a := 3) (by decide) rfl c
      have e1 : ((3 : Int32) + x1).toInt = 3 + x1.toInt := i_addK (by decide) rfl (by omega) (by omega)
      have c1 : ((3 : Int32) + x1).toNatClampNeg = 3 + x1.toInt.toNat := by simp only [i_cl]; omega
      have c2 : x1.toNatClampNeg = x1.toInt.toNat := rfl
      refine Ep_ck (Ep_ck (Ep_lt (fun T1 e => Ep_lt (fun y ey => ?_))))
      rw [c1, c2] at e
      have e2 : y.toInt = x1.toInt + 1 := by rw [ey]; exact i_addK rfl (by decide) (by omega) (by omega)
      refine ih y T1 (by omega) (by omega) (fun j hj => ?_) (fun c j q => ?_)
      · rw [e]
        by_cases hz : j = x1.toInt.toNat
        · subst hz; rw [st_same, h5 36 (3 + x1.toInt.toNat) (fun g => by omega)]
        · rw [st_ne hz]; exact h4 j (by omega)
      · rw [e]
        rcases st_or (S := T) (a := 36) (i := x1.toInt.toNat) (b := c) (j := j) (v := vp_nar .boolean (T 36 (3 + x1.toInt.toNat))) with g | ⟨g1, g2⟩
        · rw [g]; exact h5 c j (fun g => q ⟨g.1, by omega⟩)
        · exact absurd ⟨g1, by omega⟩ q
def KT (T S1 : Tr) : Prop := (∀ j, 12 ≤ j → j ≤ 15 → S1 0 j = T 0 (j + 4)) ∧ (∀ j, j < 3 → S1 23 j = T 23 (3 + j)) ∧ (∀ j, j < 5 → S1 24 j = T 24 (5 + j)) ∧ (∀ j, j < 5 → S1 25 j = T 25 (5 + j)) ∧ (∀ j, j < 6 → S1 26 j = T 26 (6 + j)) ∧ (∀ j, j < 6 → S1 27 j = T 27 (6 + j)) ∧ (∀ j, j < 6 → S1 28 j = T 28 (6 + j)) ∧ (∀ j, j < 6 → S1 29 j = T 29 (6 + j)) ∧ (∀ j, j < 10 → S1 30 j = T 30 (10 + j)) ∧ (∀ j, j < 10 → S1 31 j = T 31 (10 + j)) ∧ (∀ j, j < 10 → S1 32 j = T 32 (10 + j)) ∧ (∀ j, j < 10 → S1 33 j = T 33 (10 + j)) ∧ (∀ j, j < 21 → S1 34 j = T 34 (21 + j)) ∧ (∀ w, w < 3 → S1 36 w = vp_nar .boolean (T 36 (3 + w))) ∧ (∀ j, j < 3 → S1 37 j = T 37 (3 + j)) ∧ (∀ j, j < 3 → S1 38 j = T 38 (3 + j)) ∧ (∀ j, j < 64 → S1 39 j = T 39 (64 + j)) ∧ (∀ j, j < 64 → S1 40 j = T 40 (64 + j)) ∧ (∀ j, j < 64 → S1 41 j = T 41 (64 + j))
theorem k_keepText (T : Tr) (L : Lo) : Ep (f_X8_keepText T L) (fun q => KT T q.1) := by
  unfold f_X8_keepText
  refine Ep_lt (fun S1 e1 => Ep_lt (fun S2 e2 => Ep_lt (fun S3 e3 => Ep_lt (fun S4 e4 => ?_))))
  have o4 : ∀ a, ¬ a = 0 → S4 a = T a := fun a ha => by rw [e4, st_oth ha, e3, st_oth ha, e2, st_oth ha, e1, st_oth ha]
  have z12 : S4 0 12 = T 0 16 := by rw [e4, st_ne (by decide), e3, st_ne (by decide), e2, st_ne (by decide), e1, st_same]
  have z13 : S4 0 13 = T 0 17 := by rw [e4, st_ne (by decide), e3, st_ne (by decide), e2, st_same, e1, st_ne (by decide)]
  have z14 : S4 0 14 = T 0 18 := by rw [e4, st_ne (by decide), e3, st_same, e2, st_ne (by decide), e1, st_ne (by decide)]
  have z15 : S4 0 15 = T 0 19 := by rw [e4, st_same, e3, st_ne (by decide), e2, st_ne (by decide), e1, st_ne (by decide)]
  refine Ep_bd (D_to (r_cp_23 S4)) (fun T23 h23 => ?_)
  refine Ep_bd (D_to (r_cp_24 T23)) (fun T24 h24 => ?_)
  refine Ep_bd (D_to (r_cp_25 T24)) (fun T25 h25 => ?_)
  refine Ep_bd (D_to (r_cp_26 T25)) (fun T26 h26 => ?_)
  refine Ep_bd (D_to (r_cp_27 T26)) (fun T27 h27 => ?_)
  refine Ep_bd (D_to (r_cp_28 T27)) (fun T28 h28 => ?_)
  refine Ep_bd (D_to (r_cp_29 T28)) (fun T29 h29 => ?_)
  refine Ep_bd (D_to (r_cp_30 T29)) (fun T30 h30 => ?_)
  refine Ep_bd (D_to (r_cp_31 T30)) (fun T31 h31 => ?_)
  refine Ep_bd (D_to (r_cp_32 T31)) (fun T32 h32 => ?_)
  refine Ep_bd (D_to (r_cp_33 T32)) (fun T33 h33 => ?_)
  refine Ep_bd (D_to (r_cp_34 T33)) (fun T34 h34 => ?_)
  refine ke_139 L T34 (fun T36 h36 => ?_) 2000 0 T34 (by decide) (by decide) (fun j hj => absurd hj (by rw [show (0 : Int32).toInt = 0 by decide]; omega)) (fun _ _ _ => rfl)
  unfold fJ_X8_keepText_J164
  refine Ep_bd (D_to (r_cp_37 T36)) (fun T37 h37 => ?_)
  refine Ep_bd (D_to (r_cp_38 T37)) (fun T38 h38 => ?_)
  refine Ep_bd (D_to (r_cp_39 T38)) (fun T39 h39 => ?_)
  refine Ep_bd (D_to (r_cp_40 T39)) (fun T40 h40 => ?_)
  refine Ep_bd (D_to (r_cp_41 T40)) (fun T41 h41 => ?_)
  refine Ep_bd (kb_X8_begin T41 L kfT_r) (fun q hq => Ep_lt (fun S57 e57 => Ep_lt (fun L58 _ => Ep_some ?_)))
  have hq : kfT T41 S57 := by rw [e57]; exact hq
  have z0 : T41 0 = S4 0 := by rw [cpf h41 (by decide), cpf h40 (by decide), cpf h39 (by decide), cpf h38 (by decide), cpf h37 (by decide), bcf h36 (by decide), cpf h34 (by decide), cpf h33 (by decide), cpf h32 (by decide), cpf h31 (by decide), cpf h30 (by decide), cpf h29 (by decide), cpf h28 (by decide), cpf h27 (by decide), cpf h26 (by decide), cpf h25 (by decide), cpf h24 (by decide), cpf h23 (by decide)]
  refine ⟨fun j h1 h2 => ?_, ?_, ?_, ?_, ?_, ?_, ?_, ?_, ?_, ?_, ?_, ?_, ?_, ?_, ?_, ?_, ?_, ?_, ?_⟩
  · show S57 0 j = T 0 (j + 4)
    rw [hq 0 j (by omega), z0]
    rcases (by omega : j = 12 ∨ j = 13 ∨ j = 14 ∨ j = 15) with rfl | rfl | rfl | rfl
    · exact z12
    · exact z13
    · exact z14
    · exact z15
  · intro j hj
    have v : T41 23 = T23 23 := by rw [cpf h41 (by decide), cpf h40 (by decide), cpf h39 (by decide), cpf h38 (by decide), cpf h37 (by decide), bcf h36 (by decide), cpf h34 (by decide), cpf h33 (by decide), cpf h32 (by decide), cpf h31 (by decide), cpf h30 (by decide), cpf h29 (by decide), cpf h28 (by decide), cpf h27 (by decide), cpf h26 (by decide), cpf h25 (by decide), cpf h24 (by decide)]
    have u : S4 23 = T 23 := by rw [o4 23 (by decide)]
    show S57 23 j = _
    rw [hq 23 j (by omega), v, h23.1 j hj, u]
  · intro j hj
    have v : T41 24 = T24 24 := by rw [cpf h41 (by decide), cpf h40 (by decide), cpf h39 (by decide), cpf h38 (by decide), cpf h37 (by decide), bcf h36 (by decide), cpf h34 (by decide), cpf h33 (by decide), cpf h32 (by decide), cpf h31 (by decide), cpf h30 (by decide), cpf h29 (by decide), cpf h28 (by decide), cpf h27 (by decide), cpf h26 (by decide), cpf h25 (by decide)]
    have u : T23 24 = T 24 := by rw [cpf h23 (by decide), o4 24 (by decide)]
    show S57 24 j = _
    rw [hq 24 j (by omega), v, h24.1 j hj, u]
  · intro j hj
    have v : T41 25 = T25 25 := by rw [cpf h41 (by decide), cpf h40 (by decide), cpf h39 (by decide), cpf h38 (by decide), cpf h37 (by decide), bcf h36 (by decide), cpf h34 (by decide), cpf h33 (by decide), cpf h32 (by decide), cpf h31 (by decide), cpf h30 (by decide), cpf h29 (by decide), cpf h28 (by decide), cpf h27 (by decide), cpf h26 (by decide)]
    have u : T24 25 = T 25 := by rw [cpf h24 (by decide), cpf h23 (by decide), o4 25 (by decide)]
    show S57 25 j = _
    rw [hq 25 j (by omega), v, h25.1 j hj, u]
  · intro j hj
    have v : T41 26 = T26 26 := by rw [cpf h41 (by decide), cpf h40 (by decide), cpf h39 (by decide), cpf h38 (by decide), cpf h37 (by decide), bcf h36 (by decide), cpf h34 (by decide), cpf h33 (by decide), cpf h32 (by decide), cpf h31 (by decide), cpf h30 (by decide), cpf h29 (by decide), cpf h28 (by decide), cpf h27 (by decide)]
    have u : T25 26 = T 26 := by rw [cpf h25 (by decide), cpf h24 (by decide), cpf h23 (by decide), o4 26 (by decide)]
    show S57 26 j = _
    rw [hq 26 j (by omega), v, h26.1 j hj, u]
  · intro j hj
    have v : T41 27 = T27 27 := by rw [cpf h41 (by decide), cpf h40 (by decide), cpf h39 (by decide), cpf h38 (by decide), cpf h37 (by decide), bcf h36 (by decide), cpf h34 (by decide), cpf h33 (by decide), cpf h32 (by decide), cpf h31 (by decide), cpf h30 (by decide), cpf h29 (by decide), cpf h28 (by decide)]
    have u : T26 27 = T 27 := by rw [cpf h26 (by decide), cpf h25 (by decide), cpf h24 (by decide), cpf h23 (by decide), o4 27 (by decide)]
    show S57 27 j = _
    rw [hq 27 j (by omega), v, h27.1 j hj, u]
  · intro j hj
    have v : T41 28 = T28 28 := by rw [cpf h41 (by decide), cpf h40 (by decide), cpf h39 (by decide), cpf h38 (by decide), cpf h37 (by decide), bcf h36 (by decide), cpf h34 (by decide), cpf h33 (by decide), cpf h32 (by decide), cpf h31 (by decide), cpf h30 (by decide), cpf h29 (by decide)]
    have u : T27 28 = T 28 := by rw [cpf h27 (by decide), cpf h26 (by decide), cpf h25 (by decide), cpf h24 (by decide), cpf h23 (by decide), o4 28 (by decide)]
    show S57 28 j = _
    rw [hq 28 j (by omega), v, h28.1 j hj, u]
  · intro j hj
    have v : T41 29 = T29 29 := by rw [cpf h41 (by decide), cpf h40 (by decide), cpf h39 (by decide), cpf h38 (by decide), cpf h37 (by decide), bcf h36 (by decide), cpf h34 (by decide), cpf h33 (by decide), cpf h32 (by decide), cpf h31 (by decide), cpf h30 (by decide)]
    have u : T28 29 = T 29 := by rw [cpf h28 (by decide), cpf h27 (by decide), cpf h26 (by decide), cpf h25 (by decide), cpf h24 (by decide), cpf h23 (by decide), o4 29 (by decide)]
    show S57 29 j = _
    rw [hq 29 j (by omega), v, h29.1 j hj, u]
  · intro j hj
    have v : T41 30 = T30 30 := by rw [cpf h41 (by decide), cpf h40 (by decide), cpf h39 (by decide), cpf h38 (by decide), cpf h37 (by decide), bcf h36 (by decide), cpf h34 (by decide), cpf h33 (by decide), cpf h32 (by decide), cpf h31 (by decide)]
    have u : T29 30 = T 30 := by rw [cpf h29 (by decide), cpf h28 (by decide), cpf h27 (by decide), cpf h26 (by decide), cpf h25 (by decide), cpf h24 (by decide), cpf h23 (by decide), o4 30 (by decide)]
    show S57 30 j = _
    rw [hq 30 j (by omega), v, h30.1 j hj, u]
  · intro j hj
    have v : T41 31 = T31 31 := by rw [cpf h41 (by decide), cpf h40 (by decide), cpf h39 (by decide), cpf h38 (by decide), cpf h37 (by decide), bcf h36 (by decide), cpf h34 (by decide), cpf h33 (by decide), cpf h32 (by decide)]
    have u : T30 31 = T 31 := by rw [cpf h30 (by decide), cpf h29 (by decide), cpf h28 (by decide), cpf h27 (by decide), cpf h26 (by decide), cpf h25 (by decide), cpf h24 (by decide), cpf h23 (by decide), o4 31 (by decide)]
    show S57 31 j = _
    rw [hq 31 j (by omega), v, h31.1 j hj, u]
  · intro j hj
    have v : T41 32 = T32 32 := by rw [cpf h41 (by decide), cpf h40 (by decide), cpf h39 (by decide), cpf h38 (by decide), cpf h37 (by decide), bcf h36 (by decide), cpf h34 (by decide), cpf h33 (by decide)]
    have u : T31 32 = T 32 := by rw [cpf h31 (by decide), cpf h30 (by decide), cpf h29 (by decide), cpf h28 (by decide), cpf h27 (by decide), cpf h26 (by decide), cpf h25 (by decide), cpf h24 (by decide), cpf h23 (by decide), o4 32 (by decide)]
    show S57 32 j = _
    rw [hq 32 j (by omega), v, h32.1 j hj, u]
  · intro j hj
    have v : T41 33 = T33 33 := by rw [cpf h41 (by decide), cpf h40 (by decide), cpf h39 (by decide), cpf h38 (by decide), cpf h37 (by decide), bcf h36 (by decide), cpf h34 (by decide)]
    have u : T32 33 = T 33 := by rw [cpf h32 (by decide), cpf h31 (by decide), cpf h30 (by decide), cpf h29 (by decide), cpf h28 (by decide), cpf h27 (by decide), cpf h26 (by decide), cpf h25 (by decide), cpf h24 (by decide), cpf h23 (by decide), o4 33 (by decide)]
    show S57 33 j = _
    rw [hq 33 j (by omega), v, h33.1 j hj, u]
  · intro j hj
    have v : T41 34 = T34 34 := by rw [cpf h41 (by decide), cpf h40 (by decide), cpf h39 (by decide), cpf h38 (by decide), cpf h37 (by decide), bcf h36 (by decide)]
    have u : T33 34 = T 34 := by rw [cpf h33 (by decide), cpf h32 (by decide), cpf h31 (by decide), cpf h30 (by decide), cpf h29 (by decide), cpf h28 (by decide), cpf h27 (by decide), cpf h26 (by decide), cpf h25 (by decide), cpf h24 (by decide), cpf h23 (by decide), o4 34 (by decide)]
    show S57 34 j = _
    rw [hq 34 j (by omega), v, h34.1 j hj, u]
  · intro j hj
    have v : T41 36 = T36 36 := by rw [cpf h41 (by decide), cpf h40 (by decide), cpf h39 (by decide), cpf h38 (by decide), cpf h37 (by decide)]
    have u : T34 36 = T 36 := by rw [cpf h34 (by decide), cpf h33 (by decide), cpf h32 (by decide), cpf h31 (by decide), cpf h30 (by decide), cpf h29 (by decide), cpf h28 (by decide), cpf h27 (by decide), cpf h26 (by decide), cpf h25 (by decide), cpf h24 (by decide), cpf h23 (by decide), o4 36 (by decide)]
    show S57 36 j = _
    rw [hq 36 j (by omega), v, h36.1 j hj, u]
  · intro j hj
    have v : T41 37 = T37 37 := by rw [cpf h41 (by decide), cpf h40 (by decide), cpf h39 (by decide), cpf h38 (by decide)]
    have u : T36 37 = T 37 := by rw [bcf h36 (by decide), cpf h34 (by decide), cpf h33 (by decide), cpf h32 (by decide), cpf h31 (by decide), cpf h30 (by decide), cpf h29 (by decide), cpf h28 (by decide), cpf h27 (by decide), cpf h26 (by decide), cpf h25 (by decide), cpf h24 (by decide), cpf h23 (by decide), o4 37 (by decide)]
    show S57 37 j = _
    rw [hq 37 j (by omega), v, h37.1 j hj, u]
  · intro j hj
    have v : T41 38 = T38 38 := by rw [cpf h41 (by decide), cpf h40 (by decide), cpf h39 (by decide)]
    have u : T37 38 = T 38 := by rw [cpf h37 (by decide), bcf h36 (by decide), cpf h34 (by decide), cpf h33 (by decide), cpf h32 (by decide), cpf h31 (by decide), cpf h30 (by decide), cpf h29 (by decide), cpf h28 (by decide), cpf h27 (by decide), cpf h26 (by decide), cpf h25 (by decide), cpf h24 (by decide), cpf h23 (by decide), o4 38 (by decide)]
    show S57 38 j = _
    rw [hq 38 j (by omega), v, h38.1 j hj, u]
  · intro j hj
    have v : T41 39 = T39 39 := by rw [cpf h41 (by decide), cpf h40 (by decide)]
    have u : T38 39 = T 39 := by rw [cpf h38 (by decide), cpf h37 (by decide), bcf h36 (by decide), cpf h34 (by decide), cpf h33 (by decide), cpf h32 (by decide), cpf h31 (by decide), cpf h30 (by decide), cpf h29 (by decide), cpf h28 (by decide), cpf h27 (by decide), cpf h26 (by decide), cpf h25 (by decide), cpf h24 (by decide), cpf h23 (by decide), o4 39 (by decide)]
    show S57 39 j = _
    rw [hq 39 j (by omega), v, h39.1 j hj, u]
  · intro j hj
    have v : T41 40 = T40 40 := by rw [cpf h41 (by decide)]
    have u : T39 40 = T 40 := by rw [cpf h39 (by decide), cpf h38 (by decide), cpf h37 (by decide), bcf h36 (by decide), cpf h34 (by decide), cpf h33 (by decide), cpf h32 (by decide), cpf h31 (by decide), cpf h30 (by decide), cpf h29 (by decide), cpf h28 (by decide), cpf h27 (by decide), cpf h26 (by decide), cpf h25 (by decide), cpf h24 (by decide), cpf h23 (by decide), o4 40 (by decide)]
    show S57 40 j = _
    rw [hq 40 j (by omega), v, h40.1 j hj, u]
  · intro j hj
    have v : T41 41 = T41 41 := rfl
    have u : T40 41 = T 41 := by rw [cpf h40 (by decide), cpf h39 (by decide), cpf h38 (by decide), cpf h37 (by decide), bcf h36 (by decide), cpf h34 (by decide), cpf h33 (by decide), cpf h32 (by decide), cpf h31 (by decide), cpf h30 (by decide), cpf h29 (by decide), cpf h28 (by decide), cpf h27 (by decide), cpf h26 (by decide), cpf h25 (by decide), cpf h24 (by decide), cpf h23 (by decide), o4 41 (by decide)]
    show S57 41 j = _
    rw [hq 41 j (by omega), v, h41.1 j hj, u]
