/-! while nothing is drawn the number stays -/
theorem s65_s {S : Tr} {a i : Nat} {v : Int32} (h : S 0 65 = 0) (hn : ¬ (a = 0 ∧ i = 65)) : st S a i v 0 65 = 0 := by
  rw [st_no (fun e => hn ⟨e.1.symm, e.2.symm⟩)]; exact h
theorem s65_w {S : Tr} {v : Int32} (h : v = 0 := by rfl) : st S 0 65 v 0 65 = 0 := by
  rw [st_same]; exact h
theorem l63_s {L : Lo} {a i : Nat} {v v63 : Int64} (h : L 0 63 = v63) (hn : ¬ (a = 0 ∧ i = 63)) : stL L a i v 0 63 = v63 := by
  by_cases ha : 0 = a
  · subst ha
    rw [stL_ne (fun e => hn ⟨rfl, e.symm⟩)]; exact h
  · rw [stL_oth ha]; exact h
theorem u_isDrawn {v63 : Int64} (S : Tr) (L : Lo) (x1 : Int32) (hS : S 0 65 = 0) (hL : L 0 63 = v63) : Ep (f_X8_isDrawn S L x1) (fun q => q.2 0 63 = v63) := by
  unfold f_X8_isDrawn
  rw [if_pos hS]
  exact Ep_ite (fun _ => Ep_some hL) (fun _ => Ep_some hL)
set_option maxHeartbeats 1000000 in
set_option maxRecDepth 100000 in
theorem uJ_X8_least_J279 {v63 : Int64} (x1 : Int32) (x2 : Int32) (x3 : Int32) (S : Tr) (L : Lo) (hS : S 0 65 = 0) (hL : L 0 63 = v63)  : Ep (fJ_X8_least_J279 x1 x2 x3 S L) (fun q => (q.2.1 0 65 = 0) ∧ (q.2.2 0 63 = v63)) := by
  unfold fJ_X8_least_J279
  refine Ep_ite (fun _ => ?_) (fun _ => ?_)
  · refine Ep_ite (fun _ => ?_) (fun _ => ?_)
    · exact Ep_some ⟨hS, hL⟩
    · refine Ep_ite (fun _ => ?_) (fun _ => ?_)
      · refine Ep_ck ?_
        exact Ep_some ⟨hS, hL⟩
      · exact Ep_some ⟨hS, hL⟩
  · exact Ep_some ⟨hS, hL⟩
set_option maxHeartbeats 1000000 in
set_option maxRecDepth 100000 in
theorem uB_X8_plainTried_L42    (N : Nat) : ∀ (x1 : Int32) (S : Tr), S 0 65 = 0 → Ep (lpF (fun _ _ => none) (fB_X8_plainTried_L42) N x1 S) (fun q => (q 0 65 = 0)) := by
  induction N with
  | zero => intro x1 S _; exact Ep_none
  | succ N ih =>
    intro x1 S hS
    show Ep (fB_X8_plainTried_L42 (lpF (fun _ _ => none) (fB_X8_plainTried_L42) N) x1 S) _
    have hk42 := ih
    clear ih
    generalize lpF (fun _ _ => none) (fB_X8_plainTried_L42) N = k42 at hk42 ⊢
    unfold fB_X8_plainTried_L42
    refine Ep_ite (fun _ => ?_) (fun _ => ?_)
    · exact Ep_some hS
    · refine Ep_ck ?_
      refine Ep_lt (fun S_10 eS_10 => ?_)
      have hS_10 : S_10 0 65 = 0 := by rw [eS_10]; exact s65_s hS (by omega)
      refine Ep_lt (fun y11 ey11 => ?_)
      exact hk42 y11 S_10 hS_10
set_option maxHeartbeats 1000000 in
set_option maxRecDepth 100000 in
theorem uL_X8_plainTried_L42    (x1 : Int32) (S : Tr) (hS : S 0 65 = 0) : Ep (fL_X8_plainTried_L42 x1 S) (fun q => (q 0 65 = 0)) := by
  unfold fL_X8_plainTried_L42
  exact uB_X8_plainTried_L42 2000 x1 S hS
set_option maxHeartbeats 1000000 in
set_option maxRecDepth 100000 in
theorem u_X8_plainTried (S : Tr) (hS : S 0 65 = 0)  : Ep (f_X8_plainTried S) (fun q => (q 0 65 = 0)) := by
  unfold f_X8_plainTried
  refine Ep_lt (fun S_1 eS_1 => ?_)
  have hS_1 : S_1 0 65 = 0 := by rw [eS_1]; exact s65_s hS (by omega)
  refine Ep_lt (fun S_2 eS_2 => ?_)
  have hS_2 : S_2 0 65 = 0 := by rw [eS_2]; exact s65_w (v := 0)
  refine Ep_lt (fun S_3 eS_3 => ?_)
  have hS_3 : S_3 0 65 = 0 := by rw [eS_3]; exact s65_s hS_2 (by omega)
  refine Ep_lt (fun S_4 eS_4 => ?_)
  have hS_4 : S_4 0 65 = 0 := by rw [eS_4]; exact s65_s hS_3 (by omega)
  refine Ep_lt (fun S_5 eS_5 => ?_)
  have hS_5 : S_5 0 65 = 0 := by rw [eS_5]; exact s65_s hS_4 (by omega)
  refine Ep_lt (fun S_6 eS_6 => ?_)
  have hS_6 : S_6 0 65 = 0 := by rw [eS_6]; exact s65_s hS_5 (by omega)
  refine Ep_lt (fun S_7 eS_7 => ?_)
  have hS_7 : S_7 0 65 = 0 := by rw [eS_7]; exact s65_s hS_6 (by omega)
  exact uL_X8_plainTried_L42 0 S_7 hS_7
set_option maxHeartbeats 1000000 in
set_option maxRecDepth 100000 in
theorem uJ_X8_layTried_J174 (S : Tr) (hS : S 0 65 = 0)  : Ep (fJ_X8_layTried_J174 S) (fun q => (q 0 65 = 0)) := by
  unfold fJ_X8_layTried_J174
  refine Ep_lt (fun S_5 eS_5 => ?_)
  have hS_5 : S_5 0 65 = 0 := by rw [eS_5]; exact s65_s hS (by omega)
  refine Ep_lt (fun S_6 eS_6 => ?_)
  have hS_6 : S_6 0 65 = 0 := by rw [eS_6]; exact s65_s hS_5 (by omega)
  refine Ep_lt (fun S_7 eS_7 => ?_)
  have hS_7 : S_7 0 65 = 0 := by rw [eS_7]; exact s65_s hS_6 (by omega)
  refine Ep_bd (u_X8_plainTried S_7 hS_7) (fun S_8 hS_8 => ?_)
  exact Ep_some hS_8
set_option maxHeartbeats 1000000 in
set_option maxRecDepth 100000 in
theorem uB_X8_layTried_L102    (N : Nat) : ∀ (x1 : Int32) (S : Tr), S 0 65 = 0 → Ep (lpF (fun _ _ => none) (fB_X8_layTried_L102) N x1 S) (fun q => (q 0 65 = 0)) := by
  induction N with
  | zero => intro x1 S _; exact Ep_none
  | succ N ih =>
    intro x1 S hS
    show Ep (fB_X8_layTried_L102 (lpF (fun _ _ => none) (fB_X8_layTried_L102) N) x1 S) _
    have hk102 := ih
    clear ih
    generalize lpF (fun _ _ => none) (fB_X8_layTried_L102) N = k102 at hk102 ⊢
    unfold fB_X8_layTried_L102
    refine Ep_ite (fun _ => ?_) (fun _ => ?_)
    · exact uJ_X8_layTried_J174 S hS
    · refine Ep_ck ?_
      refine Ep_ck ?_
      refine Ep_lt (fun S_13 eS_13 => ?_)
      have hS_13 : S_13 0 65 = 0 := by rw [eS_13]; exact s65_s hS (by omega)
      refine Ep_lt (fun S_14 eS_14 => ?_)
      have hS_14 : S_14 0 65 = 0 := by rw [eS_14]; exact s65_s hS_13 (by omega)
      refine Ep_lt (fun S_15 eS_15 => ?_)
      have hS_15 : S_15 0 65 = 0 := by rw [eS_15]; exact s65_s hS_14 (by omega)
      refine Ep_lt (fun S_16 eS_16 => ?_)
      have hS_16 : S_16 0 65 = 0 := by rw [eS_16]; exact s65_s hS_15 (by omega)
      refine Ep_lt (fun y17 ey17 => ?_)
      exact hk102 y17 S_16 hS_16
set_option maxHeartbeats 1000000 in
set_option maxRecDepth 100000 in
theorem uL_X8_layTried_L102    (x1 : Int32) (S : Tr) (hS : S 0 65 = 0) : Ep (fL_X8_layTried_L102 x1 S) (fun q => (q 0 65 = 0)) := by
  unfold fL_X8_layTried_L102
  exact uB_X8_layTried_L102 2000 x1 S hS
set_option maxHeartbeats 1000000 in
set_option maxRecDepth 100000 in
theorem uB_X8_layTried_L75    (N : Nat) : ∀ (x1 : Int32) (S : Tr), S 0 65 = 0 → Ep (lpF (fun _ _ => none) (fB_X8_layTried_L75) N x1 S) (fun q => (q 0 65 = 0)) := by
  induction N with
  | zero => intro x1 S _; exact Ep_none
  | succ N ih =>
    intro x1 S hS
    show Ep (fB_X8_layTried_L75 (lpF (fun _ _ => none) (fB_X8_layTried_L75) N) x1 S) _
    have hk75 := ih
    clear ih
    generalize lpF (fun _ _ => none) (fB_X8_layTried_L75) N = k75 at hk75 ⊢
    unfold fB_X8_layTried_L75
    refine Ep_ite (fun _ => ?_) (fun _ => ?_)
    · exact uL_X8_layTried_L102 0 S hS
    · refine Ep_ck ?_
      refine Ep_ck ?_
      refine Ep_lt (fun S_20 eS_20 => ?_)
      have hS_20 : S_20 0 65 = 0 := by rw [eS_20]; exact s65_s hS (by omega)
      refine Ep_lt (fun y21 ey21 => ?_)
      exact hk75 y21 S_20 hS_20
set_option maxHeartbeats 1000000 in
set_option maxRecDepth 100000 in
theorem uL_X8_layTried_L75    (x1 : Int32) (S : Tr) (hS : S 0 65 = 0) : Ep (fL_X8_layTried_L75 x1 S) (fun q => (q 0 65 = 0)) := by
  unfold fL_X8_layTried_L75
  exact uB_X8_layTried_L75 2000 x1 S hS
set_option maxHeartbeats 1000000 in
set_option maxRecDepth 100000 in
theorem uB_X8_layTried_L46    (N : Nat) : ∀ (x1 : Int32) (S : Tr), S 0 65 = 0 → Ep (lpF (fun _ _ => none) (fB_X8_layTried_L46) N x1 S) (fun q => (q 0 65 = 0)) := by
  induction N with
  | zero => intro x1 S _; exact Ep_none
  | succ N ih =>
    intro x1 S hS
    show Ep (fB_X8_layTried_L46 (lpF (fun _ _ => none) (fB_X8_layTried_L46) N) x1 S) _
    have hk46 := ih
    clear ih
    generalize lpF (fun _ _ => none) (fB_X8_layTried_L46) N = k46 at hk46 ⊢
    unfold fB_X8_layTried_L46
    refine Ep_ite (fun _ => ?_) (fun _ => ?_)
    · exact uL_X8_layTried_L75 0 S hS
    · refine Ep_ck ?_
      refine Ep_ck ?_
      refine Ep_lt (fun S_24 eS_24 => ?_)
      have hS_24 : S_24 0 65 = 0 := by rw [eS_24]; exact s65_s hS (by omega)
      refine Ep_lt (fun y25 ey25 => ?_)
      exact hk46 y25 S_24 hS_24
set_option maxHeartbeats 1000000 in
set_option maxRecDepth 100000 in
theorem uL_X8_layTried_L46    (x1 : Int32) (S : Tr) (hS : S 0 65 = 0) : Ep (fL_X8_layTried_L46 x1 S) (fun q => (q 0 65 = 0)) := by
  unfold fL_X8_layTried_L46
  exact uB_X8_layTried_L46 2000 x1 S hS
set_option maxHeartbeats 1000000 in
set_option maxRecDepth 100000 in
theorem uB_X8_layTried_L2    (N : Nat) : ∀ (x1 : Int32) (S : Tr), S 0 65 = 0 → Ep (lpF (fun _ _ => none) (fB_X8_layTried_L2) N x1 S) (fun q => (q 0 65 = 0)) := by
  induction N with
  | zero => intro x1 S _; exact Ep_none
  | succ N ih =>
    intro x1 S hS
    show Ep (fB_X8_layTried_L2 (lpF (fun _ _ => none) (fB_X8_layTried_L2) N) x1 S) _
    have hk2 := ih
    clear ih
    generalize lpF (fun _ _ => none) (fB_X8_layTried_L2) N = k2 at hk2 ⊢
    unfold fB_X8_layTried_L2
    refine Ep_ite (fun _ => ?_) (fun _ => ?_)
    · exact uL_X8_layTried_L46 0 S hS
    · refine Ep_ck ?_
      refine Ep_ck ?_
      refine Ep_lt (fun S_28 eS_28 => ?_)
      have hS_28 : S_28 0 65 = 0 := by rw [eS_28]; exact s65_s hS (by omega)
      refine Ep_lt (fun S_29 eS_29 => ?_)
      have hS_29 : S_29 0 65 = 0 := by rw [eS_29]; exact s65_s hS_28 (by omega)
      refine Ep_lt (fun y30 ey30 => ?_)
      exact hk2 y30 S_29 hS_29
set_option maxHeartbeats 1000000 in
set_option maxRecDepth 100000 in
theorem uL_X8_layTried_L2    (x1 : Int32) (S : Tr) (hS : S 0 65 = 0) : Ep (fL_X8_layTried_L2 x1 S) (fun q => (q 0 65 = 0)) := by
  unfold fL_X8_layTried_L2
  exact uB_X8_layTried_L2 2000 x1 S hS
set_option maxHeartbeats 1000000 in
set_option maxRecDepth 100000 in
theorem u_X8_layTried (S : Tr) (hS : S 0 65 = 0)  : Ep (f_X8_layTried S) (fun q => (q 0 65 = 0)) := by
  unfold f_X8_layTried
  exact uL_X8_layTried_L2 0 S hS
set_option maxHeartbeats 1000000 in
set_option maxRecDepth 100000 in
theorem uB_X8_outs_L261 {v63 : Int64} (L : Lo) (x1 : Int32) (hL : L 0 63 = v63)  (N : Nat) : ∀ (x3 : Int32) (S : Tr), S 0 65 = 0 → Ep (lpF (fun _ _ => none) (fB_X8_outs_L261 L x1) N x3 S) (fun q => (q.1 0 65 = 0) ∧ (q.2 0 63 = v63)) := by
  induction N with
  | zero => intro x3 S _; exact Ep_none
  | succ N ih =>
    intro x3 S hS
    show Ep (fB_X8_outs_L261 L x1 (lpF (fun _ _ => none) (fB_X8_outs_L261 L x1) N) x3 S) _
    have hk261 := ih
    clear ih
    generalize lpF (fun _ _ => none) (fB_X8_outs_L261 L x1) N = k261 at hk261 ⊢
    unfold fB_X8_outs_L261
    refine Ep_ite (fun _ => ?_) (fun _ => ?_)
    · exact Ep_some ⟨hS, hL⟩
    · refine Ep_ck ?_
      refine Ep_ite (fun _ => ?_) (fun _ => ?_)
      · refine Ep_lt (fun S_10 eS_10 => ?_)
        have hS_10 : S_10 0 65 = 0 := by rw [eS_10]; exact s65_s hS (by omega)
        refine Ep_lt (fun y11 ey11 => ?_)
        exact hk261 y11 S_10 hS_10
      · refine Ep_lt (fun y9 ey9 => ?_)
        exact hk261 y9 S hS
set_option maxHeartbeats 1000000 in
set_option maxRecDepth 100000 in
theorem uL_X8_outs_L261 {v63 : Int64} (L : Lo) (x1 : Int32) (hL : L 0 63 = v63)  (x3 : Int32) (S : Tr) (hS : S 0 65 = 0) : Ep (fL_X8_outs_L261 L x1 x3 S) (fun q => (q.1 0 65 = 0) ∧ (q.2 0 63 = v63)) := by
  unfold fL_X8_outs_L261
  exact uB_X8_outs_L261 L x1 hL 2000 x3 S hS
set_option maxHeartbeats 1000000 in
set_option maxRecDepth 100000 in
theorem uJ_X8_takes_J96 (x1 : Int32) (x2 : Int32) (x3 : Int32) (S : Tr) (hS : S 0 65 = 0)  : Ep (fJ_X8_takes_J96 x1 x2 x3 S) (fun q => (q 0 65 = 0)) := by
  unfold fJ_X8_takes_J96
  refine Ep_ck ?_
  refine Ep_lt (fun S_11 eS_11 => ?_)
  have hS_11 : S_11 0 65 = 0 := by rw [eS_11]; exact s65_s hS (by omega)
  refine Ep_lt (fun S_12 eS_12 => ?_)
  have hS_12 : S_12 0 65 = 0 := by rw [eS_12]; exact s65_s hS_11 (by omega)
  exact Ep_some hS_12
set_option maxHeartbeats 1000000 in
set_option maxRecDepth 100000 in
theorem uB_X8_takes_L36 (x1 : Int32) (x2 : Int32) (x3 : Int32) (x4 : Int32)   (N : Nat) : ∀ (x5 : Int32) (S : Tr), S 0 65 = 0 → Ep (lpF (fun _ _ => none) (fB_X8_takes_L36 x1 x2 x3 x4) N x5 S) (fun q => (q 0 65 = 0)) := by
  induction N with
  | zero => intro x5 S _; exact Ep_none
  | succ N ih =>
    intro x5 S hS
    show Ep (fB_X8_takes_L36 x1 x2 x3 x4 (lpF (fun _ _ => none) (fB_X8_takes_L36 x1 x2 x3 x4) N) x5 S) _
    have hk36 := ih
    clear ih
    generalize lpF (fun _ _ => none) (fB_X8_takes_L36 x1 x2 x3 x4) N = k36 at hk36 ⊢
    unfold fB_X8_takes_L36
    refine Ep_ck ?_
    refine Ep_ite (fun _ => ?_) (fun _ => ?_)
    · exact uJ_X8_takes_J96 x1 x2 x3 S hS
    · refine Ep_ck ?_
      refine Ep_ck ?_
      refine Ep_lt (fun S_15 eS_15 => ?_)
      have hS_15 : S_15 0 65 = 0 := by rw [eS_15]; exact s65_s hS (by omega)
      refine Ep_lt (fun y16 ey16 => ?_)
      exact hk36 y16 S_15 hS_15
set_option maxHeartbeats 1000000 in
set_option maxRecDepth 100000 in
theorem uL_X8_takes_L36 (x1 : Int32) (x2 : Int32) (x3 : Int32) (x4 : Int32)   (x5 : Int32) (S : Tr) (hS : S 0 65 = 0) : Ep (fL_X8_takes_L36 x1 x2 x3 x4 x5 S) (fun q => (q 0 65 = 0)) := by
  unfold fL_X8_takes_L36
  exact uB_X8_takes_L36 x1 x2 x3 x4 2000 x5 S hS
set_option maxHeartbeats 1000000 in
set_option maxRecDepth 100000 in
theorem u_X8_takes (S : Tr) (x1 : Int32) (x2 : Int32) (x3 : Int32) (hS : S 0 65 = 0)  : Ep (f_X8_takes S x1 x2 x3) (fun q => (q 0 65 = 0)) := by
  unfold f_X8_takes
  refine Ep_ck ?_
  refine Ep_lt (fun y2 ey2 => ?_)
  refine Ep_any (fun r3 => ?_)
  refine Ep_ck ?_
  refine Ep_lt (fun S_7 eS_7 => ?_)
  have hS_7 : S_7 0 65 = 0 := by rw [eS_7]; exact s65_s hS (by omega)
  exact uL_X8_takes_L36 x1 x2 x3 y2 r3 S_7 hS_7
set_option maxHeartbeats 1000000 in
set_option maxRecDepth 100000 in
theorem uB_X8_outs_L223 {v63 : Int64} (L : Lo) (x1 : Int32) (hL : L 0 63 = v63)  (N : Nat) : ∀ (x3 : Int32) (S : Tr), S 0 65 = 0 → Ep (lpF (fun _ _ => none) (fB_X8_outs_L223 L x1) N x3 S) (fun q => (q.1 0 65 = 0) ∧ (q.2 0 63 = v63)) := by
  induction N with
  | zero => intro x3 S _; exact Ep_none
  | succ N ih =>
    intro x3 S hS
    show Ep (fB_X8_outs_L223 L x1 (lpF (fun _ _ => none) (fB_X8_outs_L223 L x1) N) x3 S) _
    have hk223 := ih
    clear ih
    generalize lpF (fun _ _ => none) (fB_X8_outs_L223 L x1) N = k223 at hk223 ⊢
    unfold fB_X8_outs_L223
    refine Ep_ite (fun _ => ?_) (fun _ => ?_)
    · exact uL_X8_outs_L261 L x1 hL 0 S hS
    · refine Ep_ck ?_
      refine Ep_ite (fun _ => ?_) (fun _ => ?_)
      · refine Ep_bd (u_X8_takes S x1 x3 (5 : Int32) hS) (fun S_15 hS_15 => ?_)
        refine Ep_lt (fun y18 ey18 => ?_)
        exact hk223 y18 S_15 hS_15
      · refine Ep_lt (fun y14 ey14 => ?_)
        exact hk223 y14 S hS
set_option maxHeartbeats 1000000 in
set_option maxRecDepth 100000 in
theorem uL_X8_outs_L223 {v63 : Int64} (L : Lo) (x1 : Int32) (hL : L 0 63 = v63)  (x3 : Int32) (S : Tr) (hS : S 0 65 = 0) : Ep (fL_X8_outs_L223 L x1 x3 S) (fun q => (q.1 0 65 = 0) ∧ (q.2 0 63 = v63)) := by
  unfold fL_X8_outs_L223
  exact uB_X8_outs_L223 L x1 hL 2000 x3 S hS
set_option maxHeartbeats 1000000 in
set_option maxRecDepth 100000 in
theorem uJ_X8_outs_J209 {v63 : Int64} (x1 : Int32) (S : Tr) (L : Lo) (hS : S 0 65 = 0) (hL : L 0 63 = v63)  : Ep (fJ_X8_outs_J209 x1 S L) (fun q => (q.1 0 65 = 0) ∧ (q.2 0 63 = v63)) := by
  unfold fJ_X8_outs_J209
  refine Ep_ck ?_
  refine Ep_ite (fun _ => ?_) (fun _ => ?_)
  · exact uL_X8_outs_L223 L x1 hL 0 S hS
  · exact Ep_some ⟨hS, hL⟩
set_option maxHeartbeats 1000000 in
set_option maxRecDepth 100000 in
theorem uJ_X8_outs_J182 {v63 : Int64} (k9 : Int32 → Int32 → Tr → Lo → Option (Tr × Lo)) (x1 : Int32) (x2 : Int32) (x3 : Int32) (S : Tr) (L : Lo) (hS : S 0 65 = 0) (hL : L 0 63 = v63) (hk9 : ∀ (x2 : Int32) (x3 : Int32) (S : Tr) (L : Lo), S 0 65 = 0 → L 0 63 = v63 → Ep (k9 x2 x3 S L) (fun q => (q.1 0 65 = 0) ∧ (q.2 0 63 = v63))) : Ep (fJ_X8_outs_J182 k9 x1 x2 x3 S L) (fun q => (q.1 0 65 = 0) ∧ (q.2 0 63 = v63)) := by
  unfold fJ_X8_outs_J182
  refine Ep_any (fun r24 => ?_)
  refine Ep_ite (fun _ => ?_) (fun _ => ?_)
  · refine Ep_ck ?_
    refine Ep_lt (fun S_30 eS_30 => ?_)
    have hS_30 : S_30 0 65 = 0 := by rw [eS_30]; exact s65_s hS (by omega)
    refine Ep_lt (fun y31 ey31 => ?_)
    exact hk9 x2 y31 S_30 L hS_30 hL
  · refine Ep_lt (fun y28 ey28 => ?_)
    exact hk9 x2 y28 S L hS hL
set_option maxHeartbeats 1000000 in
set_option maxRecDepth 100000 in
theorem u_X8_layNames {v63 : Int64} (S : Tr) (L : Lo) (x1 : Int32) (x2 : Int32) (x3 : Int32) (hS : S 0 65 = 0) (hL : L 0 63 = v63)  : Ep (f_X8_layNames S L x1 x2 x3) (fun q => (q 0 63 = v63)) := by
  unfold f_X8_layNames
  refine Ep_ck ?_
  refine Ep_lt (fun y2 ey2 => ?_)
  refine Ep_ck ?_
  refine Ep_lt (fun L_4 eL_4 => ?_)
  have hL_4 : L_4 0 63 = v63 := by rw [eL_4]; exact l63_s hL (by omega)
  refine Ep_lt (fun L_5 eL_5 => ?_)
  have hL_5 : L_5 0 63 = v63 := by rw [eL_5]; exact l63_s hL_4 (by omega)
  refine Ep_any (fun r6 => ?_)
  refine Ep_lt (fun L_9 eL_9 => ?_)
  have hL_9 : L_9 0 63 = v63 := by rw [eL_9]; exact l63_s hL_5 (by omega)
  refine Ep_ck ?_
  refine Ep_lt (fun L_11 eL_11 => ?_)
  have hL_11 : L_11 0 63 = v63 := by rw [eL_11]; exact l63_s hL_9 (by omega)
  refine Ep_any (fun r12 => ?_)
  refine Ep_lt (fun L_15 eL_15 => ?_)
  have hL_15 : L_15 0 63 = v63 := by rw [eL_15]; exact l63_s hL_11 (by omega)
  refine Ep_ck ?_
  refine Ep_lt (fun L_17 eL_17 => ?_)
  have hL_17 : L_17 0 63 = v63 := by rw [eL_17]; exact l63_s hL_15 (by omega)
  refine Ep_any (fun r18 => ?_)
  refine Ep_lt (fun L_21 eL_21 => ?_)
  have hL_21 : L_21 0 63 = v63 := by rw [eL_21]; exact l63_s hL_17 (by omega)
  exact Ep_some hL_21
set_option maxHeartbeats 1000000 in
set_option maxRecDepth 100000 in
theorem uJ_X8_lawOf_J39 {v63 : Int64} (x1 : Int32) (S : Tr) (L : Lo) (hS : S 0 65 = 0) (hL : L 0 63 = v63)  : Ep (fJ_X8_lawOf_J39 x1 S L) (fun q => (q.2.1 0 65 = 0) ∧ (q.2.2 0 63 = v63)) := by
  unfold fJ_X8_lawOf_J39
  refine Ep_ite (fun _ => ?_) (fun _ => ?_)
  · refine Ep_ck ?_
    refine Ep_ck ?_
    exact Ep_some ⟨hS, hL⟩
  · exact Ep_some ⟨hS, hL⟩
set_option maxHeartbeats 1000000 in
set_option maxRecDepth 100000 in
theorem uJ_X8_bounded_J29 (x1 : Int64) (s0 : Int32) (S : Tr) (hS : S 0 65 = 0)  : Ep (fJ_X8_bounded_J29 x1 s0 S) (fun q => (q.2 0 65 = 0)) := by
  unfold fJ_X8_bounded_J29
  refine Ep_ck ?_
  refine Ep_lt (fun S_3 eS_3 => ?_)
  have hS_3 : S_3 0 65 = 0 := by rw [eS_3]; exact s65_s hS (by omega)
  refine Ep_ite (fun _ => ?_) (fun _ => ?_)
  · exact Ep_some hS_3
  · exact Ep_some hS_3
set_option maxHeartbeats 1000000 in
set_option maxRecDepth 100000 in
theorem uJ_X8_bounded_J24 (x1 : Int64) (S : Tr) (hS : S 0 65 = 0)  : Ep (fJ_X8_bounded_J24 x1 S) (fun q => (q.2 0 65 = 0)) := by
  unfold fJ_X8_bounded_J24
  exact uJ_X8_bounded_J29 x1 1 S hS
set_option maxHeartbeats 1000000 in
set_option maxRecDepth 100000 in
theorem u_X8_bounded (S : Tr) (x1 : Int64) (hS : S 0 65 = 0)  : Ep (f_X8_bounded S x1) (fun q => (q.2 0 65 = 0)) := by
  unfold f_X8_bounded
  refine Ep_ite (fun _ => ?_) (fun _ => ?_)
  · refine Ep_ite (fun _ => ?_) (fun _ => ?_)
    · exact uJ_X8_bounded_J24 x1 S hS
    · refine Ep_ite (fun _ => ?_) (fun _ => ?_)
      · exact uJ_X8_bounded_J29 x1 0 S hS
      · exact uJ_X8_bounded_J24 x1 S hS
  · exact uJ_X8_bounded_J24 x1 S hS
set_option maxHeartbeats 1000000 in
set_option maxRecDepth 100000 in
theorem uJ_X8_times_J69 (x1 : Int64) (x3 : Int64) (s0 : Int32) (S : Tr) (hS : S 0 65 = 0)  : Ep (fJ_X8_times_J69 x1 x3 s0 S) (fun q => (q.2 0 65 = 0)) := by
  unfold fJ_X8_times_J69
  refine Ep_ck ?_
  refine Ep_lt (fun S_4 eS_4 => ?_)
  have hS_4 : S_4 0 65 = 0 := by rw [eS_4]; exact s65_s hS (by omega)
  refine Ep_ite (fun _ => ?_) (fun _ => ?_)
  · exact Ep_some hS_4
  · exact Ep_some hS_4
set_option maxHeartbeats 1000000 in
set_option maxRecDepth 100000 in
theorem uJ_X8_times_J64 (x1 : Int64) (x3 : Int64) (S : Tr) (hS : S 0 65 = 0)  : Ep (fJ_X8_times_J64 x1 x3 S) (fun q => (q.2 0 65 = 0)) := by
  unfold fJ_X8_times_J64
  exact uJ_X8_times_J69 x1 x3 1 S hS
set_option maxHeartbeats 1000000 in
set_option maxRecDepth 100000 in
theorem uJ_X8_times_J49 (x1 : Int64) (x3 : Int64) (s0 : Int32) (S : Tr) (hS : S 0 65 = 0)  : Ep (fJ_X8_times_J49 x1 x3 s0 S) (fun q => (q.2 0 65 = 0)) := by
  unfold fJ_X8_times_J49
  refine Ep_ite (fun _ => ?_) (fun _ => ?_)
  · refine Ep_ite (fun _ => ?_) (fun _ => ?_)
    · exact uJ_X8_times_J69 x1 x3 0 S hS
    · exact uJ_X8_times_J64 x1 x3 S hS
  · exact uJ_X8_times_J64 x1 x3 S hS
set_option maxHeartbeats 1000000 in
set_option maxRecDepth 100000 in
theorem uJ_X8_times_J48 (x1 : Int64) (x3 : Int64) (S : Tr) (hS : S 0 65 = 0)  : Ep (fJ_X8_times_J48 x1 x3 S) (fun q => (q.2 0 65 = 0)) := by
  unfold fJ_X8_times_J48
  exact uJ_X8_times_J49 x1 x3 0 S hS
set_option maxHeartbeats 1000000 in
set_option maxRecDepth 100000 in
theorem uJ_X8_times_J39 (x1 : Int64) (x3 : Int64) (s0 : Int64) (s1 : Int64) (s2 : Int64) (S : Tr) (hS : S 0 65 = 0)  : Ep (fJ_X8_times_J39 x1 x3 s0 s1 s2 S) (fun q => (q.2 0 65 = 0)) := by
  unfold fJ_X8_times_J39
  refine Ep_ck ?_
  refine Ep_ite (fun _ => ?_) (fun _ => ?_)
  · exact uJ_X8_times_J48 x1 x3 S hS
  · exact uJ_X8_times_J49 x1 x3 1 S hS
set_option maxHeartbeats 1000000 in
set_option maxRecDepth 100000 in
theorem uJ_X8_times_J24 (x1 : Int64) (x3 : Int64) (s0 : Int64) (S : Tr) (hS : S 0 65 = 0)  : Ep (fJ_X8_times_J24 x1 x3 s0 S) (fun q => (q.2 0 65 = 0)) := by
  unfold fJ_X8_times_J24
  refine Ep_ite (fun _ => ?_) (fun _ => ?_)
  · exact uJ_X8_times_J39 x1 x3 x1 1000000000000 s0 S hS
  · exact uJ_X8_times_J39 x1 x3 (-x1) 1000000000000 s0 S hS
set_option maxHeartbeats 1000000 in
set_option maxRecDepth 100000 in
theorem u_X8_times (S : Tr) (x1 : Int64) (x3 : Int64) (hS : S 0 65 = 0)  : Ep (f_X8_times S x1 x3) (fun q => (q.2 0 65 = 0)) := by
  unfold f_X8_times
  refine Ep_ite (fun _ => ?_) (fun _ => ?_)
  · exact uJ_X8_times_J48 x1 x3 S hS
  · refine Ep_ite (fun _ => ?_) (fun _ => ?_)
    · exact uJ_X8_times_J48 x1 x3 S hS
    · refine Ep_ite (fun _ => ?_) (fun _ => ?_)
      · exact uJ_X8_times_J24 x1 x3 x3 S hS
      · exact uJ_X8_times_J24 x1 x3 (-x3) S hS
set_option maxHeartbeats 1000000 in
set_option maxRecDepth 100000 in
theorem uJ_X8_valueOf_J240 {v63 : Int64} (L : Lo) (x2 : Int64) (x4 : Int64) (s0 : Int32) (S : Tr) (hL : L 0 63 = v63) (hS : S 0 65 = 0)  : Ep (fJ_X8_valueOf_J240 L x2 x4 s0 S) (fun q => (q.2 0 65 = 0)) := by
  unfold fJ_X8_valueOf_J240
  refine Ep_ck ?_
  refine Ep_lt (fun S_34 eS_34 => ?_)
  have hS_34 : S_34 0 65 = 0 := by rw [eS_34]; exact s65_s hS (by omega)
  refine Ep_ite (fun _ => ?_) (fun _ => ?_)
  · refine Ep_ck ?_
    exact Ep_some hS_34
  · exact Ep_some hS_34
set_option maxHeartbeats 1000000 in
set_option maxRecDepth 100000 in
theorem uJ_X8_valueOf_J235 {v63 : Int64} (L : Lo) (x2 : Int64) (x4 : Int64) (S : Tr) (hL : L 0 63 = v63) (hS : S 0 65 = 0)  : Ep (fJ_X8_valueOf_J235 L x2 x4 S) (fun q => (q.2 0 65 = 0)) := by
  unfold fJ_X8_valueOf_J235
  exact uJ_X8_valueOf_J240 L x2 x4 1 S hL hS
set_option maxHeartbeats 1000000 in
set_option maxRecDepth 100000 in
theorem u_X8_valueOf {v63 : Int64} (S : Tr) (L : Lo) (x1 : Int32) (hS : S 0 65 = 0) (hL : L 0 63 = v63)  : Ep (f_X8_valueOf S L x1) (fun q => (q.2 0 65 = 0)) := by
  unfold f_X8_valueOf
  refine Ep_ck ?_
  refine Ep_ite (fun _ => ?_) (fun _ => ?_)
  · exact Ep_some hS
  · refine Ep_ite (fun _ => ?_) (fun _ => ?_)
    · refine Ep_ck ?_
      exact Ep_some hS
    · refine Ep_ck ?_
      refine Ep_lt (fun y5 ey5 => ?_)
      refine Ep_ite (fun _ => ?_) (fun _ => ?_)
      · refine Ep_ite (fun _ => ?_) (fun _ => ?_)
        · exact Ep_some hS
        · exact Ep_some hS
      · refine Ep_ck ?_
        refine Ep_lt (fun y8 ey8 => ?_)
        refine Ep_lt (fun y9 ey9 => ?_)
        refine Ep_ite (fun _ => ?_) (fun _ => ?_)
        · refine Ep_ite (fun _ => ?_) (fun _ => ?_)
          · exact Ep_some hS
          · refine Ep_ite (fun _ => ?_) (fun _ => ?_)
            · exact Ep_some hS
            · exact Ep_some hS
        · refine Ep_ite (fun _ => ?_) (fun _ => ?_)
          · refine Ep_ite (fun _ => ?_) (fun _ => ?_)
            · refine Ep_ite (fun _ => ?_) (fun _ => ?_)
              · exact Ep_some hS
              · exact Ep_some hS
            · exact Ep_some hS
          · refine Ep_ite (fun _ => ?_) (fun _ => ?_)
            · refine Ep_bd (u_X8_bounded S (y5 + y8) hS) (fun q hq => ?_)
              refine Ep_lt (fun r17 er17 => ?_)
              refine Ep_lt (fun S_18 eS_18 => ?_)
              have hS_18 : S_18 0 65 = 0 := by rw [eS_18]; exact hq
              exact Ep_some hS_18
            · refine Ep_ite (fun _ => ?_) (fun _ => ?_)
              · refine Ep_bd (u_X8_bounded S (y5 - y8) hS) (fun q hq => ?_)
                refine Ep_lt (fun r22 er22 => ?_)
                refine Ep_lt (fun S_23 eS_23 => ?_)
                have hS_23 : S_23 0 65 = 0 := by rw [eS_23]; exact hq
                exact Ep_some hS_23
              · refine Ep_ite (fun _ => ?_) (fun _ => ?_)
                · refine Ep_bd (u_X8_times S y5 y8 hS) (fun q hq => ?_)
                  refine Ep_lt (fun r27 er27 => ?_)
                  refine Ep_lt (fun S_28 eS_28 => ?_)
                  have hS_28 : S_28 0 65 = 0 := by rw [eS_28]; exact hq
                  exact Ep_some hS_28
                · refine Ep_ite (fun _ => ?_) (fun _ => ?_)
                  · refine Ep_ite (fun _ => ?_) (fun _ => ?_)
                    · refine Ep_ite (fun _ => ?_) (fun _ => ?_)
                      · exact uJ_X8_valueOf_J235 L y5 y8 S hL hS
                      · exact uJ_X8_valueOf_J240 L y5 y8 0 S hL hS
                    · exact uJ_X8_valueOf_J235 L y5 y8 S hL hS
                  · refine Ep_any (fun r38 => ?_)
                    refine Ep_ite (fun _ => ?_) (fun _ => ?_)
                    · exact Ep_some hS
                    · exact Ep_some hS
set_option maxHeartbeats 1000000 in
set_option maxRecDepth 100000 in
theorem uB_X8_lawOf_L12 {v63 : Int64} (x1 : Int32)   (N : Nat) : ∀ (x2 : Int32) (S : Tr) (L : Lo), S 0 65 = 0 → L 0 63 = v63 → Ep (lpF (fun _ _ _ => none) (fB_X8_lawOf_L12 x1) N x2 S L) (fun q => (q.2.1 0 65 = 0) ∧ (q.2.2 0 63 = v63)) := by
  induction N with
  | zero => intro x2 S L _ _; exact Ep_none
  | succ N ih =>
    intro x2 S L hS hL
    show Ep (fB_X8_lawOf_L12 x1 (lpF (fun _ _ _ => none) (fB_X8_lawOf_L12 x1) N) x2 S L) _
    have hk12 := ih
    clear ih
    generalize lpF (fun _ _ _ => none) (fB_X8_lawOf_L12 x1) N = k12 at hk12 ⊢
    unfold fB_X8_lawOf_L12
    refine Ep_ck ?_
    refine Ep_ite (fun _ => ?_) (fun _ => ?_)
    · exact uJ_X8_lawOf_J39 x1 S L hS hL
    · refine Ep_bd (u_X8_valueOf S L x2 hS hL) (fun q hq => ?_)
      refine Ep_lt (fun r9 er9 => ?_)
      refine Ep_lt (fun S_10 eS_10 => ?_)
      have hS_10 : S_10 0 65 = 0 := by rw [eS_10]; exact hq
      refine Ep_ck ?_
      refine Ep_lt (fun L_14 eL_14 => ?_)
      have hL_14 : L_14 0 63 = v63 := by rw [eL_14]; exact l63_s hL (by omega)
      refine Ep_lt (fun y15 ey15 => ?_)
      exact hk12 y15 S_10 L_14 hS_10 hL_14
set_option maxHeartbeats 1000000 in
set_option maxRecDepth 100000 in
theorem uL_X8_lawOf_L12 {v63 : Int64} (x1 : Int32)   (x2 : Int32) (S : Tr) (L : Lo) (hS : S 0 65 = 0) (hL : L 0 63 = v63) : Ep (fL_X8_lawOf_L12 x1 x2 S L) (fun q => (q.2.1 0 65 = 0) ∧ (q.2.2 0 63 = v63)) := by
  unfold fL_X8_lawOf_L12
  exact uB_X8_lawOf_L12 x1 2000 x2 S L hS hL
set_option maxHeartbeats 1000000 in
set_option maxRecDepth 100000 in
theorem u_X8_lawOf {v63 : Int64} (S : Tr) (L : Lo) (x1 : Int32) (hS : S 0 65 = 0) (hL : L 0 63 = v63)  : Ep (f_X8_lawOf S L x1) (fun q => (q.2.1 0 65 = 0) ∧ (q.2.2 0 63 = v63)) := by
  unfold f_X8_lawOf
  refine Ep_lt (fun S_1 eS_1 => ?_)
  have hS_1 : S_1 0 65 = 0 := by rw [eS_1]; exact s65_s hS (by omega)
  refine Ep_ck ?_
  refine Ep_lt (fun y3 ey3 => ?_)
  exact uL_X8_lawOf_L12 x1 y3 S_1 L hS_1 hL
set_option maxHeartbeats 1000000 in
set_option maxRecDepth 100000 in
theorem u_X8_boundLaw {v63 : Int64} (S : Tr) (L : Lo) (x1 : Int32) (x2 : Int32) (x3 : Int32) (hS : S 0 65 = 0) (hL : L 0 63 = v63)  : Ep (f_X8_boundLaw S L x1 x2 x3) (fun q => (q.2.1 0 65 = 0) ∧ (q.2.2 0 63 = v63)) := by
  unfold f_X8_boundLaw
  refine Ep_ck ?_
  refine Ep_ite (fun _ => ?_) (fun _ => ?_)
  · exact Ep_some ⟨hS, hL⟩
  · refine Ep_bd (u_X8_lawOf S L x1 hS hL) (fun q hq => ?_)
    refine Ep_lt (fun r3 er3 => ?_)
    refine Ep_lt (fun S_4 eS_4 => ?_)
    have hS_4 : S_4 0 65 = 0 := by rw [eS_4]; exact hq.1
    refine Ep_lt (fun L_5 eL_5 => ?_)
    have hL_5 : L_5 0 63 = v63 := by rw [eL_5]; exact hq.2
    refine Ep_ite (fun _ => ?_) (fun _ => ?_)
    · refine Ep_ite (fun _ => ?_) (fun _ => ?_)
      · refine Ep_ite (fun _ => ?_) (fun _ => ?_)
        · exact Ep_some ⟨hS_4, hL_5⟩
        · exact Ep_some ⟨hS_4, hL_5⟩
      · exact Ep_some ⟨hS_4, hL_5⟩
    · exact Ep_some ⟨hS_4, hL_5⟩
set_option maxHeartbeats 1000000 in
set_option maxRecDepth 100000 in
theorem u_X8_liftOf {v63 : Int64} (S : Tr) (L : Lo) (x1 : Int32) (x2 : Int32) (x3 : Int32) (hS : S 0 65 = 0) (hL : L 0 63 = v63)  : Ep (f_X8_liftOf S L x1 x2 x3) (fun q => (q.2.1 0 65 = 0) ∧ (q.2.2 0 63 = v63)) := by
  unfold f_X8_liftOf
  refine Ep_bd (u_X8_layNames S L x1 x2 x3 hS hL) (fun L_1 hL_1 => ?_)
  refine Ep_ck ?_
  refine Ep_any (fun r5 => ?_)
  refine Ep_ck ?_
  refine Ep_bd (u_X8_boundLaw S L_1 (0 : Int32) (((S 31 x2.toNatClampNeg) / r5) + 1) (99 : Int32) hS hL_1) (fun q hq => ?_)
  refine Ep_lt (fun r9 er9 => ?_)
  refine Ep_lt (fun S_10 eS_10 => ?_)
  have hS_10 : S_10 0 65 = 0 := by rw [eS_10]; exact hq.1
  refine Ep_lt (fun L_11 eL_11 => ?_)
  have hL_11 : L_11 0 63 = v63 := by rw [eL_11]; exact hq.2
  exact Ep_some ⟨hS_10, hL_11⟩
set_option maxHeartbeats 1000000 in
set_option maxRecDepth 100000 in
theorem uB_X8_secondsOf_L23 {v63 : Int64} (x1 : Int32) (x2 : Int32) (x3 : Int32)   (N : Nat) : ∀ (x4 : Int32) (x5 : Int32) (S : Tr) (L : Lo), S 0 65 = 0 → L 0 63 = v63 → Ep (lpF (fun _ _ _ _ => none) (fB_X8_secondsOf_L23 x1 x2 x3) N x4 x5 S L) (fun q => (q.2.1 0 65 = 0) ∧ (q.2.2 0 63 = v63)) := by
  induction N with
  | zero => intro x4 x5 S L _ _; exact Ep_none
  | succ N ih =>
    intro x4 x5 S L hS hL
    show Ep (fB_X8_secondsOf_L23 x1 x2 x3 (lpF (fun _ _ _ _ => none) (fB_X8_secondsOf_L23 x1 x2 x3) N) x4 x5 S L) _
    have hk23 := ih
    clear ih
    generalize lpF (fun _ _ _ _ => none) (fB_X8_secondsOf_L23 x1 x2 x3) N = k23 at hk23 ⊢
    unfold fB_X8_secondsOf_L23
    refine Ep_ck ?_
    refine Ep_ite (fun _ => ?_) (fun _ => ?_)
    · exact Ep_some ⟨hS, hL⟩
    · refine Ep_any (fun r8 => ?_)
      refine Ep_ck ?_
      refine Ep_bd (u_X8_liftOf S L x1 r8 (S 30 x2.toNatClampNeg) hS hL) (fun q hq => ?_)
      refine Ep_lt (fun r12 er12 => ?_)
      refine Ep_lt (fun S_13 eS_13 => ?_)
      have hS_13 : S_13 0 65 = 0 := by rw [eS_13]; exact hq.1
      refine Ep_lt (fun L_14 eL_14 => ?_)
      have hL_14 : L_14 0 63 = v63 := by rw [eL_14]; exact hq.2
      refine Ep_lt (fun y17 ey17 => ?_)
      refine Ep_lt (fun y18 ey18 => ?_)
      exact hk23 y17 y18 S_13 L_14 hS_13 hL_14
set_option maxHeartbeats 1000000 in
set_option maxRecDepth 100000 in
theorem uL_X8_secondsOf_L23 {v63 : Int64} (x1 : Int32) (x2 : Int32) (x3 : Int32)   (x4 : Int32) (x5 : Int32) (S : Tr) (L : Lo) (hS : S 0 65 = 0) (hL : L 0 63 = v63) : Ep (fL_X8_secondsOf_L23 x1 x2 x3 x4 x5 S L) (fun q => (q.2.1 0 65 = 0) ∧ (q.2.2 0 63 = v63)) := by
  unfold fL_X8_secondsOf_L23
  exact uB_X8_secondsOf_L23 x1 x2 x3 2000 x4 x5 S L hS hL
set_option maxHeartbeats 1000000 in
set_option maxRecDepth 100000 in
theorem u_X8_secondsOf {v63 : Int64} (S : Tr) (L : Lo) (x1 : Int32) (x2 : Int32) (hS : S 0 65 = 0) (hL : L 0 63 = v63)  : Ep (f_X8_secondsOf S L x1 x2) (fun q => (q.2.1 0 65 = 0) ∧ (q.2.2 0 63 = v63)) := by
  unfold f_X8_secondsOf
  refine Ep_ck ?_
  refine Ep_lt (fun y2 ey2 => ?_)
  refine Ep_any (fun r3 => ?_)
  exact uL_X8_secondsOf_L23 x1 x2 y2 0 r3 S L hS hL
set_option maxHeartbeats 1000000 in
set_option maxRecDepth 100000 in
theorem uJ_X8_outs_J117 {v63 : Int64} (k9 : Int32 → Int32 → Tr → Lo → Option (Tr × Lo)) (k32 : Int32 → Int32 → Tr → Lo → Option (Tr × Lo)) (x1 : Int32) (x3 : Int32) (x4 : Int32) (x5 : Int32) (s0 : Int32) (S : Tr) (L : Lo) (hS : S 0 65 = 0) (hL : L 0 63 = v63) (hk9 : ∀ (x2 : Int32) (x3 : Int32) (S : Tr) (L : Lo), S 0 65 = 0 → L 0 63 = v63 → Ep (k9 x2 x3 S L) (fun q => (q.1 0 65 = 0) ∧ (q.2 0 63 = v63))) (hk32 : ∀ (x2 : Int32) (x4 : Int32) (S : Tr) (L : Lo), S 0 65 = 0 → L 0 63 = v63 → Ep (k32 x2 x4 S L) (fun q => (q.1 0 65 = 0) ∧ (q.2 0 63 = v63))) : Ep (fJ_X8_outs_J117 k9 k32 x1 x3 x4 x5 s0 S L) (fun q => (q.1 0 65 = 0) ∧ (q.2 0 63 = v63)) := by
  unfold fJ_X8_outs_J117
  refine Ep_ite (fun _ => ?_) (fun _ => ?_)
  · refine Ep_lt (fun y56 ey56 => ?_)
    exact hk32 s0 y56 S L hS hL
  · refine Ep_lt (fun S_44 eS_44 => ?_)
    have hS_44 : S_44 0 65 = 0 := by rw [eS_44]; exact s65_s hS (by omega)
    refine Ep_ck ?_
    refine Ep_lt (fun S_46 eS_46 => ?_)
    have hS_46 : S_46 0 65 = 0 := by rw [eS_46]; exact s65_s hS_44 (by omega)
    refine Ep_ck ?_
    refine Ep_any (fun r48 => ?_)
    refine Ep_lt (fun S_51 eS_51 => ?_)
    have hS_51 : S_51 0 65 = 0 := by rw [eS_51]; exact s65_s hS_46 (by omega)
    refine Ep_bd (u_X8_takes S_51 x1 x4 (2 : Int32) hS_51) (fun S_52 hS_52 => ?_)
    refine Ep_lt (fun y55 ey55 => ?_)
    exact hk32 s0 y55 S_52 L hS_52 hL
set_option maxHeartbeats 1000000 in
set_option maxRecDepth 100000 in
theorem uJ_X8_outs_J116 {v63 : Int64} (k9 : Int32 → Int32 → Tr → Lo → Option (Tr × Lo)) (k32 : Int32 → Int32 → Tr → Lo → Option (Tr × Lo)) (x1 : Int32) (x3 : Int32) (x4 : Int32) (x5 : Int32) (S : Tr) (L : Lo) (hS : S 0 65 = 0) (hL : L 0 63 = v63) (hk9 : ∀ (x2 : Int32) (x3 : Int32) (S : Tr) (L : Lo), S 0 65 = 0 → L 0 63 = v63 → Ep (k9 x2 x3 S L) (fun q => (q.1 0 65 = 0) ∧ (q.2 0 63 = v63))) (hk32 : ∀ (x2 : Int32) (x4 : Int32) (S : Tr) (L : Lo), S 0 65 = 0 → L 0 63 = v63 → Ep (k32 x2 x4 S L) (fun q => (q.1 0 65 = 0) ∧ (q.2 0 63 = v63))) : Ep (fJ_X8_outs_J116 k9 k32 x1 x3 x4 x5 S L) (fun q => (q.1 0 65 = 0) ∧ (q.2 0 63 = v63)) := by
  unfold fJ_X8_outs_J116
  exact uJ_X8_outs_J117 k9 k32 x1 x3 x4 x5 0 S L hS hL hk9 hk32
set_option maxHeartbeats 1000000 in
set_option maxRecDepth 100000 in
theorem uJ_X8_outs_J112 {v63 : Int64} (k9 : Int32 → Int32 → Tr → Lo → Option (Tr × Lo)) (k32 : Int32 → Int32 → Tr → Lo → Option (Tr × Lo)) (x1 : Int32) (x3 : Int32) (x4 : Int32) (x5 : Int32) (S : Tr) (L : Lo) (hS : S 0 65 = 0) (hL : L 0 63 = v63) (hk9 : ∀ (x2 : Int32) (x3 : Int32) (S : Tr) (L : Lo), S 0 65 = 0 → L 0 63 = v63 → Ep (k9 x2 x3 S L) (fun q => (q.1 0 65 = 0) ∧ (q.2 0 63 = v63))) (hk32 : ∀ (x2 : Int32) (x4 : Int32) (S : Tr) (L : Lo), S 0 65 = 0 → L 0 63 = v63 → Ep (k32 x2 x4 S L) (fun q => (q.1 0 65 = 0) ∧ (q.2 0 63 = v63))) : Ep (fJ_X8_outs_J112 k9 k32 x1 x3 x4 x5 S L) (fun q => (q.1 0 65 = 0) ∧ (q.2 0 63 = v63)) := by
  unfold fJ_X8_outs_J112
  exact uJ_X8_outs_J117 k9 k32 x1 x3 x4 x5 1 S L hS hL hk9 hk32
set_option maxHeartbeats 1000000 in
set_option maxRecDepth 100000 in
theorem uB_X8_outs_L32 {v63 : Int64} (k9 : Int32 → Int32 → Tr → Lo → Option (Tr × Lo)) (x1 : Int32) (x3 : Int32)  (hk9 : ∀ (x2 : Int32) (x3 : Int32) (S : Tr) (L : Lo), S 0 65 = 0 → L 0 63 = v63 → Ep (k9 x2 x3 S L) (fun q => (q.1 0 65 = 0) ∧ (q.2 0 63 = v63))) (N : Nat) : ∀ (x2 : Int32) (x4 : Int32) (S : Tr) (L : Lo), S 0 65 = 0 → L 0 63 = v63 → Ep (lpF (fun _ _ _ _ => none) (fB_X8_outs_L32 k9 x1 x3) N x2 x4 S L) (fun q => (q.1 0 65 = 0) ∧ (q.2 0 63 = v63)) := by
  induction N with
  | zero => intro x2 x4 S L _ _; exact Ep_none
  | succ N ih =>
    intro x2 x4 S L hS hL
    show Ep (fB_X8_outs_L32 k9 x1 x3 (lpF (fun _ _ _ _ => none) (fB_X8_outs_L32 k9 x1 x3) N) x2 x4 S L) _
    have hk32 := ih
    clear ih
    generalize lpF (fun _ _ _ _ => none) (fB_X8_outs_L32 k9 x1 x3) N = k32 at hk32 ⊢
    unfold fB_X8_outs_L32
    refine Ep_ite (fun _ => ?_) (fun _ => ?_)
    · exact uJ_X8_outs_J182 k9 x1 x2 x3 S L hS hL hk9
    · refine Ep_ck ?_
      refine Ep_ite (fun _ => ?_) (fun _ => ?_)
      · refine Ep_ck ?_
        refine Ep_ite (fun _ => ?_) (fun _ => ?_)
        · refine Ep_bd (u_X8_secondsOf S L x1 x4 hS hL) (fun q hq => ?_)
          refine Ep_lt (fun r37 er37 => ?_)
          refine Ep_lt (fun S_38 eS_38 => ?_)
          have hS_38 : S_38 0 65 = 0 := by rw [eS_38]; exact hq.1
          refine Ep_lt (fun L_39 eL_39 => ?_)
          have hL_39 : L_39 0 63 = v63 := by rw [eL_39]; exact hq.2
          refine Ep_ite (fun _ => ?_) (fun _ => ?_)
          · exact uJ_X8_outs_J116 k9 k32 x1 x3 x4 r37 S_38 L_39 hS_38 hL_39 hk9 hk32
          · refine Ep_ite (fun _ => ?_) (fun _ => ?_)
            · refine Ep_ck ?_
              refine Ep_ck ?_
              refine Ep_ite (fun _ => ?_) (fun _ => ?_)
              · exact uJ_X8_outs_J116 k9 k32 x1 x3 x4 r37 S_38 L_39 hS_38 hL_39 hk9 hk32
              · exact uJ_X8_outs_J112 k9 k32 x1 x3 x4 r37 S_38 L_39 hS_38 hL_39 hk9 hk32
            · exact uJ_X8_outs_J112 k9 k32 x1 x3 x4 r37 S_38 L_39 hS_38 hL_39 hk9 hk32
        · refine Ep_lt (fun y61 ey61 => ?_)
          exact hk32 x2 y61 S L hS hL
      · refine Ep_lt (fun y34 ey34 => ?_)
        exact hk32 x2 y34 S L hS hL
set_option maxHeartbeats 1000000 in
set_option maxRecDepth 100000 in
theorem uL_X8_outs_L32 {v63 : Int64} (k9 : Int32 → Int32 → Tr → Lo → Option (Tr × Lo)) (x1 : Int32) (x3 : Int32)  (hk9 : ∀ (x2 : Int32) (x3 : Int32) (S : Tr) (L : Lo), S 0 65 = 0 → L 0 63 = v63 → Ep (k9 x2 x3 S L) (fun q => (q.1 0 65 = 0) ∧ (q.2 0 63 = v63))) (x2 : Int32) (x4 : Int32) (S : Tr) (L : Lo) (hS : S 0 65 = 0) (hL : L 0 63 = v63) : Ep (fL_X8_outs_L32 k9 x1 x3 x2 x4 S L) (fun q => (q.1 0 65 = 0) ∧ (q.2 0 63 = v63)) := by
  unfold fL_X8_outs_L32
  exact uB_X8_outs_L32 k9 x1 x3 hk9 2000 x2 x4 S L hS hL
set_option maxHeartbeats 1000000 in
set_option maxRecDepth 100000 in
theorem uB_X8_outs_L9 {v63 : Int64} (x1 : Int32)   (N : Nat) : ∀ (x2 : Int32) (x3 : Int32) (S : Tr) (L : Lo), S 0 65 = 0 → L 0 63 = v63 → Ep (lpF (fun _ _ _ _ => none) (fB_X8_outs_L9 x1) N x2 x3 S L) (fun q => (q.1 0 65 = 0) ∧ (q.2 0 63 = v63)) := by
  induction N with
  | zero => intro x2 x3 S L _ _; exact Ep_none
  | succ N ih =>
    intro x2 x3 S L hS hL
    show Ep (fB_X8_outs_L9 x1 (lpF (fun _ _ _ _ => none) (fB_X8_outs_L9 x1) N) x2 x3 S L) _
    have hk9 := ih
    clear ih
    generalize lpF (fun _ _ _ _ => none) (fB_X8_outs_L9 x1) N = k9 at hk9 ⊢
    unfold fB_X8_outs_L9
    refine Ep_ite (fun _ => ?_) (fun _ => ?_)
    · exact uJ_X8_outs_J209 x1 S L hS hL
    · refine Ep_any (fun r19 => ?_)
      refine Ep_ite (fun _ => ?_) (fun _ => ?_)
      · refine Ep_lt (fun y62 ey62 => ?_)
        exact hk9 x2 y62 S L hS hL
      · exact uL_X8_outs_L32 k9 x1 x3 hk9 x2 0 S L hS hL
set_option maxHeartbeats 1000000 in
set_option maxRecDepth 100000 in
theorem uL_X8_outs_L9 {v63 : Int64} (x1 : Int32)   (x2 : Int32) (x3 : Int32) (S : Tr) (L : Lo) (hS : S 0 65 = 0) (hL : L 0 63 = v63) : Ep (fL_X8_outs_L9 x1 x2 x3 S L) (fun q => (q.1 0 65 = 0) ∧ (q.2 0 63 = v63)) := by
  unfold fL_X8_outs_L9
  exact uB_X8_outs_L9 x1 2000 x2 x3 S L hS hL
set_option maxHeartbeats 1000000 in
set_option maxRecDepth 100000 in
theorem u_X8_outs {v63 : Int64} (S : Tr) (L : Lo) (x1 : Int32) (hS : S 0 65 = 0) (hL : L 0 63 = v63)  : Ep (f_X8_outs S L x1) (fun q => (q.1 0 65 = 0) ∧ (q.2 0 63 = v63)) := by
  unfold f_X8_outs
  refine Ep_lt (fun S_1 eS_1 => ?_)
  have hS_1 : S_1 0 65 = 0 := by rw [eS_1]; exact s65_s hS (by omega)
  exact uL_X8_outs_L9 x1 1 0 S_1 L hS_1 hL
set_option maxHeartbeats 1000000 in
set_option maxRecDepth 100000 in
theorem uJ_X8_ins_J185 (k146 : Int32 → Tr → Option (Tr)) (x1 : Int32) (x2 : Int32) (s0 : Int32) (s1 : Int32) (s2 : Int32) (S : Tr) (hS : S 0 65 = 0) (hk146 : ∀ (x2 : Int32) (S : Tr), S 0 65 = 0 → Ep (k146 x2 S) (fun q => (q 0 65 = 0))) : Ep (fJ_X8_ins_J185 k146 x1 x2 s0 s1 s2 S) (fun q => (q 0 65 = 0)) := by
  unfold fJ_X8_ins_J185
  refine Ep_ck ?_
  refine Ep_lt (fun S_7 eS_7 => ?_)
  have hS_7 : S_7 0 65 = 0 := by rw [eS_7]; exact s65_s hS (by omega)
  refine Ep_lt (fun y8 ey8 => ?_)
  exact hk146 y8 S_7 hS_7
set_option maxHeartbeats 1000000 in
set_option maxRecDepth 100000 in
theorem uB_X8_ins_L146 (x1 : Int32)   (N : Nat) : ∀ (x2 : Int32) (S : Tr), S 0 65 = 0 → Ep (lpF (fun _ _ => none) (fB_X8_ins_L146 x1) N x2 S) (fun q => (q 0 65 = 0)) := by
  induction N with
  | zero => intro x2 S _; exact Ep_none
  | succ N ih =>
    intro x2 S hS
    show Ep (fB_X8_ins_L146 x1 (lpF (fun _ _ => none) (fB_X8_ins_L146 x1) N) x2 S) _
    have hk146 := ih
    clear ih
    generalize lpF (fun _ _ => none) (fB_X8_ins_L146 x1) N = k146 at hk146 ⊢
    unfold fB_X8_ins_L146
    refine Ep_ite (fun _ => ?_) (fun _ => ?_)
    · exact Ep_some hS
    · refine Ep_ck ?_
      refine Ep_ck ?_
      refine Ep_ite (fun _ => ?_) (fun _ => ?_)
      · refine Ep_ck ?_
        exact uJ_X8_ins_J185 k146 x1 x2 (S 56 (((5 : Int32) * x1) + x2).toNatClampNeg) (S 63 x1.toNatClampNeg) x1 S hS hk146
      · exact uJ_X8_ins_J185 k146 x1 x2 0 (S 63 x1.toNatClampNeg) x1 S hS hk146
set_option maxHeartbeats 1000000 in
set_option maxRecDepth 100000 in
theorem uL_X8_ins_L146 (x1 : Int32)   (x2 : Int32) (S : Tr) (hS : S 0 65 = 0) : Ep (fL_X8_ins_L146 x1 x2 S) (fun q => (q 0 65 = 0)) := by
  unfold fL_X8_ins_L146
  exact uB_X8_ins_L146 x1 2000 x2 S hS
set_option maxHeartbeats 1000000 in
set_option maxRecDepth 100000 in
theorem u_X8_lays (S : Tr) (x1 : Int32) (x2 : Int32) (x3 : Int32) (hS : S 0 65 = 0)  : Ep (f_X8_lays S x1 x2 x3) (fun q => (q 0 65 = 0)) := by
  unfold f_X8_lays
  refine Ep_ck ?_
  refine Ep_ck ?_
  refine Ep_lt (fun S_3 eS_3 => ?_)
  have hS_3 : S_3 0 65 = 0 := by rw [eS_3]; exact s65_s hS (by omega)
  refine Ep_lt (fun S_4 eS_4 => ?_)
  have hS_4 : S_4 0 65 = 0 := by rw [eS_4]; exact s65_s hS_3 (by omega)
  refine Ep_ck ?_
  refine Ep_lt (fun S_6 eS_6 => ?_)
  have hS_6 : S_6 0 65 = 0 := by rw [eS_6]; exact s65_s hS_4 (by omega)
  refine Ep_lt (fun S_7 eS_7 => ?_)
  have hS_7 : S_7 0 65 = 0 := by rw [eS_7]; exact s65_s hS_6 (by omega)
  exact Ep_some hS_7
set_option maxHeartbeats 1000000 in
set_option maxRecDepth 100000 in
theorem uB_X8_ins_L61 (k2 : Int32 → Tr → Option (Tr)) (x1 : Int32) (x2 : Int32)  (hk2 : ∀ (x2 : Int32) (S : Tr), S 0 65 = 0 → Ep (k2 x2 S) (fun q => (q 0 65 = 0))) (N : Nat) : ∀ (x3 : Int32) (S : Tr), S 0 65 = 0 → Ep (lpF (fun _ _ => none) (fB_X8_ins_L61 k2 x1 x2) N x3 S) (fun q => (q 0 65 = 0)) := by
  induction N with
  | zero => intro x3 S _; exact Ep_none
  | succ N ih =>
    intro x3 S hS
    show Ep (fB_X8_ins_L61 k2 x1 x2 (lpF (fun _ _ => none) (fB_X8_ins_L61 k2 x1 x2) N) x3 S) _
    have hk61 := ih
    clear ih
    generalize lpF (fun _ _ => none) (fB_X8_ins_L61 k2 x1 x2) N = k61 at hk61 ⊢
    unfold fB_X8_ins_L61
    refine Ep_ite (fun _ => ?_) (fun _ => ?_)
    · refine Ep_lt (fun y17 ey17 => ?_)
      exact hk2 y17 S hS
    · refine Ep_ck ?_
      refine Ep_ite (fun _ => ?_) (fun _ => ?_)
      · refine Ep_ck ?_
        refine Ep_ite (fun _ => ?_) (fun _ => ?_)
        · refine Ep_any (fun r23 => ?_)
          refine Ep_ite (fun _ => ?_) (fun _ => ?_)
          · refine Ep_bd (u_X8_lays S x1 r23 x3 hS) (fun S_27 hS_27 => ?_)
            refine Ep_lt (fun y30 ey30 => ?_)
            exact hk61 y30 S_27 hS_27
          · refine Ep_lt (fun S_31 eS_31 => ?_)
            have hS_31 : S_31 0 65 = 0 := by rw [eS_31]; exact s65_s hS (by omega)
            refine Ep_lt (fun y32 ey32 => ?_)
            exact hk61 y32 S_31 hS_31
        · refine Ep_lt (fun y33 ey33 => ?_)
          exact hk61 y33 S hS
      · refine Ep_lt (fun y20 ey20 => ?_)
        exact hk61 y20 S hS
set_option maxHeartbeats 1000000 in
set_option maxRecDepth 100000 in
theorem uL_X8_ins_L61 (k2 : Int32 → Tr → Option (Tr)) (x1 : Int32) (x2 : Int32)  (hk2 : ∀ (x2 : Int32) (S : Tr), S 0 65 = 0 → Ep (k2 x2 S) (fun q => (q 0 65 = 0))) (x3 : Int32) (S : Tr) (hS : S 0 65 = 0) : Ep (fL_X8_ins_L61 k2 x1 x2 x3 S) (fun q => (q 0 65 = 0)) := by
  unfold fL_X8_ins_L61
  exact uB_X8_ins_L61 k2 x1 x2 hk2 2000 x3 S hS
set_option maxHeartbeats 1000000 in
set_option maxRecDepth 100000 in
theorem uB_X8_ins_L2 (x1 : Int32)   (N : Nat) : ∀ (x2 : Int32) (S : Tr), S 0 65 = 0 → Ep (lpF (fun _ _ => none) (fB_X8_ins_L2 x1) N x2 S) (fun q => (q 0 65 = 0)) := by
  induction N with
  | zero => intro x2 S _; exact Ep_none
  | succ N ih =>
    intro x2 S hS
    show Ep (fB_X8_ins_L2 x1 (lpF (fun _ _ => none) (fB_X8_ins_L2 x1) N) x2 S) _
    have hk2 := ih
    clear ih
    generalize lpF (fun _ _ => none) (fB_X8_ins_L2 x1) N = k2 at hk2 ⊢
    unfold fB_X8_ins_L2
    refine Ep_ite (fun _ => ?_) (fun _ => ?_)
    · exact uL_X8_ins_L146 x1 0 S hS
    · refine Ep_ck ?_
      refine Ep_ck ?_
      refine Ep_ite (fun _ => ?_) (fun _ => ?_)
      · refine Ep_ite (fun _ => ?_) (fun _ => ?_)
        · refine Ep_lt (fun S_15 eS_15 => ?_)
          have hS_15 : S_15 0 65 = 0 := by rw [eS_15]; exact s65_s hS (by omega)
          exact uL_X8_ins_L61 k2 x1 x2 hk2 0 S_15 hS_15
        · refine Ep_lt (fun y34 ey34 => ?_)
          exact hk2 y34 S hS
      · refine Ep_lt (fun y13 ey13 => ?_)
        exact hk2 y13 S hS
set_option maxHeartbeats 1000000 in
set_option maxRecDepth 100000 in
theorem uL_X8_ins_L2 (x1 : Int32)   (x2 : Int32) (S : Tr) (hS : S 0 65 = 0) : Ep (fL_X8_ins_L2 x1 x2 S) (fun q => (q 0 65 = 0)) := by
  unfold fL_X8_ins_L2
  exact uB_X8_ins_L2 x1 2000 x2 S hS
set_option maxHeartbeats 1000000 in
set_option maxRecDepth 100000 in
theorem u_X8_ins (S : Tr) (x1 : Int32) (hS : S 0 65 = 0)  : Ep (f_X8_ins S x1) (fun q => (q 0 65 = 0)) := by
  unfold f_X8_ins
  exact uL_X8_ins_L2 x1 0 S hS
set_option maxHeartbeats 1000000 in
set_option maxRecDepth 100000 in
theorem uJ_X8_goOn_J26 {v63 : Int64} (x1 : Int32) (S : Tr) (L : Lo) (hS : S 0 65 = 0) (hL : L 0 63 = v63)  : Ep (fJ_X8_goOn_J26 x1 S L) (fun q => (q.1 0 65 = 0) ∧ (q.2 0 63 = v63)) := by
  unfold fJ_X8_goOn_J26
  refine Ep_ck ?_
  refine Ep_lt (fun S_11 eS_11 => ?_)
  have hS_11 : S_11 0 65 = 0 := by rw [eS_11]; exact s65_s hS (by omega)
  exact Ep_some ⟨hS_11, hL⟩
set_option maxHeartbeats 1000000 in
set_option maxRecDepth 100000 in
theorem uB_X8_onTheWay_L90 {v63 : Int64} (x1 : Int32)   (N : Nat) : ∀ (x2 : Int32) (S : Tr) (L : Lo), S 0 65 = 0 → L 0 63 = v63 → Ep (lpF (fun _ _ _ => none) (fB_X8_onTheWay_L90 x1) N x2 S L) (fun q => (q.1 0 65 = 0) ∧ (q.2 0 63 = v63)) := by
  induction N with
  | zero => intro x2 S L _ _; exact Ep_none
  | succ N ih =>
    intro x2 S L hS hL
    show Ep (fB_X8_onTheWay_L90 x1 (lpF (fun _ _ _ => none) (fB_X8_onTheWay_L90 x1) N) x2 S L) _
    have hk90 := ih
    clear ih
    generalize lpF (fun _ _ _ => none) (fB_X8_onTheWay_L90 x1) N = k90 at hk90 ⊢
    unfold fB_X8_onTheWay_L90
    refine Ep_ite (fun _ => ?_) (fun _ => ?_)
    · exact Ep_some ⟨hS, hL⟩
    · refine Ep_ite (fun _ => ?_) (fun _ => ?_)
      · refine Ep_ck ?_
        refine Ep_ite (fun _ => ?_) (fun _ => ?_)
        · refine Ep_ck ?_
          refine Ep_ite (fun _ => ?_) (fun _ => ?_)
          · refine Ep_ck ?_
            refine Ep_bd (u_X8_layNames S L x1 x2 (S 30 x2.toNatClampNeg) hS hL) (fun L_10 hL_10 => ?_)
            refine Ep_bd (u_X8_boundLaw S L_10 (2 : Int32) (10 : Int32) (100 : Int32) hS hL_10) (fun q hq => ?_)
            refine Ep_lt (fun r13 er13 => ?_)
            refine Ep_lt (fun S_14 eS_14 => ?_)
            have hS_14 : S_14 0 65 = 0 := by rw [eS_14]; exact hq.1
            refine Ep_lt (fun L_15 eL_15 => ?_)
            have hL_15 : L_15 0 63 = v63 := by rw [eL_15]; exact hq.2
            refine Ep_bd (u_isDrawn S_14 L_15 r13 hS_14 hL_15) (fun q hq => ?_)
            refine Ep_lt (fun r18 er18 => ?_)
            refine Ep_lt (fun L_19 eL_19 => ?_)
            have hL_19 : L_19 0 63 = v63 := by rw [eL_19]; exact hq
            refine Ep_ite (fun _ => ?_) (fun _ => ?_)
            · refine Ep_lt (fun y23 ey23 => ?_)
              exact hk90 y23 S_14 L_19 hS_14 hL_19
            · refine Ep_bd (u_X8_takes S_14 x1 x2 (4 : Int32) hS_14) (fun S_24 hS_24 => ?_)
              refine Ep_lt (fun y27 ey27 => ?_)
              exact hk90 y27 S_24 L_19 hS_24 hL_19
          · refine Ep_lt (fun y28 ey28 => ?_)
            exact hk90 y28 S L hS hL
        · refine Ep_lt (fun y6 ey6 => ?_)
          exact hk90 y6 S L hS hL
      · exact Ep_some ⟨hS, hL⟩
set_option maxHeartbeats 1000000 in
set_option maxRecDepth 100000 in
theorem uL_X8_onTheWay_L90 {v63 : Int64} (x1 : Int32)   (x2 : Int32) (S : Tr) (L : Lo) (hS : S 0 65 = 0) (hL : L 0 63 = v63) : Ep (fL_X8_onTheWay_L90 x1 x2 S L) (fun q => (q.1 0 65 = 0) ∧ (q.2 0 63 = v63)) := by
  unfold fL_X8_onTheWay_L90
  exact uB_X8_onTheWay_L90 x1 2000 x2 S L hS hL
set_option maxHeartbeats 1000000 in
set_option maxRecDepth 100000 in
theorem uJ_X8_fallOf_J58 {v63 : Int64} (s0 : Int32) (s1 : Int32) (S : Tr) (L : Lo) (hS : S 0 65 = 0) (hL : L 0 63 = v63)  : Ep (fJ_X8_fallOf_J58 s0 s1 S L) (fun q => (q.2.1 0 65 = 0) ∧ (q.2.2 0 63 = v63)) := by
  unfold fJ_X8_fallOf_J58
  refine Ep_bd (u_X8_boundLaw S L s1 s0 (100 : Int32) hS hL) (fun q hq => ?_)
  refine Ep_lt (fun r11 er11 => ?_)
  refine Ep_lt (fun S_12 eS_12 => ?_)
  have hS_12 : S_12 0 65 = 0 := by rw [eS_12]; exact hq.1
  refine Ep_lt (fun L_13 eL_13 => ?_)
  have hL_13 : L_13 0 63 = v63 := by rw [eL_13]; exact hq.2
  exact Ep_some ⟨hS_12, hL_13⟩
set_option maxHeartbeats 1000000 in
set_option maxRecDepth 100000 in
theorem uJ_X8_fallOf_J17 {v63 : Int64} (x1 : Int32) (x2 : Int32) (s0 : Int32) (S : Tr) (L : Lo) (hS : S 0 65 = 0) (hL : L 0 63 = v63)  : Ep (fJ_X8_fallOf_J17 x1 x2 s0 S L) (fun q => (q.2.1 0 65 = 0) ∧ (q.2.2 0 63 = v63)) := by
  unfold fJ_X8_fallOf_J17
  refine Ep_any (fun r2 => ?_)
  refine Ep_ck ?_
  refine Ep_lt (fun y6 ey6 => ?_)
  refine Ep_bd (u_X8_layNames S L x1 x2 (S 30 x2.toNatClampNeg) hS hL) (fun L_7 hL_7 => ?_)
  refine Ep_ite (fun _ => ?_) (fun _ => ?_)
  · exact uJ_X8_fallOf_J58 y6 1 S L_7 hS hL_7
  · exact uJ_X8_fallOf_J58 0 1 S L_7 hS hL_7
set_option maxHeartbeats 1000000 in
set_option maxRecDepth 100000 in
theorem u_X8_fallOf {v63 : Int64} (S : Tr) (L : Lo) (x1 : Int32) (x2 : Int32) (hS : S 0 65 = 0) (hL : L 0 63 = v63)  : Ep (f_X8_fallOf S L x1 x2) (fun q => (q.2.1 0 65 = 0) ∧ (q.2.2 0 63 = v63)) := by
  unfold f_X8_fallOf
  refine Ep_ite (fun _ => ?_) (fun _ => ?_)
  · exact uJ_X8_fallOf_J17 x1 x2 (S 23 1) S L hS hL
  · exact uJ_X8_fallOf_J17 x1 x2 0 S L hS hL
set_option maxHeartbeats 1000000 in
set_option maxRecDepth 100000 in
theorem uB_X8_onTheWay_L2 {v63 : Int64} (x1 : Int32)   (N : Nat) : ∀ (x2 : Int32) (S : Tr) (L : Lo), S 0 65 = 0 → L 0 63 = v63 → Ep (lpF (fun _ _ _ => none) (fB_X8_onTheWay_L2 x1) N x2 S L) (fun q => (q.1 0 65 = 0) ∧ (q.2 0 63 = v63)) := by
  induction N with
  | zero => intro x2 S L _ _; exact Ep_none
  | succ N ih =>
    intro x2 S L hS hL
    show Ep (fB_X8_onTheWay_L2 x1 (lpF (fun _ _ _ => none) (fB_X8_onTheWay_L2 x1) N) x2 S L) _
    have hk2 := ih
    clear ih
    generalize lpF (fun _ _ _ => none) (fB_X8_onTheWay_L2 x1) N = k2 at hk2 ⊢
    unfold fB_X8_onTheWay_L2
    refine Ep_ite (fun _ => ?_) (fun _ => ?_)
    · exact uL_X8_onTheWay_L90 x1 0 S L hS hL
    · refine Ep_ite (fun _ => ?_) (fun _ => ?_)
      · refine Ep_ck ?_
        refine Ep_ite (fun _ => ?_) (fun _ => ?_)
        · refine Ep_lt (fun y32 ey32 => ?_)
          exact hk2 y32 S L hS hL
        · refine Ep_ck ?_
          refine Ep_ite (fun _ => ?_) (fun _ => ?_)
          · refine Ep_lt (fun y53 ey53 => ?_)
            exact hk2 y53 S L hS hL
          · refine Ep_any (fun r35 => ?_)
            refine Ep_bd (u_X8_fallOf S L x1 r35 hS hL) (fun q hq => ?_)
            refine Ep_lt (fun r38 er38 => ?_)
            refine Ep_lt (fun S_39 eS_39 => ?_)
            have hS_39 : S_39 0 65 = 0 := by rw [eS_39]; exact hq.1
            refine Ep_lt (fun L_40 eL_40 => ?_)
            have hL_40 : L_40 0 63 = v63 := by rw [eL_40]; exact hq.2
            refine Ep_bd (u_isDrawn S_39 L_40 r38 hS_39 hL_40) (fun q hq => ?_)
            refine Ep_lt (fun r43 er43 => ?_)
            refine Ep_lt (fun L_44 eL_44 => ?_)
            have hL_44 : L_44 0 63 = v63 := by rw [eL_44]; exact hq
            refine Ep_ite (fun _ => ?_) (fun _ => ?_)
            · refine Ep_lt (fun y48 ey48 => ?_)
              exact hk2 y48 S_39 L_44 hS_39 hL_44
            · refine Ep_bd (u_X8_takes S_39 x1 r35 (3 : Int32) hS_39) (fun S_49 hS_49 => ?_)
              refine Ep_lt (fun y52 ey52 => ?_)
              exact hk2 y52 S_49 L_44 hS_49 hL_44
      · exact uL_X8_onTheWay_L90 x1 0 S L hS hL
set_option maxHeartbeats 1000000 in
set_option maxRecDepth 100000 in
theorem uL_X8_onTheWay_L2 {v63 : Int64} (x1 : Int32)   (x2 : Int32) (S : Tr) (L : Lo) (hS : S 0 65 = 0) (hL : L 0 63 = v63) : Ep (fL_X8_onTheWay_L2 x1 x2 S L) (fun q => (q.1 0 65 = 0) ∧ (q.2 0 63 = v63)) := by
  unfold fL_X8_onTheWay_L2
  exact uB_X8_onTheWay_L2 x1 2000 x2 S L hS hL
set_option maxHeartbeats 1000000 in
set_option maxRecDepth 100000 in
theorem u_X8_onTheWay {v63 : Int64} (S : Tr) (L : Lo) (x1 : Int32) (hS : S 0 65 = 0) (hL : L 0 63 = v63)  : Ep (f_X8_onTheWay S L x1) (fun q => (q.1 0 65 = 0) ∧ (q.2 0 63 = v63)) := by
  unfold f_X8_onTheWay
  exact uL_X8_onTheWay_L2 x1 0 S L hS hL
set_option maxHeartbeats 1000000 in
set_option maxRecDepth 100000 in
theorem u_X8_goOn {v63 : Int64} (S : Tr) (L : Lo) (x1 : Int32) (hS : S 0 65 = 0) (hL : L 0 63 = v63)  : Ep (f_X8_goOn S L x1) (fun q => (q.1 0 65 = 0) ∧ (q.2 0 63 = v63)) := by
  unfold f_X8_goOn
  refine Ep_bd (u_X8_outs S L x1 hS hL) (fun q hq => ?_)
  refine Ep_lt (fun S_1 eS_1 => ?_)
  have hS_1 : S_1 0 65 = 0 := by rw [eS_1]; exact hq.1
  refine Ep_lt (fun L_2 eL_2 => ?_)
  have hL_2 : L_2 0 63 = v63 := by rw [eL_2]; exact hq.2
  refine Ep_bd (u_X8_ins S_1 x1 hS_1) (fun S_5 hS_5 => ?_)
  refine Ep_ck ?_
  refine Ep_ite (fun _ => ?_) (fun _ => ?_)
  · exact uJ_X8_goOn_J26 x1 S_5 L_2 hS_5 hL_2
  · refine Ep_bd (u_X8_onTheWay S_5 L_2 x1 hS_5 hL_2) (fun q hq => ?_)
    refine Ep_lt (fun S_12 eS_12 => ?_)
    have hS_12 : S_12 0 65 = 0 := by rw [eS_12]; exact hq.1
    refine Ep_lt (fun L_13 eL_13 => ?_)
    have hL_13 : L_13 0 63 = v63 := by rw [eL_13]; exact hq.2
    exact uJ_X8_goOn_J26 x1 S_12 L_13 hS_12 hL_13
set_option maxHeartbeats 1000000 in
set_option maxRecDepth 100000 in
theorem uB_X8_toEnd_L0 {v63 : Int64}    (N : Nat) : ∀ (S : Tr) (L : Lo), S 0 65 = 0 → L 0 63 = v63 → Ep (lpF (fun _ _ => none) (fB_X8_toEnd_L0) N S L) (fun q => (q.1 0 65 = 0) ∧ (q.2 0 63 = v63)) := by
  induction N with
  | zero => intro S L _ _; exact Ep_none
  | succ N ih =>
    intro S L hS hL
    show Ep (fB_X8_toEnd_L0 (lpF (fun _ _ => none) (fB_X8_toEnd_L0) N) S L) _
    have hk0 := ih
    clear ih
    generalize lpF (fun _ _ => none) (fB_X8_toEnd_L0) N = k0 at hk0 ⊢
    unfold fB_X8_toEnd_L0
    refine Ep_ite (fun _ => ?_) (fun _ => ?_)
    · exact Ep_some ⟨hS, hL⟩
    · refine Ep_bd (u_X8_goOn S L (1 : Int32) hS hL) (fun q hq => ?_)
      refine Ep_lt (fun S_2 eS_2 => ?_)
      have hS_2 : S_2 0 65 = 0 := by rw [eS_2]; exact hq.1
      refine Ep_lt (fun L_3 eL_3 => ?_)
      have hL_3 : L_3 0 63 = v63 := by rw [eL_3]; exact hq.2
      exact hk0 S_2 L_3 hS_2 hL_3
set_option maxHeartbeats 1000000 in
set_option maxRecDepth 100000 in
theorem uL_X8_toEnd_L0 {v63 : Int64}    (S : Tr) (L : Lo) (hS : S 0 65 = 0) (hL : L 0 63 = v63) : Ep (fL_X8_toEnd_L0 S L) (fun q => (q.1 0 65 = 0) ∧ (q.2 0 63 = v63)) := by
  unfold fL_X8_toEnd_L0
  exact uB_X8_toEnd_L0 2000 S L hS hL
set_option maxHeartbeats 1000000 in
set_option maxRecDepth 100000 in
theorem u_X8_toEnd {v63 : Int64} (S : Tr) (L : Lo) (hS : S 0 65 = 0) (hL : L 0 63 = v63)  : Ep (f_X8_toEnd S L) (fun q => (q.1 0 65 = 0) ∧ (q.2 0 63 = v63)) := by
  unfold f_X8_toEnd
  exact uL_X8_toEnd_L0 S L hS hL
set_option maxHeartbeats 1000000 in
set_option maxRecDepth 100000 in
theorem uB_X8_least_L233 {v63 : Int64} (k79 : Int32 → Int32 → Tr → Lo → Option (Int32 × Tr × Lo)) (L : Lo) (x1 : Int32) (x2 : Int32) (x3 : Int32) (x4 : Int32) (hL : L 0 63 = v63) (hk79 : ∀ (x3 : Int32) (x4 : Int32) (S : Tr) (L : Lo), S 0 65 = 0 → L 0 63 = v63 → Ep (k79 x3 x4 S L) (fun q => (q.2.1 0 65 = 0) ∧ (q.2.2 0 63 = v63))) (N : Nat) : ∀ (x6 : Int32) (S : Tr), S 0 65 = 0 → Ep (lpF (fun _ _ => none) (fB_X8_least_L233 k79 L x1 x2 x3 x4) N x6 S) (fun q => (q.2.1 0 65 = 0) ∧ (q.2.2 0 63 = v63)) := by
  induction N with
  | zero => intro x6 S _; exact Ep_none
  | succ N ih =>
    intro x6 S hS
    show Ep (fB_X8_least_L233 k79 L x1 x2 x3 x4 (lpF (fun _ _ => none) (fB_X8_least_L233 k79 L x1 x2 x3 x4) N) x6 S) _
    have hk233 := ih
    clear ih
    generalize lpF (fun _ _ => none) (fB_X8_least_L233 k79 L x1 x2 x3 x4) N = k233 at hk233 ⊢
    unfold fB_X8_least_L233
    refine Ep_ite (fun _ => ?_) (fun _ => ?_)
    · refine Ep_lt (fun y35 ey35 => ?_)
      exact hk79 x3 y35 S L hS hL
    · refine Ep_any (fun r36 => ?_)
      refine Ep_ck ?_
      refine Ep_ck ?_
      refine Ep_ck ?_
      refine Ep_lt (fun S_42 eS_42 => ?_)
      have hS_42 : S_42 0 65 = 0 := by rw [eS_42]; exact s65_s hS (by omega)
      refine Ep_lt (fun y43 ey43 => ?_)
      exact hk233 y43 S_42 hS_42
set_option maxHeartbeats 1000000 in
set_option maxRecDepth 100000 in
theorem uL_X8_least_L233 {v63 : Int64} (k79 : Int32 → Int32 → Tr → Lo → Option (Int32 × Tr × Lo)) (L : Lo) (x1 : Int32) (x2 : Int32) (x3 : Int32) (x4 : Int32) (hL : L 0 63 = v63) (hk79 : ∀ (x3 : Int32) (x4 : Int32) (S : Tr) (L : Lo), S 0 65 = 0 → L 0 63 = v63 → Ep (k79 x3 x4 S L) (fun q => (q.2.1 0 65 = 0) ∧ (q.2.2 0 63 = v63))) (x6 : Int32) (S : Tr) (hS : S 0 65 = 0) : Ep (fL_X8_least_L233 k79 L x1 x2 x3 x4 x6 S) (fun q => (q.2.1 0 65 = 0) ∧ (q.2.2 0 63 = v63)) := by
  unfold fL_X8_least_L233
  exact uB_X8_least_L233 k79 L x1 x2 x3 x4 hL hk79 2000 x6 S hS
set_option maxHeartbeats 1000000 in
set_option maxRecDepth 100000 in
theorem uJ_X8_least_J225 {v63 : Int64} (k79 : Int32 → Int32 → Tr → Lo → Option (Int32 × Tr × Lo)) (x1 : Int32) (x2 : Int32) (x4 : Int32) (S : Tr) (L : Lo) (hS : S 0 65 = 0) (hL : L 0 63 = v63) (hk79 : ∀ (x3 : Int32) (x4 : Int32) (S : Tr) (L : Lo), S 0 65 = 0 → L 0 63 = v63 → Ep (k79 x3 x4 S L) (fun q => (q.2.1 0 65 = 0) ∧ (q.2.2 0 63 = v63))) : Ep (fJ_X8_least_J225 k79 x1 x2 x4 S L) (fun q => (q.2.1 0 65 = 0) ∧ (q.2.2 0 63 = v63)) := by
  unfold fJ_X8_least_J225
  refine Ep_any (fun r31 => ?_)
  exact uL_X8_least_L233 k79 L x1 x2 r31 x4 hL hk79 0 S hS
set_option maxHeartbeats 1000000 in
set_option maxRecDepth 100000 in
theorem uJ_X8_least_J198 {v63 : Int64} (k79 : Int32 → Int32 → Tr → Lo → Option (Int32 × Tr × Lo)) (x1 : Int32) (x2 : Int32) (x3 : Int32) (x4 : Int32) (x5 : Int32) (S : Tr) (L : Lo) (hS : S 0 65 = 0) (hL : L 0 63 = v63) (hk79 : ∀ (x3 : Int32) (x4 : Int32) (S : Tr) (L : Lo), S 0 65 = 0 → L 0 63 = v63 → Ep (k79 x3 x4 S L) (fun q => (q.2.1 0 65 = 0) ∧ (q.2.2 0 63 = v63))) : Ep (fJ_X8_least_J198 k79 x1 x2 x3 x4 x5 S L) (fun q => (q.2.1 0 65 = 0) ∧ (q.2.2 0 63 = v63)) := by
  unfold fJ_X8_least_J198
  refine Ep_ite (fun _ => ?_) (fun _ => ?_)
  · refine Ep_lt (fun y49 ey49 => ?_)
    exact hk79 x3 y49 S L hS hL
  · refine Ep_bd (u_X8_toEnd S L hS hL) (fun q hq => ?_)
    refine Ep_lt (fun S_26 eS_26 => ?_)
    have hS_26 : S_26 0 65 = 0 := by rw [eS_26]; exact hq.1
    refine Ep_lt (fun L_27 eL_27 => ?_)
    have hL_27 : L_27 0 63 = v63 := by rw [eL_27]; exact hq.2
    refine Ep_ite (fun _ => ?_) (fun _ => ?_)
    · exact uJ_X8_least_J225 k79 x1 x2 x4 S_26 L_27 hS_26 hL_27 hk79
    · refine Ep_any (fun r44 => ?_)
      refine Ep_ite (fun _ => ?_) (fun _ => ?_)
      · exact uJ_X8_least_J225 k79 x1 x2 x4 S_26 L_27 hS_26 hL_27 hk79
      · refine Ep_lt (fun y48 ey48 => ?_)
        exact hk79 x3 y48 S_26 L_27 hS_26 hL_27
set_option maxHeartbeats 1000000 in
set_option maxRecDepth 100000 in
theorem uB_X8_least_L155 {v63 : Int64} (k79 : Int32 → Int32 → Tr → Lo → Option (Int32 × Tr × Lo)) (S : Tr) (L : Lo) (x1 : Int32) (x2 : Int32) (x3 : Int32) (x4 : Int32) (hS : S 0 65 = 0) (hL : L 0 63 = v63) (hk79 : ∀ (x3 : Int32) (x4 : Int32) (S : Tr) (L : Lo), S 0 65 = 0 → L 0 63 = v63 → Ep (k79 x3 x4 S L) (fun q => (q.2.1 0 65 = 0) ∧ (q.2.2 0 63 = v63))) (N : Nat) : ∀ (x5 : Int32) (x6 : Int32), Ep (lpF (fun _ _ => none) (fB_X8_least_L155 k79 S L x1 x2 x3 x4) N x5 x6) (fun q => (q.2.1 0 65 = 0) ∧ (q.2.2 0 63 = v63)) := by
  induction N with
  | zero => intro x5 x6; exact Ep_none
  | succ N ih =>
    intro x5 x6
    show Ep (fB_X8_least_L155 k79 S L x1 x2 x3 x4 (lpF (fun _ _ => none) (fB_X8_least_L155 k79 S L x1 x2 x3 x4) N) x5 x6) _
    have hk155 := ih
    clear ih
    generalize lpF (fun _ _ => none) (fB_X8_least_L155 k79 S L x1 x2 x3 x4) N = k155 at hk155 ⊢
    unfold fB_X8_least_L155
    refine Ep_ite (fun _ => ?_) (fun _ => ?_)
    · exact uJ_X8_least_J198 k79 x1 x2 x3 x4 x5 S L hS hL hk79
    · refine Ep_ite (fun _ => ?_) (fun _ => ?_)
      · refine Ep_lt (fun y51 ey51 => ?_)
        exact hk155 0 y51
      · refine Ep_ck ?_
        refine Ep_ck ?_
        refine Ep_ite (fun _ => ?_) (fun _ => ?_)
        · refine Ep_lt (fun y55 ey55 => ?_)
          exact hk155 0 y55
        · refine Ep_lt (fun y56 ey56 => ?_)
          exact hk155 1 y56
set_option maxHeartbeats 1000000 in
set_option maxRecDepth 100000 in
theorem uL_X8_least_L155 {v63 : Int64} (k79 : Int32 → Int32 → Tr → Lo → Option (Int32 × Tr × Lo)) (S : Tr) (L : Lo) (x1 : Int32) (x2 : Int32) (x3 : Int32) (x4 : Int32) (hS : S 0 65 = 0) (hL : L 0 63 = v63) (hk79 : ∀ (x3 : Int32) (x4 : Int32) (S : Tr) (L : Lo), S 0 65 = 0 → L 0 63 = v63 → Ep (k79 x3 x4 S L) (fun q => (q.2.1 0 65 = 0) ∧ (q.2.2 0 63 = v63))) (x5 : Int32) (x6 : Int32)  : Ep (fL_X8_least_L155 k79 S L x1 x2 x3 x4 x5 x6) (fun q => (q.2.1 0 65 = 0) ∧ (q.2.2 0 63 = v63)) := by
  unfold fL_X8_least_L155
  exact uB_X8_least_L155 k79 S L x1 x2 x3 x4 hS hL hk79 2000 x5 x6
set_option maxHeartbeats 1000000 in
set_option maxRecDepth 100000 in
theorem uJ_X8_least_J144 {v63 : Int64} (k79 : Int32 → Int32 → Tr → Lo → Option (Int32 × Tr × Lo)) (x1 : Int32) (x2 : Int32) (x3 : Int32) (x4 : Int32) (S : Tr) (L : Lo) (hS : S 0 65 = 0) (hL : L 0 63 = v63) (hk79 : ∀ (x3 : Int32) (x4 : Int32) (S : Tr) (L : Lo), S 0 65 = 0 → L 0 63 = v63 → Ep (k79 x3 x4 S L) (fun q => (q.2.1 0 65 = 0) ∧ (q.2.2 0 63 = v63))) : Ep (fJ_X8_least_J144 k79 x1 x2 x3 x4 S L) (fun q => (q.2.1 0 65 = 0) ∧ (q.2.2 0 63 = v63)) := by
  unfold fJ_X8_least_J144
  refine Ep_bd (u_X8_goOn S L (1 : Int32) hS hL) (fun q hq => ?_)
  refine Ep_lt (fun S_20 eS_20 => ?_)
  have hS_20 : S_20 0 65 = 0 := by rw [eS_20]; exact hq.1
  refine Ep_lt (fun L_21 eL_21 => ?_)
  have hL_21 : L_21 0 63 = v63 := by rw [eL_21]; exact hq.2
  exact uL_X8_least_L155 k79 S_20 L_21 x1 x2 x3 x4 hS_20 hL_21 hk79 1 0
set_option maxHeartbeats 1000000 in
set_option maxRecDepth 100000 in
theorem uB_X8_least_L99 {v63 : Int64} (k79 : Int32 → Int32 → Tr → Lo → Option (Int32 × Tr × Lo)) (L : Lo) (x1 : Int32) (x2 : Int32) (x3 : Int32) (x4 : Int32) (hL : L 0 63 = v63) (hk79 : ∀ (x3 : Int32) (x4 : Int32) (S : Tr) (L : Lo), S 0 65 = 0 → L 0 63 = v63 → Ep (k79 x3 x4 S L) (fun q => (q.2.1 0 65 = 0) ∧ (q.2.2 0 63 = v63))) (N : Nat) : ∀ (x5 : Int32) (S : Tr), S 0 65 = 0 → Ep (lpF (fun _ _ => none) (fB_X8_least_L99 k79 L x1 x2 x3 x4) N x5 S) (fun q => (q.2.1 0 65 = 0) ∧ (q.2.2 0 63 = v63)) := by
  induction N with
  | zero => intro x5 S _; exact Ep_none
  | succ N ih =>
    intro x5 S hS
    show Ep (fB_X8_least_L99 k79 L x1 x2 x3 x4 (lpF (fun _ _ => none) (fB_X8_least_L99 k79 L x1 x2 x3 x4) N) x5 S) _
    have hk99 := ih
    clear ih
    generalize lpF (fun _ _ => none) (fB_X8_least_L99 k79 L x1 x2 x3 x4) N = k99 at hk99 ⊢
    unfold fB_X8_least_L99
    refine Ep_ite (fun _ => ?_) (fun _ => ?_)
    · exact uJ_X8_least_J144 k79 x1 x2 x3 x4 S L hS hL hk79
    · refine Ep_ck ?_
      refine Ep_any (fun r58 => ?_)
      refine Ep_ck ?_
      refine Ep_ck ?_
      refine Ep_ck ?_
      refine Ep_lt (fun S_64 eS_64 => ?_)
      have hS_64 : S_64 0 65 = 0 := by rw [eS_64]; exact s65_s hS (by omega)
      refine Ep_lt (fun y65 ey65 => ?_)
      exact hk99 y65 S_64 hS_64
set_option maxHeartbeats 1000000 in
set_option maxRecDepth 100000 in
theorem uL_X8_least_L99 {v63 : Int64} (k79 : Int32 → Int32 → Tr → Lo → Option (Int32 × Tr × Lo)) (L : Lo) (x1 : Int32) (x2 : Int32) (x3 : Int32) (x4 : Int32) (hL : L 0 63 = v63) (hk79 : ∀ (x3 : Int32) (x4 : Int32) (S : Tr) (L : Lo), S 0 65 = 0 → L 0 63 = v63 → Ep (k79 x3 x4 S L) (fun q => (q.2.1 0 65 = 0) ∧ (q.2.2 0 63 = v63))) (x5 : Int32) (S : Tr) (hS : S 0 65 = 0) : Ep (fL_X8_least_L99 k79 L x1 x2 x3 x4 x5 S) (fun q => (q.2.1 0 65 = 0) ∧ (q.2.2 0 63 = v63)) := by
  unfold fL_X8_least_L99
  exact uB_X8_least_L99 k79 L x1 x2 x3 x4 hL hk79 2000 x5 S hS
set_option maxHeartbeats 1000000 in
set_option maxRecDepth 100000 in
theorem uB_X8_least_L79 {v63 : Int64} (x1 : Int32) (x2 : Int32)   (N : Nat) : ∀ (x3 : Int32) (x4 : Int32) (S : Tr) (L : Lo), S 0 65 = 0 → L 0 63 = v63 → Ep (lpF (fun _ _ _ _ => none) (fB_X8_least_L79 x1 x2) N x3 x4 S L) (fun q => (q.2.1 0 65 = 0) ∧ (q.2.2 0 63 = v63)) := by
  induction N with
  | zero => intro x3 x4 S L _ _; exact Ep_none
  | succ N ih =>
    intro x3 x4 S L hS hL
    show Ep (fB_X8_least_L79 x1 x2 (lpF (fun _ _ _ _ => none) (fB_X8_least_L79 x1 x2) N) x3 x4 S L) _
    have hk79 := ih
    clear ih
    generalize lpF (fun _ _ _ _ => none) (fB_X8_least_L79 x1 x2) N = k79 at hk79 ⊢
    unfold fB_X8_least_L79
    refine Ep_any (fun r8 => ?_)
    refine Ep_ite (fun _ => ?_) (fun _ => ?_)
    · exact uJ_X8_least_J279 x1 x2 x3 S L hS hL
    · refine Ep_bd (u_X8_layTried S hS) (fun S_16 hS_16 => ?_)
      exact uL_X8_least_L99 k79 L x1 x2 x3 x4 hL hk79 0 S_16 hS_16
set_option maxHeartbeats 1000000 in
set_option maxRecDepth 100000 in
theorem uL_X8_least_L79 {v63 : Int64} (x1 : Int32) (x2 : Int32)   (x3 : Int32) (x4 : Int32) (S : Tr) (L : Lo) (hS : S 0 65 = 0) (hL : L 0 63 = v63) : Ep (fL_X8_least_L79 x1 x2 x3 x4 S L) (fun q => (q.2.1 0 65 = 0) ∧ (q.2.2 0 63 = v63)) := by
  unfold fL_X8_least_L79
  exact uB_X8_least_L79 x1 x2 2000 x3 x4 S L hS hL
set_option maxHeartbeats 1000000 in
set_option maxRecDepth 100000 in
theorem uB_X8_least_L31 {v63 : Int64} (L : Lo) (x1 : Int32) (hL : L 0 63 = v63)  (N : Nat) : ∀ (x2 : Int32) (x3 : Int32) (S : Tr), S 0 65 = 0 → Ep (lpF (fun _ _ _ => none) (fB_X8_least_L31 L x1) N x2 x3 S) (fun q => (q.2.1 0 65 = 0) ∧ (q.2.2 0 63 = v63)) := by
  induction N with
  | zero => intro x2 x3 S _; exact Ep_none
  | succ N ih =>
    intro x2 x3 S hS
    show Ep (fB_X8_least_L31 L x1 (lpF (fun _ _ _ => none) (fB_X8_least_L31 L x1) N) x2 x3 S) _
    have hk31 := ih
    clear ih
    generalize lpF (fun _ _ _ => none) (fB_X8_least_L31 L x1) N = k31 at hk31 ⊢
    unfold fB_X8_least_L31
    refine Ep_ite (fun _ => ?_) (fun _ => ?_)
    · exact uL_X8_least_L79 x1 x2 (-1) 0 S L hS hL
    · refine Ep_any (fun r66 => ?_)
      refine Ep_ite (fun _ => ?_) (fun _ => ?_)
      · refine Ep_lt (fun y75 ey75 => ?_)
        exact hk31 x2 y75 S hS
      · refine Ep_ite (fun _ => ?_) (fun _ => ?_)
        · exact Ep_some ⟨hS, hL⟩
        · refine Ep_ck ?_
          refine Ep_lt (fun S_72 eS_72 => ?_)
          have hS_72 : S_72 0 65 = 0 := by rw [eS_72]; exact s65_s hS (by omega)
          refine Ep_lt (fun y73 ey73 => ?_)
          refine Ep_lt (fun y74 ey74 => ?_)
          exact hk31 y73 y74 S_72 hS_72
set_option maxHeartbeats 1000000 in
set_option maxRecDepth 100000 in
theorem uL_X8_least_L31 {v63 : Int64} (L : Lo) (x1 : Int32) (hL : L 0 63 = v63)  (x2 : Int32) (x3 : Int32) (S : Tr) (hS : S 0 65 = 0) : Ep (fL_X8_least_L31 L x1 x2 x3 S) (fun q => (q.2.1 0 65 = 0) ∧ (q.2.2 0 63 = v63)) := by
  unfold fL_X8_least_L31
  exact uB_X8_least_L31 L x1 hL 2000 x2 x3 S hS
set_option maxHeartbeats 1000000 in
set_option maxRecDepth 100000 in
theorem u_X8_least {v63 : Int64} (S : Tr) (L : Lo) (x1 : Int32) (hS : S 0 65 = 0) (hL : L 0 63 = v63)  : Ep (f_X8_least S L x1) (fun q => (q.2.1 0 65 = 0) ∧ (q.2.2 0 63 = v63)) := by
  unfold f_X8_least
  refine Ep_lt (fun S_1 eS_1 => ?_)
  have hS_1 : S_1 0 65 = 0 := by rw [eS_1]; exact s65_s hS (by omega)
  refine Ep_any (fun r2 => ?_)
  refine Ep_ite (fun _ => ?_) (fun _ => ?_)
  · exact Ep_some ⟨hS_1, hL⟩
  · refine Ep_ite (fun _ => ?_) (fun _ => ?_)
    · exact uL_X8_least_L31 L x1 hL 0 0 S_1 hS_1
    · exact Ep_some ⟨hS_1, hL⟩
set_option maxHeartbeats 1000000 in
set_option maxRecDepth 100000 in
theorem uJ_X8_mine_J166 {v63 : Int64} (x2 : Int32) (x3 : Int32) (x4 : Int32) (S : Tr) (L : Lo) (hS : S 0 65 = 0) (hL : L 0 63 = v63)  : Ep (fJ_X8_mine_J166 x2 x3 x4 S L) (fun q => (q.2.1 0 65 = 0) ∧ (q.2.2 0 63 = v63)) := by
  unfold fJ_X8_mine_J166
  refine Ep_ite (fun _ => ?_) (fun _ => ?_)
  · exact Ep_some ⟨hS, hL⟩
  · exact Ep_some ⟨hS, hL⟩
set_option maxHeartbeats 1000000 in
set_option maxRecDepth 100000 in
theorem uJ_X8_mine_J153 {v63 : Int64} (k53 : Int32 → Int32 → Int32 → Tr → Lo → Option (Int32 × Tr × Lo)) (x1 : Int32) (x2 : Int32) (x5 : Int32) (x6 : Int32) (S : Tr) (L : Lo) (hS : S 0 65 = 0) (hL : L 0 63 = v63) (hk53 : ∀ (x3 : Int32) (x4 : Int32) (x5 : Int32) (S : Tr) (L : Lo), S 0 65 = 0 → L 0 63 = v63 → Ep (k53 x3 x4 x5 S L) (fun q => (q.2.1 0 65 = 0) ∧ (q.2.2 0 63 = v63))) : Ep (fJ_X8_mine_J153 k53 x1 x2 x5 x6 S L) (fun q => (q.2.1 0 65 = 0) ∧ (q.2.2 0 63 = v63)) := by
  unfold fJ_X8_mine_J153
  refine Ep_lt (fun y37 ey37 => ?_)
  exact hk53 x5 x6 y37 S L hS hL
set_option maxHeartbeats 1000000 in
set_option maxRecDepth 100000 in
theorem uJ_X8_mine_J137 {v63 : Int64} (k53 : Int32 → Int32 → Int32 → Tr → Lo → Option (Int32 × Tr × Lo)) (x1 : Int32) (x2 : Int32) (x3 : Int32) (x4 : Int32) (x5 : Int32) (s0 : Int32) (S : Tr) (L : Lo) (hS : S 0 65 = 0) (hL : L 0 63 = v63) (hk53 : ∀ (x3 : Int32) (x4 : Int32) (x5 : Int32) (S : Tr) (L : Lo), S 0 65 = 0 → L 0 63 = v63 → Ep (k53 x3 x4 x5 S L) (fun q => (q.2.1 0 65 = 0) ∧ (q.2.2 0 63 = v63))) : Ep (fJ_X8_mine_J137 k53 x1 x2 x3 x4 x5 s0 S L) (fun q => (q.2.1 0 65 = 0) ∧ (q.2.2 0 63 = v63)) := by
  unfold fJ_X8_mine_J137
  refine Ep_ite (fun _ => ?_) (fun _ => ?_)
  · exact uJ_X8_mine_J153 k53 x1 x2 x5 s0 S L hS hL hk53
  · refine Ep_ite (fun _ => ?_) (fun _ => ?_)
    · exact uJ_X8_mine_J153 k53 x1 x2 x5 s0 S L hS hL hk53
    · refine Ep_lt (fun y39 ey39 => ?_)
      exact hk53 x3 x4 y39 S L hS hL
set_option maxHeartbeats 1000000 in
set_option maxRecDepth 100000 in
theorem uB_X8_mine_L53 {v63 : Int64} (x1 : Int32) (x2 : Int32)   (N : Nat) : ∀ (x3 : Int32) (x4 : Int32) (x5 : Int32) (S : Tr) (L : Lo), S 0 65 = 0 → L 0 63 = v63 → Ep (lpF (fun _ _ _ _ _ => none) (fB_X8_mine_L53 x1 x2) N x3 x4 x5 S L) (fun q => (q.2.1 0 65 = 0) ∧ (q.2.2 0 63 = v63)) := by
  induction N with
  | zero => intro x3 x4 x5 S L _ _; exact Ep_none
  | succ N ih =>
    intro x3 x4 x5 S L hS hL
    show Ep (fB_X8_mine_L53 x1 x2 (lpF (fun _ _ _ _ _ => none) (fB_X8_mine_L53 x1 x2) N) x3 x4 x5 S L) _
    have hk53 := ih
    clear ih
    generalize lpF (fun _ _ _ _ _ => none) (fB_X8_mine_L53 x1 x2) N = k53 at hk53 ⊢
    unfold fB_X8_mine_L53
    refine Ep_ite (fun _ => ?_) (fun _ => ?_)
    · exact uJ_X8_mine_J166 x2 x3 x4 S L hS hL
    · refine Ep_bd (u_X8_layTried S hS) (fun S_17 hS_17 => ?_)
      refine Ep_ck ?_
      refine Ep_lt (fun S_21 eS_21 => ?_)
      have hS_21 : S_21 0 65 = 0 := by rw [eS_21]; exact s65_s hS_17 (by omega)
      refine Ep_bd (u_X8_goOn S_21 L (1 : Int32) hS_21 hL) (fun q hq => ?_)
      refine Ep_lt (fun S_22 eS_22 => ?_)
      have hS_22 : S_22 0 65 = 0 := by rw [eS_22]; exact hq.1
      refine Ep_lt (fun L_23 eL_23 => ?_)
      have hL_23 : L_23 0 63 = v63 := by rw [eL_23]; exact hq.2
      refine Ep_ck ?_
      refine Ep_ite (fun _ => ?_) (fun _ => ?_)
      · refine Ep_lt (fun y43 ey43 => ?_)
        exact hk53 x3 x4 y43 S_22 L_23 hS_22 hL_23
      · refine Ep_bd (u_X8_toEnd S_22 L_23 hS_22 hL_23) (fun q hq => ?_)
        refine Ep_lt (fun S_28 eS_28 => ?_)
        have hS_28 : S_28 0 65 = 0 := by rw [eS_28]; exact hq.1
        refine Ep_lt (fun L_29 eL_29 => ?_)
        have hL_29 : L_29 0 63 = v63 := by rw [eL_29]; exact hq.2
        refine Ep_ite (fun _ => ?_) (fun _ => ?_)
        · refine Ep_any (fun r33 => ?_)
          exact uJ_X8_mine_J137 k53 x1 x2 x3 x4 x5 r33 S_28 L_29 hS_28 hL_29 hk53
        · refine Ep_ck ?_
          refine Ep_ck ?_
          refine Ep_ck ?_
          exact uJ_X8_mine_J137 k53 x1 x2 x3 x4 x5 ((S_28 60 ((6 : Int32) + (S_28 30 x1.toNatClampNeg)).toNatClampNeg) - (S_28 60 (S_28 30 x1.toNatClampNeg).toNatClampNeg)) S_28 L_29 hS_28 hL_29 hk53
set_option maxHeartbeats 1000000 in
set_option maxRecDepth 100000 in
theorem uL_X8_mine_L53 {v63 : Int64} (x1 : Int32) (x2 : Int32)   (x3 : Int32) (x4 : Int32) (x5 : Int32) (S : Tr) (L : Lo) (hS : S 0 65 = 0) (hL : L 0 63 = v63) : Ep (fL_X8_mine_L53 x1 x2 x3 x4 x5 S L) (fun q => (q.2.1 0 65 = 0) ∧ (q.2.2 0 63 = v63)) := by
  unfold fL_X8_mine_L53
  exact uB_X8_mine_L53 x1 x2 2000 x3 x4 x5 S L hS hL
set_option maxHeartbeats 1000000 in
set_option maxRecDepth 100000 in
theorem u_X8_mine {v63 : Int64} (S : Tr) (L : Lo) (x1 : Int32) (x2 : Int32) (hS : S 0 65 = 0) (hL : L 0 63 = v63)  : Ep (f_X8_mine S L x1 x2) (fun q => (q.2.1 0 65 = 0) ∧ (q.2.2 0 63 = v63)) := by
  unfold f_X8_mine
  refine Ep_lt (fun S_1 eS_1 => ?_)
  have hS_1 : S_1 0 65 = 0 := by rw [eS_1]; exact s65_s hS (by omega)
  refine Ep_any (fun r2 => ?_)
  refine Ep_ite (fun _ => ?_) (fun _ => ?_)
  · exact Ep_some ⟨hS_1, hL⟩
  · refine Ep_any (fun r6 => ?_)
    refine Ep_ite (fun _ => ?_) (fun _ => ?_)
    · exact Ep_some ⟨hS_1, hL⟩
    · refine Ep_ite (fun _ => ?_) (fun _ => ?_)
      · exact Ep_some ⟨hS_1, hL⟩
      · refine Ep_any (fun r11 => ?_)
        refine Ep_ite (fun _ => ?_) (fun _ => ?_)
        · exact Ep_some ⟨hS_1, hL⟩
        · exact uL_X8_mine_L53 x1 x2 (-2) (-2) 0 S_1 L hS_1 hL
set_option maxHeartbeats 1000000 in
set_option maxRecDepth 100000 in
theorem uJ_X8_when_J142 {v63 : Int64} (x2 : Int32) (x4 : Int32) (x5 : Int32) (S : Tr) (L : Lo) (hS : S 0 65 = 0) (hL : L 0 63 = v63)  : Ep (fJ_X8_when_J142 x2 x4 x5 S L) (fun q => (q.2.1 0 65 = 0) ∧ (q.2.2 0 63 = v63)) := by
  unfold fJ_X8_when_J142
  refine Ep_ite (fun _ => ?_) (fun _ => ?_)
  · exact Ep_some ⟨hS, hL⟩
  · exact Ep_some ⟨hS, hL⟩
set_option maxHeartbeats 1000000 in
set_option maxRecDepth 100000 in
theorem uB_X8_turns_L113 (x1 : Int32) (x2 : Int32) (x3 : Int32) (x4 : Int32)   (N : Nat) : ∀ (x5 : Int32) (S : Tr), S 0 65 = 0 → Ep (lpF (fun _ _ => none) (fB_X8_turns_L113 x1 x2 x3 x4) N x5 S) (fun q => (q.2 0 65 = 0)) := by
  induction N with
  | zero => intro x5 S _; exact Ep_none
  | succ N ih =>
    intro x5 S hS
    show Ep (fB_X8_turns_L113 x1 x2 x3 x4 (lpF (fun _ _ => none) (fB_X8_turns_L113 x1 x2 x3 x4) N) x5 S) _
    have hk113 := ih
    clear ih
    generalize lpF (fun _ _ => none) (fB_X8_turns_L113 x1 x2 x3 x4) N = k113 at hk113 ⊢
    unfold fB_X8_turns_L113
    refine Ep_ite (fun _ => ?_) (fun _ => ?_)
    · exact Ep_some hS
    · refine Ep_ck ?_
      refine Ep_ck ?_
      refine Ep_lt (fun S_7 eS_7 => ?_)
      have hS_7 : S_7 0 65 = 0 := by rw [eS_7]; exact s65_s hS (by omega)
      refine Ep_lt (fun y8 ey8 => ?_)
      exact hk113 y8 S_7 hS_7
set_option maxHeartbeats 1000000 in
set_option maxRecDepth 100000 in
theorem uL_X8_turns_L113 (x1 : Int32) (x2 : Int32) (x3 : Int32) (x4 : Int32)   (x5 : Int32) (S : Tr) (hS : S 0 65 = 0) : Ep (fL_X8_turns_L113 x1 x2 x3 x4 x5 S) (fun q => (q.2 0 65 = 0)) := by
  unfold fL_X8_turns_L113
  exact uB_X8_turns_L113 x1 x2 x3 x4 2000 x5 S hS
set_option maxHeartbeats 1000000 in
set_option maxRecDepth 100000 in
theorem uJ_X8_turns_J78 (k17 : Int32 → Int32 → Tr → Option (Int32 × Tr)) (x1 : Int32) (x2 : Int32) (x3 : Int32) (x4 : Int32) (x5 : Int32) (x6 : Int32) (x7 : Int32) (S : Tr) (hS : S 0 65 = 0) (hk17 : ∀ (x4 : Int32) (x5 : Int32) (S : Tr), S 0 65 = 0 → Ep (k17 x4 x5 S) (fun q => (q.2 0 65 = 0))) : Ep (fJ_X8_turns_J78 k17 x1 x2 x3 x4 x5 x6 x7 S) (fun q => (q.2 0 65 = 0)) := by
  unfold fJ_X8_turns_J78
  refine Ep_ck ?_
  refine Ep_lt (fun S_14 eS_14 => ?_)
  have hS_14 : S_14 0 65 = 0 := by rw [eS_14]; exact s65_s hS (by omega)
  refine Ep_ite (fun _ => ?_) (fun _ => ?_)
  · refine Ep_lt (fun y18 ey18 => ?_)
    refine Ep_lt (fun y19 ey19 => ?_)
    exact hk17 y18 y19 S_14 hS_14
  · refine Ep_lt (fun y16 ey16 => ?_)
    refine Ep_lt (fun y17 ey17 => ?_)
    exact hk17 y16 y17 S_14 hS_14
set_option maxHeartbeats 1000000 in
set_option maxRecDepth 100000 in
theorem uB_X8_turns_L39 (k17 : Int32 → Int32 → Tr → Option (Int32 × Tr)) (S : Tr) (x1 : Int32) (x2 : Int32) (x3 : Int32) (x4 : Int32) (x5 : Int32) (x6 : Int32) (hS : S 0 65 = 0) (hk17 : ∀ (x4 : Int32) (x5 : Int32) (S : Tr), S 0 65 = 0 → Ep (k17 x4 x5 S) (fun q => (q.2 0 65 = 0))) (N : Nat) : ∀ (x7 : Int32) (x8 : Int32), Ep (lpF (fun _ _ => none) (fB_X8_turns_L39 k17 S x1 x2 x3 x4 x5 x6) N x7 x8) (fun q => (q.2 0 65 = 0)) := by
  induction N with
  | zero => intro x7 x8; exact Ep_none
  | succ N ih =>
    intro x7 x8
    show Ep (fB_X8_turns_L39 k17 S x1 x2 x3 x4 x5 x6 (lpF (fun _ _ => none) (fB_X8_turns_L39 k17 S x1 x2 x3 x4 x5 x6) N) x7 x8) _
    have hk39 := ih
    clear ih
    generalize lpF (fun _ _ => none) (fB_X8_turns_L39 k17 S x1 x2 x3 x4 x5 x6) N = k39 at hk39 ⊢
    unfold fB_X8_turns_L39
    refine Ep_ite (fun _ => ?_) (fun _ => ?_)
    · exact uJ_X8_turns_J78 k17 x1 x2 x3 x4 x5 x6 x7 S hS hk17
    · refine Ep_any (fun r20 => ?_)
      refine Ep_any (fun r23 => ?_)
      refine Ep_ite (fun _ => ?_) (fun _ => ?_)
      · refine Ep_lt (fun y27 ey27 => ?_)
        refine Ep_lt (fun y28 ey28 => ?_)
        exact hk39 y27 y28
      · refine Ep_lt (fun y29 ey29 => ?_)
        refine Ep_lt (fun y30 ey30 => ?_)
        exact hk39 y29 y30
set_option maxHeartbeats 1000000 in
set_option maxRecDepth 100000 in
theorem uL_X8_turns_L39 (k17 : Int32 → Int32 → Tr → Option (Int32 × Tr)) (S : Tr) (x1 : Int32) (x2 : Int32) (x3 : Int32) (x4 : Int32) (x5 : Int32) (x6 : Int32) (hS : S 0 65 = 0) (hk17 : ∀ (x4 : Int32) (x5 : Int32) (S : Tr), S 0 65 = 0 → Ep (k17 x4 x5 S) (fun q => (q.2 0 65 = 0))) (x7 : Int32) (x8 : Int32)  : Ep (fL_X8_turns_L39 k17 S x1 x2 x3 x4 x5 x6 x7 x8) (fun q => (q.2 0 65 = 0)) := by
  unfold fL_X8_turns_L39
  exact uB_X8_turns_L39 k17 S x1 x2 x3 x4 x5 x6 hS hk17 2000 x7 x8
set_option maxHeartbeats 1000000 in
set_option maxRecDepth 100000 in
theorem uB_X8_turns_L17 (x1 : Int32) (x2 : Int32) (x3 : Int32)   (N : Nat) : ∀ (x4 : Int32) (x5 : Int32) (S : Tr), S 0 65 = 0 → Ep (lpF (fun _ _ _ => none) (fB_X8_turns_L17 x1 x2 x3) N x4 x5 S) (fun q => (q.2 0 65 = 0)) := by
  induction N with
  | zero => intro x4 x5 S _; exact Ep_none
  | succ N ih =>
    intro x4 x5 S hS
    show Ep (fB_X8_turns_L17 x1 x2 x3 (lpF (fun _ _ _ => none) (fB_X8_turns_L17 x1 x2 x3) N) x4 x5 S) _
    have hk17 := ih
    clear ih
    generalize lpF (fun _ _ _ => none) (fB_X8_turns_L17 x1 x2 x3) N = k17 at hk17 ⊢
    unfold fB_X8_turns_L17
    refine Ep_ite (fun _ => ?_) (fun _ => ?_)
    · exact uL_X8_turns_L113 x1 x2 x3 x4 0 S hS
    · refine Ep_any (fun r9 => ?_)
      exact uL_X8_turns_L39 k17 S x1 x2 x3 x4 x5 r9 hS hk17 0 0
set_option maxHeartbeats 1000000 in
set_option maxRecDepth 100000 in
theorem uL_X8_turns_L17 (x1 : Int32) (x2 : Int32) (x3 : Int32)   (x4 : Int32) (x5 : Int32) (S : Tr) (hS : S 0 65 = 0) : Ep (fL_X8_turns_L17 x1 x2 x3 x4 x5 S) (fun q => (q.2 0 65 = 0)) := by
  unfold fL_X8_turns_L17
  exact uB_X8_turns_L17 x1 x2 x3 2000 x4 x5 S hS
set_option maxHeartbeats 1000000 in
set_option maxRecDepth 100000 in
theorem u_X8_turns (S : Tr) (x1 : Int32) (x2 : Int32) (hS : S 0 65 = 0)  : Ep (f_X8_turns S x1 x2) (fun q => (q.2 0 65 = 0)) := by
  unfold f_X8_turns
  refine Ep_ck ?_
  refine Ep_lt (fun y2 ey2 => ?_)
  exact uL_X8_turns_L17 x1 x2 y2 0 0 S hS
set_option maxHeartbeats 1000000 in
set_option maxRecDepth 100000 in
theorem uJ_X8_when_J83 {v63 : Int64} (k53 : Int32 → Int32 → Int32 → Int32 → Tr → Lo → Option (Int32 × Tr × Lo)) (x1 : Int32) (x2 : Int32) (x3 : Int32) (x4 : Int32) (x5 : Int32) (x6 : Int32) (S : Tr) (L : Lo) (hS : S 0 65 = 0) (hL : L 0 63 = v63) (hk53 : ∀ (x3 : Int32) (x4 : Int32) (x5 : Int32) (x6 : Int32) (S : Tr) (L : Lo), S 0 65 = 0 → L 0 63 = v63 → Ep (k53 x3 x4 x5 x6 S L) (fun q => (q.2.1 0 65 = 0) ∧ (q.2.2 0 63 = v63))) : Ep (fJ_X8_when_J83 k53 x1 x2 x3 x4 x5 x6 S L) (fun q => (q.2.1 0 65 = 0) ∧ (q.2.2 0 63 = v63)) := by
  unfold fJ_X8_when_J83
  refine Ep_ck ?_
  refine Ep_lt (fun y28 ey28 => ?_)
  refine Ep_bd (u_X8_turns S (1 : Int32) x1 hS) (fun q hq => ?_)
  refine Ep_lt (fun r29 er29 => ?_)
  refine Ep_lt (fun S_30 eS_30 => ?_)
  have hS_30 : S_30 0 65 = 0 := by rw [eS_30]; exact hq
  refine Ep_bd (u_X8_toEnd S_30 L hS_30 hL) (fun q hq => ?_)
  refine Ep_lt (fun S_33 eS_33 => ?_)
  have hS_33 : S_33 0 65 = 0 := by rw [eS_33]; exact hq.1
  refine Ep_lt (fun L_34 eL_34 => ?_)
  have hL_34 : L_34 0 63 = v63 := by rw [eL_34]; exact hq.2
  refine Ep_any (fun r37 => ?_)
  refine Ep_ite (fun _ => ?_) (fun _ => ?_)
  · refine Ep_any (fun r41 => ?_)
    refine Ep_lt (fun y44 ey44 => ?_)
    refine Ep_any (fun r45 => ?_)
    refine Ep_lt (fun y48 ey48 => ?_)
    exact hk53 y44 x6 r45 y48 S_33 L_34 hS_33 hL_34
  · refine Ep_lt (fun y49 ey49 => ?_)
    exact hk53 x3 x4 x5 y49 S_33 L_34 hS_33 hL_34
set_option maxHeartbeats 1000000 in
set_option maxRecDepth 100000 in
theorem uB_X8_when_L64 {v63 : Int64} (k53 : Int32 → Int32 → Int32 → Int32 → Tr → Lo → Option (Int32 × Tr × Lo)) (x1 : Int32) (x2 : Int32) (x3 : Int32) (x4 : Int32) (x5 : Int32) (x6 : Int32)  (hk53 : ∀ (x3 : Int32) (x4 : Int32) (x5 : Int32) (x6 : Int32) (S : Tr) (L : Lo), S 0 65 = 0 → L 0 63 = v63 → Ep (k53 x3 x4 x5 x6 S L) (fun q => (q.2.1 0 65 = 0) ∧ (q.2.2 0 63 = v63))) (N : Nat) : ∀ (S : Tr) (L : Lo), S 0 65 = 0 → L 0 63 = v63 → Ep (lpF (fun _ _ => none) (fB_X8_when_L64 k53 x1 x2 x3 x4 x5 x6) N S L) (fun q => (q.2.1 0 65 = 0) ∧ (q.2.2 0 63 = v63)) := by
  induction N with
  | zero => intro S L _ _; exact Ep_none
  | succ N ih =>
    intro S L hS hL
    show Ep (fB_X8_when_L64 k53 x1 x2 x3 x4 x5 x6 (lpF (fun _ _ => none) (fB_X8_when_L64 k53 x1 x2 x3 x4 x5 x6) N) S L) _
    have hk64 := ih
    clear ih
    generalize lpF (fun _ _ => none) (fB_X8_when_L64 k53 x1 x2 x3 x4 x5 x6) N = k64 at hk64 ⊢
    unfold fB_X8_when_L64
    refine Ep_ite (fun _ => ?_) (fun _ => ?_)
    · exact uJ_X8_when_J83 k53 x1 x2 x3 x4 x5 x6 S L hS hL hk53
    · refine Ep_bd (u_X8_goOn S L (1 : Int32) hS hL) (fun q hq => ?_)
      refine Ep_lt (fun S_50 eS_50 => ?_)
      have hS_50 : S_50 0 65 = 0 := by rw [eS_50]; exact hq.1
      refine Ep_lt (fun L_51 eL_51 => ?_)
      have hL_51 : L_51 0 63 = v63 := by rw [eL_51]; exact hq.2
      exact hk64 S_50 L_51 hS_50 hL_51
set_option maxHeartbeats 1000000 in
set_option maxRecDepth 100000 in
theorem uL_X8_when_L64 {v63 : Int64} (k53 : Int32 → Int32 → Int32 → Int32 → Tr → Lo → Option (Int32 × Tr × Lo)) (x1 : Int32) (x2 : Int32) (x3 : Int32) (x4 : Int32) (x5 : Int32) (x6 : Int32)  (hk53 : ∀ (x3 : Int32) (x4 : Int32) (x5 : Int32) (x6 : Int32) (S : Tr) (L : Lo), S 0 65 = 0 → L 0 63 = v63 → Ep (k53 x3 x4 x5 x6 S L) (fun q => (q.2.1 0 65 = 0) ∧ (q.2.2 0 63 = v63))) (S : Tr) (L : Lo) (hS : S 0 65 = 0) (hL : L 0 63 = v63) : Ep (fL_X8_when_L64 k53 x1 x2 x3 x4 x5 x6 S L) (fun q => (q.2.1 0 65 = 0) ∧ (q.2.2 0 63 = v63)) := by
  unfold fL_X8_when_L64
  exact uB_X8_when_L64 k53 x1 x2 x3 x4 x5 x6 hk53 2000 S L hS hL
set_option maxHeartbeats 1000000 in
set_option maxRecDepth 100000 in
theorem uB_X8_when_L53 {v63 : Int64} (x1 : Int32) (x2 : Int32)   (N : Nat) : ∀ (x3 : Int32) (x4 : Int32) (x5 : Int32) (x6 : Int32) (S : Tr) (L : Lo), S 0 65 = 0 → L 0 63 = v63 → Ep (lpF (fun _ _ _ _ _ _ => none) (fB_X8_when_L53 x1 x2) N x3 x4 x5 x6 S L) (fun q => (q.2.1 0 65 = 0) ∧ (q.2.2 0 63 = v63)) := by
  induction N with
  | zero => intro x3 x4 x5 x6 S L _ _; exact Ep_none
  | succ N ih =>
    intro x3 x4 x5 x6 S L hS hL
    show Ep (fB_X8_when_L53 x1 x2 (lpF (fun _ _ _ _ _ _ => none) (fB_X8_when_L53 x1 x2) N) x3 x4 x5 x6 S L) _
    have hk53 := ih
    clear ih
    generalize lpF (fun _ _ _ _ _ _ => none) (fB_X8_when_L53 x1 x2) N = k53 at hk53 ⊢
    unfold fB_X8_when_L53
    refine Ep_ite (fun _ => ?_) (fun _ => ?_)
    · exact uJ_X8_when_J142 x2 x4 x5 S L hS hL
    · refine Ep_bd (u_X8_layTried S hS) (fun S_23 hS_23 => ?_)
      exact uL_X8_when_L64 k53 x1 x2 x3 x4 x5 x6 hk53 S_23 L hS_23 hL
set_option maxHeartbeats 1000000 in
set_option maxRecDepth 100000 in
theorem uL_X8_when_L53 {v63 : Int64} (x1 : Int32) (x2 : Int32)   (x3 : Int32) (x4 : Int32) (x5 : Int32) (x6 : Int32) (S : Tr) (L : Lo) (hS : S 0 65 = 0) (hL : L 0 63 = v63) : Ep (fL_X8_when_L53 x1 x2 x3 x4 x5 x6 S L) (fun q => (q.2.1 0 65 = 0) ∧ (q.2.2 0 63 = v63)) := by
  unfold fL_X8_when_L53
  exact uB_X8_when_L53 x1 x2 2000 x3 x4 x5 x6 S L hS hL
set_option maxHeartbeats 1000000 in
set_option maxRecDepth 100000 in
theorem u_X8_when {v63 : Int64} (S : Tr) (L : Lo) (x1 : Int32) (x2 : Int32) (hS : S 0 65 = 0) (hL : L 0 63 = v63)  : Ep (f_X8_when S L x1 x2) (fun q => (q.2.1 0 65 = 0) ∧ (q.2.2 0 63 = v63)) := by
  unfold f_X8_when
  refine Ep_lt (fun S_1 eS_1 => ?_)
  have hS_1 : S_1 0 65 = 0 := by rw [eS_1]; exact s65_s hS (by omega)
  refine Ep_any (fun r2 => ?_)
  refine Ep_ite (fun _ => ?_) (fun _ => ?_)
  · exact Ep_some ⟨hS_1, hL⟩
  · refine Ep_any (fun r6 => ?_)
    refine Ep_ite (fun _ => ?_) (fun _ => ?_)
    · exact Ep_some ⟨hS_1, hL⟩
    · refine Ep_bd (u_X8_layTried S_1 hS_1) (fun S_10 hS_10 => ?_)
      refine Ep_bd (u_X8_toEnd S_10 L hS_10 hL) (fun q hq => ?_)
      refine Ep_lt (fun S_13 eS_13 => ?_)
      have hS_13 : S_13 0 65 = 0 := by rw [eS_13]; exact hq.1
      refine Ep_lt (fun L_14 eL_14 => ?_)
      have hL_14 : L_14 0 63 = v63 := by rw [eL_14]; exact hq.2
      refine Ep_any (fun r17 => ?_)
      refine Ep_lt (fun y20 ey20 => ?_)
      exact uL_X8_when_L53 x1 x2 r17 (-2) (-2) y20 S_13 L_14 hS_13 hL_14
set_option maxHeartbeats 1000000 in
set_option maxRecDepth 100000 in
theorem uJ_X8_restAt_J285 {v63 : Int64} (x3 : Int32) (x4 : Int32) (S : Tr) (L : Lo) (hS : S 0 65 = 0) (hL : L 0 63 = v63)  : Ep (fJ_X8_restAt_J285 x3 x4 S L) (fun q => (q.2.1 0 65 = 0) ∧ (q.2.2 0 63 = v63)) := by
  unfold fJ_X8_restAt_J285
  refine Ep_ite (fun _ => ?_) (fun _ => ?_)
  · exact Ep_some ⟨hS, hL⟩
  · exact Ep_some ⟨hS, hL⟩
set_option maxHeartbeats 1000000 in
set_option maxRecDepth 100000 in
theorem uJ_X8_restAt_J257 {v63 : Int64} (x5 : Int32) (S : Tr) (L : Lo) (hS : S 0 65 = 0) (hL : L 0 63 = v63)  : Ep (fJ_X8_restAt_J257 x5 S L) (fun q => (q.2.1 0 65 = 0) ∧ (q.2.2 0 63 = v63)) := by
  unfold fJ_X8_restAt_J257
  refine Ep_ck ?_
  exact Ep_some ⟨hS, hL⟩
set_option maxHeartbeats 1000000 in
set_option maxRecDepth 100000 in
theorem uJ_X8_restAt_J243 {v63 : Int64} (k136 : Int32 → Int32 → Option (Int32 × Tr × Lo)) (S : Tr) (L : Lo) (x3 : Int32) (x4 : Int32) (x5 : Int32) (x6 : Int32) (hS : S 0 65 = 0) (hL : L 0 63 = v63) (hk136 : ∀ (x4 : Int32) (x5 : Int32), Ep (k136 x4 x5) (fun q => (q.2.1 0 65 = 0) ∧ (q.2.2 0 63 = v63))) : Ep (fJ_X8_restAt_J243 k136 S L x3 x4 x5 x6) (fun q => (q.2.1 0 65 = 0) ∧ (q.2.2 0 63 = v63)) := by
  unfold fJ_X8_restAt_J243
  refine Ep_ite (fun _ => ?_) (fun _ => ?_)
  · refine Ep_lt (fun y10 ey10 => ?_)
    exact hk136 x4 y10
  · refine Ep_ite (fun _ => ?_) (fun _ => ?_)
    · exact uJ_X8_restAt_J257 x5 S L hS hL
    · refine Ep_lt (fun y7 ey7 => ?_)
      refine Ep_lt (fun y8 ey8 => ?_)
      exact hk136 y7 y8
set_option maxHeartbeats 1000000 in
set_option maxRecDepth 100000 in
theorem uB_X8_restAt_L156 {v63 : Int64} (k136 : Int32 → Int32 → Option (Int32 × Tr × Lo)) (S : Tr) (L : Lo) (x3 : Int32) (x4 : Int32) (x5 : Int32) (hS : S 0 65 = 0) (hL : L 0 63 = v63) (hk136 : ∀ (x4 : Int32) (x5 : Int32), Ep (k136 x4 x5) (fun q => (q.2.1 0 65 = 0) ∧ (q.2.2 0 63 = v63))) (N : Nat) : ∀ (x6 : Int32) (x7 : Int32), Ep (lpF (fun _ _ => none) (fB_X8_restAt_L156 k136 S L x3 x4 x5) N x6 x7) (fun q => (q.2.1 0 65 = 0) ∧ (q.2.2 0 63 = v63)) := by
  induction N with
  | zero => intro x6 x7; exact Ep_none
  | succ N ih =>
    intro x6 x7
    show Ep (fB_X8_restAt_L156 k136 S L x3 x4 x5 (lpF (fun _ _ => none) (fB_X8_restAt_L156 k136 S L x3 x4 x5) N) x6 x7) _
    have hk156 := ih
    clear ih
    generalize lpF (fun _ _ => none) (fB_X8_restAt_L156 k136 S L x3 x4 x5) N = k156 at hk156 ⊢
    unfold fB_X8_restAt_L156
    refine Ep_ite (fun _ => ?_) (fun _ => ?_)
    · exact uJ_X8_restAt_J243 k136 S L x3 x4 x5 x6 hS hL hk136
    · refine Ep_ite (fun _ => ?_) (fun _ => ?_)
      · refine Ep_lt (fun y12 ey12 => ?_)
        exact hk156 0 y12
      · refine Ep_ck ?_
        refine Ep_ck ?_
        refine Ep_ck ?_
        refine Ep_ite (fun _ => ?_) (fun _ => ?_)
        · refine Ep_lt (fun y17 ey17 => ?_)
          exact hk156 0 y17
        · refine Ep_ck ?_
          refine Ep_ite (fun _ => ?_) (fun _ => ?_)
          · refine Ep_lt (fun y20 ey20 => ?_)
            exact hk156 0 y20
          · refine Ep_lt (fun y21 ey21 => ?_)
            exact hk156 1 y21
set_option maxHeartbeats 1000000 in
set_option maxRecDepth 100000 in
theorem uL_X8_restAt_L156 {v63 : Int64} (k136 : Int32 → Int32 → Option (Int32 × Tr × Lo)) (S : Tr) (L : Lo) (x3 : Int32) (x4 : Int32) (x5 : Int32) (hS : S 0 65 = 0) (hL : L 0 63 = v63) (hk136 : ∀ (x4 : Int32) (x5 : Int32), Ep (k136 x4 x5) (fun q => (q.2.1 0 65 = 0) ∧ (q.2.2 0 63 = v63))) (x6 : Int32) (x7 : Int32)  : Ep (fL_X8_restAt_L156 k136 S L x3 x4 x5 x6 x7) (fun q => (q.2.1 0 65 = 0) ∧ (q.2.2 0 63 = v63)) := by
  unfold fL_X8_restAt_L156
  exact uB_X8_restAt_L156 k136 S L x3 x4 x5 hS hL hk136 2000 x6 x7
set_option maxHeartbeats 1000000 in
set_option maxRecDepth 100000 in
theorem uB_X8_restAt_L136 {v63 : Int64} (S : Tr) (L : Lo) (x3 : Int32) (hS : S 0 65 = 0) (hL : L 0 63 = v63)  (N : Nat) : ∀ (x4 : Int32) (x5 : Int32), Ep (lpF (fun _ _ => none) (fB_X8_restAt_L136 S L x3) N x4 x5) (fun q => (q.2.1 0 65 = 0) ∧ (q.2.2 0 63 = v63)) := by
  induction N with
  | zero => intro x4 x5; exact Ep_none
  | succ N ih =>
    intro x4 x5
    show Ep (fB_X8_restAt_L136 S L x3 (lpF (fun _ _ => none) (fB_X8_restAt_L136 S L x3) N) x4 x5) _
    have hk136 := ih
    clear ih
    generalize lpF (fun _ _ => none) (fB_X8_restAt_L136 S L x3) N = k136 at hk136 ⊢
    unfold fB_X8_restAt_L136
    refine Ep_ite (fun _ => ?_) (fun _ => ?_)
    · exact uJ_X8_restAt_J285 x3 x4 S L hS hL
    · exact uL_X8_restAt_L156 k136 S L x3 x4 x5 hS hL hk136 1 0
set_option maxHeartbeats 1000000 in
set_option maxRecDepth 100000 in
theorem uL_X8_restAt_L136 {v63 : Int64} (S : Tr) (L : Lo) (x3 : Int32) (hS : S 0 65 = 0) (hL : L 0 63 = v63)  (x4 : Int32) (x5 : Int32)  : Ep (fL_X8_restAt_L136 S L x3 x4 x5) (fun q => (q.2.1 0 65 = 0) ∧ (q.2.2 0 63 = v63)) := by
  unfold fL_X8_restAt_L136
  exact uB_X8_restAt_L136 S L x3 hS hL 2000 x4 x5
set_option maxHeartbeats 1000000 in
set_option maxRecDepth 100000 in
theorem uJ_X8_restAt_J90 {v63 : Int64} (k3 : Int32 → Tr → Lo → Option (Int32 × Tr × Lo)) (x1 : Int32) (x2 : Int32) (x3 : Int32) (x4 : Int32) (x5 : Int32) (s0 : Int32) (S : Tr) (L : Lo) (hS : S 0 65 = 0) (hL : L 0 63 = v63) (hk3 : ∀ (x4 : Int32) (S : Tr) (L : Lo), S 0 65 = 0 → L 0 63 = v63 → Ep (k3 x4 S L) (fun q => (q.2.1 0 65 = 0) ∧ (q.2.2 0 63 = v63))) : Ep (fJ_X8_restAt_J90 k3 x1 x2 x3 x4 x5 s0 S L) (fun q => (q.2.1 0 65 = 0) ∧ (q.2.2 0 63 = v63)) := by
  unfold fJ_X8_restAt_J90
  refine Ep_bd (u_X8_toEnd S L hS hL) (fun q hq => ?_)
  refine Ep_lt (fun S_39 eS_39 => ?_)
  have hS_39 : S_39 0 65 = 0 := by rw [eS_39]; exact hq.1
  refine Ep_lt (fun L_40 eL_40 => ?_)
  have hL_40 : L_40 0 63 = v63 := by rw [eL_40]; exact hq.2
  refine Ep_any (fun r43 => ?_)
  refine Ep_ck ?_
  refine Ep_lt (fun S_47 eS_47 => ?_)
  have hS_47 : S_47 0 65 = 0 := by rw [eS_47]; exact s65_s hS_39 (by omega)
  refine Ep_any (fun r48 => ?_)
  refine Ep_lt (fun S_51 eS_51 => ?_)
  have hS_51 : S_51 0 65 = 0 := by rw [eS_51]; exact s65_s hS_47 (by omega)
  refine Ep_lt (fun y52 ey52 => ?_)
  exact hk3 y52 S_51 L_40 hS_51 hL_40
set_option maxHeartbeats 1000000 in
set_option maxRecDepth 100000 in
theorem uJ_X8_restAt_J70 {v63 : Int64} (k3 : Int32 → Tr → Lo → Option (Int32 × Tr × Lo)) (x1 : Int32) (x2 : Int32) (x3 : Int32) (x4 : Int32) (s0 : Int32) (S : Tr) (L : Lo) (hS : S 0 65 = 0) (hL : L 0 63 = v63) (hk3 : ∀ (x4 : Int32) (S : Tr) (L : Lo), S 0 65 = 0 → L 0 63 = v63 → Ep (k3 x4 S L) (fun q => (q.2.1 0 65 = 0) ∧ (q.2.2 0 63 = v63))) : Ep (fJ_X8_restAt_J70 k3 x1 x2 x3 x4 s0 S L) (fun q => (q.2.1 0 65 = 0) ∧ (q.2.2 0 63 = v63)) := by
  unfold fJ_X8_restAt_J70
  refine Ep_ck ?_
  refine Ep_ite (fun _ => ?_) (fun _ => ?_)
  · exact uJ_X8_restAt_J90 k3 x1 x2 x3 x4 s0 1 S L hS hL hk3
  · exact uJ_X8_restAt_J90 k3 x1 x2 x3 x4 s0 0 S L hS hL hk3
set_option maxHeartbeats 1000000 in
set_option maxRecDepth 100000 in
theorem uB_X8_restAt_L3 {v63 : Int64} (x1 : Int32) (x2 : Int32) (x3 : Int32)   (N : Nat) : ∀ (x4 : Int32) (S : Tr) (L : Lo), S 0 65 = 0 → L 0 63 = v63 → Ep (lpF (fun _ _ _ => none) (fB_X8_restAt_L3 x1 x2 x3) N x4 S L) (fun q => (q.2.1 0 65 = 0) ∧ (q.2.2 0 63 = v63)) := by
  induction N with
  | zero => intro x4 S L _ _; exact Ep_none
  | succ N ih =>
    intro x4 S L hS hL
    show Ep (fB_X8_restAt_L3 x1 x2 x3 (lpF (fun _ _ _ => none) (fB_X8_restAt_L3 x1 x2 x3) N) x4 S L) _
    have hk3 := ih
    clear ih
    generalize lpF (fun _ _ _ => none) (fB_X8_restAt_L3 x1 x2 x3) N = k3 at hk3 ⊢
    unfold fB_X8_restAt_L3
    refine Ep_ite (fun _ => ?_) (fun _ => ?_)
    · exact uL_X8_restAt_L136 S L x3 hS hL 0 0
    · refine Ep_bd (u_X8_layTried S hS) (fun S_22 hS_22 => ?_)
      refine Ep_ck ?_
      refine Ep_ck ?_
      refine Ep_lt (fun S_27 eS_27 => ?_)
      have hS_27 : S_27 0 65 = 0 := by rw [eS_27]; exact s65_s hS_22 (by omega)
      refine Ep_ck ?_
      refine Ep_ck ?_
      refine Ep_lt (fun S_30 eS_30 => ?_)
      have hS_30 : S_30 0 65 = 0 := by rw [eS_30]; exact s65_s hS_27 (by omega)
      refine Ep_bd (u_X8_goOn S_30 L (1 : Int32) hS_30 hL) (fun q hq => ?_)
      refine Ep_lt (fun S_31 eS_31 => ?_)
      have hS_31 : S_31 0 65 = 0 := by rw [eS_31]; exact hq.1
      refine Ep_lt (fun L_32 eL_32 => ?_)
      have hL_32 : L_32 0 63 = v63 := by rw [eL_32]; exact hq.2
      refine Ep_ck ?_
      refine Ep_ite (fun _ => ?_) (fun _ => ?_)
      · exact uJ_X8_restAt_J70 k3 x1 x2 x3 x4 1 S_31 L_32 hS_31 hL_32 hk3
      · exact uJ_X8_restAt_J70 k3 x1 x2 x3 x4 0 S_31 L_32 hS_31 hL_32 hk3
set_option maxHeartbeats 1000000 in
set_option maxRecDepth 100000 in
theorem uL_X8_restAt_L3 {v63 : Int64} (x1 : Int32) (x2 : Int32) (x3 : Int32)   (x4 : Int32) (S : Tr) (L : Lo) (hS : S 0 65 = 0) (hL : L 0 63 = v63) : Ep (fL_X8_restAt_L3 x1 x2 x3 x4 S L) (fun q => (q.2.1 0 65 = 0) ∧ (q.2.2 0 63 = v63)) := by
  unfold fL_X8_restAt_L3
  exact uB_X8_restAt_L3 x1 x2 x3 2000 x4 S L hS hL
set_option maxHeartbeats 1000000 in
set_option maxRecDepth 100000 in
theorem u_X8_restAt {v63 : Int64} (S : Tr) (L : Lo) (x1 : Int32) (x2 : Int32) (x3 : Int32) (hS : S 0 65 = 0) (hL : L 0 63 = v63)  : Ep (f_X8_restAt S L x1 x2 x3) (fun q => (q.2.1 0 65 = 0) ∧ (q.2.2 0 63 = v63)) := by
  unfold f_X8_restAt
  exact uL_X8_restAt_L3 x1 x2 x3 0 S L hS hL
set_option maxHeartbeats 1000000 in
set_option maxRecDepth 100000 in
theorem u_X8_rests {v63 : Int64} (S : Tr) (L : Lo) (x1 : Int32) (x2 : Int32) (hS : S 0 65 = 0) (hL : L 0 63 = v63)  : Ep (f_X8_rests S L x1 x2) (fun q => (q.2.1 0 65 = 0) ∧ (q.2.2 0 63 = v63)) := by
  unfold f_X8_rests
  refine Ep_lt (fun S_1 eS_1 => ?_)
  have hS_1 : S_1 0 65 = 0 := by rw [eS_1]; exact s65_s hS (by omega)
  refine Ep_any (fun r2 => ?_)
  refine Ep_ite (fun _ => ?_) (fun _ => ?_)
  · exact Ep_some ⟨hS_1, hL⟩
  · refine Ep_bd (u_X8_restAt S_1 L x1 x2 (-1 : Int32) hS_1 hL) (fun q hq => ?_)
    refine Ep_lt (fun r6 er6 => ?_)
    refine Ep_lt (fun S_7 eS_7 => ?_)
    have hS_7 : S_7 0 65 = 0 := by rw [eS_7]; exact hq.1
    refine Ep_lt (fun L_8 eL_8 => ?_)
    have hL_8 : L_8 0 63 = v63 := by rw [eL_8]; exact hq.2
    exact Ep_some ⟨hS_7, hL_8⟩
set_option maxHeartbeats 1000000 in
set_option maxRecDepth 100000 in
theorem u_X8_rest {v63 : Int64} (S : Tr) (L : Lo) (x1 : Int32) (x2 : Int32) (x3 : Int32) (hS : S 0 65 = 0) (hL : L 0 63 = v63)  : Ep (f_X8_rest S L x1 x2 x3) (fun q => (q.2.1 0 65 = 0) ∧ (q.2.2 0 63 = v63)) := by
  unfold f_X8_rest
  refine Ep_lt (fun S_1 eS_1 => ?_)
  have hS_1 : S_1 0 65 = 0 := by rw [eS_1]; exact s65_s hS (by omega)
  refine Ep_any (fun r2 => ?_)
  refine Ep_ite (fun _ => ?_) (fun _ => ?_)
  · exact Ep_some ⟨hS_1, hL⟩
  · refine Ep_ite (fun _ => ?_) (fun _ => ?_)
    · exact Ep_some ⟨hS_1, hL⟩
    · refine Ep_bd (u_X8_restAt S_1 L x1 x2 x3 hS_1 hL) (fun q hq => ?_)
      refine Ep_lt (fun r7 er7 => ?_)
      refine Ep_lt (fun S_8 eS_8 => ?_)
      have hS_8 : S_8 0 65 = 0 := by rw [eS_8]; exact hq.1
      refine Ep_lt (fun L_9 eL_9 => ?_)
      have hL_9 : L_9 0 63 = v63 := by rw [eL_9]; exact hq.2
      exact Ep_some ⟨hS_8, hL_9⟩
set_option maxHeartbeats 1000000 in
set_option maxRecDepth 100000 in
theorem u_X8_liftsBy {v63 : Int64} (S : Tr) (L : Lo) (x1 : Int32) (hS : S 0 65 = 0) (hL : L 0 63 = v63)  : Ep (f_X8_liftsBy S L x1) (fun q => (q.2.1 0 65 = 0) ∧ (q.2.2 0 63 = v63)) := by
  unfold f_X8_liftsBy
  refine Ep_bd (u_X8_layTried S hS) (fun S_1 hS_1 => ?_)
  refine Ep_lt (fun S_4 eS_4 => ?_)
  have hS_4 : S_4 0 65 = 0 := by rw [eS_4]; exact s65_s hS_1 (by omega)
  refine Ep_bd (u_X8_toEnd S_4 L hS_4 hL) (fun q hq => ?_)
  refine Ep_lt (fun S_5 eS_5 => ?_)
  have hS_5 : S_5 0 65 = 0 := by rw [eS_5]; exact hq.1
  refine Ep_lt (fun L_6 eL_6 => ?_)
  have hL_6 : L_6 0 63 = v63 := by rw [eL_6]; exact hq.2
  refine Ep_any (fun r9 => ?_)
  exact Ep_some ⟨hS_5, hL_6⟩
set_option maxHeartbeats 1000000 in
set_option maxRecDepth 100000 in
theorem u_X8_byRule {v63 : Int64} (S : Tr) (L : Lo) (x1 : Int32) (hS : S 0 65 = 0) (hL : L 0 63 = v63)  : Ep (f_X8_byRule S L x1) (fun q => (q.2.1 0 65 = 0) ∧ (q.2.2 0 63 = v63)) := by
  unfold f_X8_byRule
  refine Ep_lt (fun S_1 eS_1 => ?_)
  have hS_1 : S_1 0 65 = 0 := by rw [eS_1]; exact s65_s hS (by omega)
  refine Ep_any (fun r2 => ?_)
  refine Ep_ite (fun _ => ?_) (fun _ => ?_)
  · exact Ep_some ⟨hS_1, hL⟩
  · refine Ep_bd (u_X8_liftsBy S_1 L x1 hS_1 hL) (fun q hq => ?_)
    refine Ep_lt (fun r6 er6 => ?_)
    refine Ep_lt (fun S_7 eS_7 => ?_)
    have hS_7 : S_7 0 65 = 0 := by rw [eS_7]; exact hq.1
    refine Ep_lt (fun L_8 eL_8 => ?_)
    have hL_8 : L_8 0 63 = v63 := by rw [eL_8]; exact hq.2
    exact Ep_some ⟨hS_7, hL_8⟩
set_option maxHeartbeats 1000000 in
set_option maxRecDepth 100000 in
theorem uB_X8_bestRule_L9 {v63 : Int64}    (N : Nat) : ∀ (x1 : Int32) (x2 : Int32) (S : Tr) (L : Lo), S 0 65 = 0 → L 0 63 = v63 → Ep (lpF (fun _ _ _ _ => none) (fB_X8_bestRule_L9) N x1 x2 S L) (fun q => (q.2.1 0 65 = 0) ∧ (q.2.2 0 63 = v63)) := by
  induction N with
  | zero => intro x1 x2 S L _ _; exact Ep_none
  | succ N ih =>
    intro x1 x2 S L hS hL
    show Ep (fB_X8_bestRule_L9 (lpF (fun _ _ _ _ => none) (fB_X8_bestRule_L9) N) x1 x2 S L) _
    have hk9 := ih
    clear ih
    generalize lpF (fun _ _ _ _ => none) (fB_X8_bestRule_L9) N = k9 at hk9 ⊢
    unfold fB_X8_bestRule_L9
    refine Ep_ite (fun _ => ?_) (fun _ => ?_)
    · exact Ep_some ⟨hS, hL⟩
    · refine Ep_bd (u_X8_liftsBy S L x2 hS hL) (fun q hq => ?_)
      refine Ep_lt (fun r3 er3 => ?_)
      refine Ep_lt (fun S_4 eS_4 => ?_)
      have hS_4 : S_4 0 65 = 0 := by rw [eS_4]; exact hq.1
      refine Ep_lt (fun L_5 eL_5 => ?_)
      have hL_5 : L_5 0 63 = v63 := by rw [eL_5]; exact hq.2
      refine Ep_bd (u_X8_liftsBy S_4 L_5 x1 hS_4 hL_5) (fun q hq => ?_)
      refine Ep_lt (fun r8 er8 => ?_)
      refine Ep_lt (fun S_9 eS_9 => ?_)
      have hS_9 : S_9 0 65 = 0 := by rw [eS_9]; exact hq.1
      refine Ep_lt (fun L_10 eL_10 => ?_)
      have hL_10 : L_10 0 63 = v63 := by rw [eL_10]; exact hq.2
      refine Ep_ite (fun _ => ?_) (fun _ => ?_)
      · refine Ep_lt (fun y14 ey14 => ?_)
        exact hk9 x1 y14 S_9 L_10 hS_9 hL_10
      · refine Ep_lt (fun y15 ey15 => ?_)
        exact hk9 x2 y15 S_9 L_10 hS_9 hL_10
set_option maxHeartbeats 1000000 in
set_option maxRecDepth 100000 in
theorem uL_X8_bestRule_L9 {v63 : Int64}    (x1 : Int32) (x2 : Int32) (S : Tr) (L : Lo) (hS : S 0 65 = 0) (hL : L 0 63 = v63) : Ep (fL_X8_bestRule_L9 x1 x2 S L) (fun q => (q.2.1 0 65 = 0) ∧ (q.2.2 0 63 = v63)) := by
  unfold fL_X8_bestRule_L9
  exact uB_X8_bestRule_L9 2000 x1 x2 S L hS hL
set_option maxHeartbeats 1000000 in
set_option maxRecDepth 100000 in
theorem u_X8_bestRule {v63 : Int64} (S : Tr) (L : Lo) (hS : S 0 65 = 0) (hL : L 0 63 = v63)  : Ep (f_X8_bestRule S L) (fun q => (q.2.1 0 65 = 0) ∧ (q.2.2 0 63 = v63)) := by
  unfold f_X8_bestRule
  refine Ep_lt (fun S_1 eS_1 => ?_)
  have hS_1 : S_1 0 65 = 0 := by rw [eS_1]; exact s65_s hS (by omega)
  exact uL_X8_bestRule_L9 0 1 S_1 L hS_1 hL
set_option maxHeartbeats 1000000 in
set_option maxRecDepth 100000 in
theorem uJ_X8_missed_J163 {v63 : Int64} (x3 : Int32) (S : Tr) (L : Lo) (hS : S 0 65 = 0) (hL : L 0 63 = v63)  : Ep (fJ_X8_missed_J163 x3 S L) (fun q => (q.2.1 0 65 = 0) ∧ (q.2.2 0 63 = v63)) := by
  unfold fJ_X8_missed_J163
  refine Ep_lt (fun S_18 eS_18 => ?_)
  have hS_18 : S_18 0 65 = 0 := by rw [eS_18]; exact s65_s hS (by omega)
  refine Ep_bd (u_X8_outs S_18 L (1 : Int32) hS_18 hL) (fun q hq => ?_)
  refine Ep_lt (fun S_19 eS_19 => ?_)
  have hS_19 : S_19 0 65 = 0 := by rw [eS_19]; exact hq.1
  refine Ep_lt (fun L_20 eL_20 => ?_)
  have hL_20 : L_20 0 63 = v63 := by rw [eL_20]; exact hq.2
  refine Ep_lt (fun S_23 eS_23 => ?_)
  have hS_23 : S_23 0 65 = 0 := by rw [eS_23]; exact s65_s hS_19 (by omega)
  refine Ep_ck ?_
  exact Ep_some ⟨hS_23, hL_20⟩
set_option maxHeartbeats 1000000 in
set_option maxRecDepth 100000 in
theorem uB_X8_missed_L145 {v63 : Int64} (x3 : Int32)   (N : Nat) : ∀ (S : Tr) (L : Lo), S 0 65 = 0 → L 0 63 = v63 → Ep (lpF (fun _ _ => none) (fB_X8_missed_L145 x3) N S L) (fun q => (q.2.1 0 65 = 0) ∧ (q.2.2 0 63 = v63)) := by
  induction N with
  | zero => intro S L _ _; exact Ep_none
  | succ N ih =>
    intro S L hS hL
    show Ep (fB_X8_missed_L145 x3 (lpF (fun _ _ => none) (fB_X8_missed_L145 x3) N) S L) _
    have hk145 := ih
    clear ih
    generalize lpF (fun _ _ => none) (fB_X8_missed_L145 x3) N = k145 at hk145 ⊢
    unfold fB_X8_missed_L145
    refine Ep_ite (fun _ => ?_) (fun _ => ?_)
    · exact uJ_X8_missed_J163 x3 S L hS hL
    · refine Ep_bd (u_X8_goOn S L (1 : Int32) hS hL) (fun q hq => ?_)
      refine Ep_lt (fun S_25 eS_25 => ?_)
      have hS_25 : S_25 0 65 = 0 := by rw [eS_25]; exact hq.1
      refine Ep_lt (fun L_26 eL_26 => ?_)
      have hL_26 : L_26 0 63 = v63 := by rw [eL_26]; exact hq.2
      exact hk145 S_25 L_26 hS_25 hL_26
set_option maxHeartbeats 1000000 in
set_option maxRecDepth 100000 in
theorem uL_X8_missed_L145 {v63 : Int64} (x3 : Int32)   (S : Tr) (L : Lo) (hS : S 0 65 = 0) (hL : L 0 63 = v63) : Ep (fL_X8_missed_L145 x3 S L) (fun q => (q.2.1 0 65 = 0) ∧ (q.2.2 0 63 = v63)) := by
  unfold fL_X8_missed_L145
  exact uB_X8_missed_L145 x3 2000 S L hS hL
set_option maxHeartbeats 1000000 in
set_option maxRecDepth 100000 in
theorem uJ_X8_missed_J124 {v63 : Int64} (x1 : Int32) (x2 : Int32) (S : Tr) (L : Lo) (hS : S 0 65 = 0) (hL : L 0 63 = v63)  : Ep (fJ_X8_missed_J124 x1 x2 S L) (fun q => (q.2.1 0 65 = 0) ∧ (q.2.2 0 63 = v63)) := by
  unfold fJ_X8_missed_J124
  refine Ep_ite (fun _ => ?_) (fun _ => ?_)
  · exact Ep_some ⟨hS, hL⟩
  · refine Ep_ite (fun _ => ?_) (fun _ => ?_)
    · exact Ep_some ⟨hS, hL⟩
    · refine Ep_ck ?_
      refine Ep_lt (fun y13 ey13 => ?_)
      refine Ep_bd (u_X8_layTried S hS) (fun S_14 hS_14 => ?_)
      exact uL_X8_missed_L145 y13 S_14 L hS_14 hL
set_option maxHeartbeats 1000000 in
set_option maxRecDepth 100000 in
theorem uJ_X8_missed_J111 {v63 : Int64} (k23 : Int32 → Tr → Lo → Option (Int32 × Tr × Lo)) (x1 : Int32) (x2 : Int32) (S : Tr) (L : Lo) (hS : S 0 65 = 0) (hL : L 0 63 = v63) (hk23 : ∀ (x2 : Int32) (S : Tr) (L : Lo), S 0 65 = 0 → L 0 63 = v63 → Ep (k23 x2 S L) (fun q => (q.2.1 0 65 = 0) ∧ (q.2.2 0 63 = v63))) : Ep (fJ_X8_missed_J111 k23 x1 x2 S L) (fun q => (q.2.1 0 65 = 0) ∧ (q.2.2 0 63 = v63)) := by
  unfold fJ_X8_missed_J111
  refine Ep_lt (fun S_40 eS_40 => ?_)
  have hS_40 : S_40 0 65 = 0 := by rw [eS_40]; exact s65_s hS (by omega)
  exact hk23 x2 S_40 L hS_40 hL
set_option maxHeartbeats 1000000 in
set_option maxRecDepth 100000 in
theorem uJ_X8_missed_J90 {v63 : Int64} (k23 : Int32 → Tr → Lo → Option (Int32 × Tr × Lo)) (x1 : Int32) (x2 : Int32) (S : Tr) (L : Lo) (hS : S 0 65 = 0) (hL : L 0 63 = v63) (hk23 : ∀ (x2 : Int32) (S : Tr) (L : Lo), S 0 65 = 0 → L 0 63 = v63 → Ep (k23 x2 S L) (fun q => (q.2.1 0 65 = 0) ∧ (q.2.2 0 63 = v63))) : Ep (fJ_X8_missed_J90 k23 x1 x2 S L) (fun q => (q.2.1 0 65 = 0) ∧ (q.2.2 0 63 = v63)) := by
  unfold fJ_X8_missed_J90
  refine Ep_bd (u_X8_ins S (1 : Int32) hS) (fun S_36 hS_36 => ?_)
  refine Ep_ite (fun _ => ?_) (fun _ => ?_)
  · exact uJ_X8_missed_J111 k23 x1 x2 S_36 L hS_36 hL hk23
  · refine Ep_bd (u_X8_onTheWay S_36 L (1 : Int32) hS_36 hL) (fun q hq => ?_)
    refine Ep_lt (fun S_41 eS_41 => ?_)
    have hS_41 : S_41 0 65 = 0 := by rw [eS_41]; exact hq.1
    refine Ep_lt (fun L_42 eL_42 => ?_)
    have hL_42 : L_42 0 63 = v63 := by rw [eL_42]; exact hq.2
    exact uJ_X8_missed_J111 k23 x1 x2 S_41 L_42 hS_41 hL_42 hk23
set_option maxHeartbeats 1000000 in
set_option maxRecDepth 100000 in
theorem uB_X8_missed_L50 {v63 : Int64} (k23 : Int32 → Tr → Lo → Option (Int32 × Tr × Lo)) (S : Tr) (L : Lo) (x1 : Int32) (hS : S 0 65 = 0) (hL : L 0 63 = v63) (hk23 : ∀ (x2 : Int32) (S : Tr) (L : Lo), S 0 65 = 0 → L 0 63 = v63 → Ep (k23 x2 S L) (fun q => (q.2.1 0 65 = 0) ∧ (q.2.2 0 63 = v63))) (N : Nat) : ∀ (x2 : Int32) (x3 : Int32), Ep (lpF (fun _ _ => none) (fB_X8_missed_L50 k23 S L x1) N x2 x3) (fun q => (q.2.1 0 65 = 0) ∧ (q.2.2 0 63 = v63)) := by
  induction N with
  | zero => intro x2 x3; exact Ep_none
  | succ N ih =>
    intro x2 x3
    show Ep (fB_X8_missed_L50 k23 S L x1 (lpF (fun _ _ => none) (fB_X8_missed_L50 k23 S L x1) N) x2 x3) _
    have hk50 := ih
    clear ih
    generalize lpF (fun _ _ => none) (fB_X8_missed_L50 k23 S L x1) N = k50 at hk50 ⊢
    unfold fB_X8_missed_L50
    refine Ep_ite (fun _ => ?_) (fun _ => ?_)
    · exact uJ_X8_missed_J90 k23 x1 x2 S L hS hL hk23
    · refine Ep_ck ?_
      refine Ep_ite (fun _ => ?_) (fun _ => ?_)
      · refine Ep_ck ?_
        refine Ep_ite (fun _ => ?_) (fun _ => ?_)
        · refine Ep_lt (fun y51 ey51 => ?_)
          exact hk50 x3 y51
        · refine Ep_lt (fun y50 ey50 => ?_)
          exact hk50 x2 y50
      · refine Ep_lt (fun y47 ey47 => ?_)
        exact hk50 x2 y47
set_option maxHeartbeats 1000000 in
set_option maxRecDepth 100000 in
theorem uL_X8_missed_L50 {v63 : Int64} (k23 : Int32 → Tr → Lo → Option (Int32 × Tr × Lo)) (S : Tr) (L : Lo) (x1 : Int32) (hS : S 0 65 = 0) (hL : L 0 63 = v63) (hk23 : ∀ (x2 : Int32) (S : Tr) (L : Lo), S 0 65 = 0 → L 0 63 = v63 → Ep (k23 x2 S L) (fun q => (q.2.1 0 65 = 0) ∧ (q.2.2 0 63 = v63))) (x2 : Int32) (x3 : Int32)  : Ep (fL_X8_missed_L50 k23 S L x1 x2 x3) (fun q => (q.2.1 0 65 = 0) ∧ (q.2.2 0 63 = v63)) := by
  unfold fL_X8_missed_L50
  exact uB_X8_missed_L50 k23 S L x1 hS hL hk23 2000 x2 x3
set_option maxHeartbeats 1000000 in
set_option maxRecDepth 100000 in
theorem uB_X8_missed_L23 {v63 : Int64} (x1 : Int32)   (N : Nat) : ∀ (x2 : Int32) (S : Tr) (L : Lo), S 0 65 = 0 → L 0 63 = v63 → Ep (lpF (fun _ _ _ => none) (fB_X8_missed_L23 x1) N x2 S L) (fun q => (q.2.1 0 65 = 0) ∧ (q.2.2 0 63 = v63)) := by
  induction N with
  | zero => intro x2 S L _ _; exact Ep_none
  | succ N ih =>
    intro x2 S L hS hL
    show Ep (fB_X8_missed_L23 x1 (lpF (fun _ _ _ => none) (fB_X8_missed_L23 x1) N) x2 S L) _
    have hk23 := ih
    clear ih
    generalize lpF (fun _ _ _ => none) (fB_X8_missed_L23 x1) N = k23 at hk23 ⊢
    unfold fB_X8_missed_L23
    refine Ep_ite (fun _ => ?_) (fun _ => ?_)
    · exact uJ_X8_missed_J124 x1 x2 S L hS hL
    · refine Ep_ite (fun _ => ?_) (fun _ => ?_)
      · exact uJ_X8_missed_J124 x1 x2 S L hS hL
      · refine Ep_bd (u_X8_outs S L (1 : Int32) hS hL) (fun q hq => ?_)
        refine Ep_lt (fun S_30 eS_30 => ?_)
        have hS_30 : S_30 0 65 = 0 := by rw [eS_30]; exact hq.1
        refine Ep_lt (fun L_31 eL_31 => ?_)
        have hL_31 : L_31 0 63 = v63 := by rw [eL_31]; exact hq.2
        refine Ep_lt (fun y34 ey34 => ?_)
        exact uL_X8_missed_L50 k23 S_30 L_31 x1 hS_30 hL_31 hk23 x2 y34
set_option maxHeartbeats 1000000 in
set_option maxRecDepth 100000 in
theorem uL_X8_missed_L23 {v63 : Int64} (x1 : Int32)   (x2 : Int32) (S : Tr) (L : Lo) (hS : S 0 65 = 0) (hL : L 0 63 = v63) : Ep (fL_X8_missed_L23 x1 x2 S L) (fun q => (q.2.1 0 65 = 0) ∧ (q.2.2 0 63 = v63)) := by
  unfold fL_X8_missed_L23
  exact uB_X8_missed_L23 x1 2000 x2 S L hS hL
set_option maxHeartbeats 1000000 in
set_option maxRecDepth 100000 in
theorem u_X8_missed {v63 : Int64} (S : Tr) (L : Lo) (x1 : Int32) (hS : S 0 65 = 0) (hL : L 0 63 = v63)  : Ep (f_X8_missed S L x1) (fun q => (q.2.1 0 65 = 0) ∧ (q.2.2 0 63 = v63)) := by
  unfold f_X8_missed
  refine Ep_lt (fun S_1 eS_1 => ?_)
  have hS_1 : S_1 0 65 = 0 := by rw [eS_1]; exact s65_s hS (by omega)
  refine Ep_any (fun r2 => ?_)
  refine Ep_ite (fun _ => ?_) (fun _ => ?_)
  · exact Ep_some ⟨hS_1, hL⟩
  · refine Ep_bd (u_X8_layTried S_1 hS_1) (fun S_6 hS_6 => ?_)
    exact uL_X8_missed_L23 x1 (-2) S_6 L hS_6 hL
set_option maxHeartbeats 1000000 in
set_option maxRecDepth 100000 in
theorem uB_X8_falls_L31 {v63 : Int64} (S : Tr) (L : Lo) (hS : S 0 65 = 0) (hL : L 0 63 = v63)  (N : Nat) : ∀ (x1 : Int32) (x2 : Int32), Ep (lpF (fun _ _ => none) (fB_X8_falls_L31 S L) N x1 x2) (fun q => (q.2.1 0 65 = 0) ∧ (q.2.2 0 63 = v63)) := by
  induction N with
  | zero => intro x1 x2; exact Ep_none
  | succ N ih =>
    intro x1 x2
    show Ep (fB_X8_falls_L31 S L (lpF (fun _ _ => none) (fB_X8_falls_L31 S L) N) x1 x2) _
    have hk31 := ih
    clear ih
    generalize lpF (fun _ _ => none) (fB_X8_falls_L31 S L) N = k31 at hk31 ⊢
    unfold fB_X8_falls_L31
    refine Ep_ite (fun _ => ?_) (fun _ => ?_)
    · exact Ep_some ⟨hS, hL⟩
    · refine Ep_ck ?_
      refine Ep_ite (fun _ => ?_) (fun _ => ?_)
      · refine Ep_ck ?_
        refine Ep_ite (fun _ => ?_) (fun _ => ?_)
        · refine Ep_lt (fun y17 ey17 => ?_)
          refine Ep_lt (fun y18 ey18 => ?_)
          exact hk31 y17 y18
        · refine Ep_lt (fun y19 ey19 => ?_)
          refine Ep_lt (fun y20 ey20 => ?_)
          exact hk31 y19 y20
      · refine Ep_lt (fun y13 ey13 => ?_)
        refine Ep_lt (fun y14 ey14 => ?_)
        exact hk31 y13 y14
set_option maxHeartbeats 1000000 in
set_option maxRecDepth 100000 in
theorem uL_X8_falls_L31 {v63 : Int64} (S : Tr) (L : Lo) (hS : S 0 65 = 0) (hL : L 0 63 = v63)  (x1 : Int32) (x2 : Int32)  : Ep (fL_X8_falls_L31 S L x1 x2) (fun q => (q.2.1 0 65 = 0) ∧ (q.2.2 0 63 = v63)) := by
  unfold fL_X8_falls_L31
  exact uB_X8_falls_L31 S L hS hL 2000 x1 x2
set_option maxHeartbeats 1000000 in
set_option maxRecDepth 100000 in
theorem u_X8_falls {v63 : Int64} (S : Tr) (L : Lo) (hS : S 0 65 = 0) (hL : L 0 63 = v63)  : Ep (f_X8_falls S L) (fun q => (q.2.1 0 65 = 0) ∧ (q.2.2 0 63 = v63)) := by
  unfold f_X8_falls
  refine Ep_lt (fun S_1 eS_1 => ?_)
  have hS_1 : S_1 0 65 = 0 := by rw [eS_1]; exact s65_s hS (by omega)
  refine Ep_ite (fun _ => ?_) (fun _ => ?_)
  · refine Ep_bd (u_X8_layTried S_1 hS_1) (fun S_3 hS_3 => ?_)
    refine Ep_bd (u_X8_goOn S_3 L (1 : Int32) hS_3 hL) (fun q hq => ?_)
    refine Ep_lt (fun S_6 eS_6 => ?_)
    have hS_6 : S_6 0 65 = 0 := by rw [eS_6]; exact hq.1
    refine Ep_lt (fun L_7 eL_7 => ?_)
    have hL_7 : L_7 0 63 = v63 := by rw [eL_7]; exact hq.2
    exact uL_X8_falls_L31 S_6 L_7 hS_6 hL_7 0 0
  · exact Ep_some ⟨hS_1, hL⟩
set_option maxHeartbeats 1000000 in
set_option maxRecDepth 100000 in
theorem uJ_X8_asking_J76 {v63 : Int64} (x1 : Int32) (S : Tr) (L : Lo) (hS : S 0 65 = 0) (hL : L 0 63 = v63)  : Ep (fJ_X8_asking_J76 x1 S L) (fun q => (q.2.1 0 65 = 0) ∧ (q.2.2 0 63 = v63)) := by
  unfold fJ_X8_asking_J76
  refine Ep_any (fun r11 => ?_)
  refine Ep_ite (fun _ => ?_) (fun _ => ?_)
  · exact Ep_some ⟨hS, hL⟩
  · refine Ep_any (fun r15 => ?_)
    exact Ep_some ⟨hS, hL⟩
set_option maxHeartbeats 1000000 in
set_option maxRecDepth 100000 in
theorem uJ_X8_asking_J68 {v63 : Int64} (k20 : Tr → Lo → Option (Int32 × Tr × Lo)) (x1 : Int32) (S : Tr) (L : Lo) (hS : S 0 65 = 0) (hL : L 0 63 = v63) (hk20 : ∀ (S : Tr) (L : Lo), S 0 65 = 0 → L 0 63 = v63 → Ep (k20 S L) (fun q => (q.2.1 0 65 = 0) ∧ (q.2.2 0 63 = v63))) : Ep (fJ_X8_asking_J68 k20 x1 S L) (fun q => (q.2.1 0 65 = 0) ∧ (q.2.2 0 63 = v63)) := by
  unfold fJ_X8_asking_J68
  refine Ep_bd (u_X8_goOn S L (1 : Int32) hS hL) (fun q hq => ?_)
  refine Ep_lt (fun S_19 eS_19 => ?_)
  have hS_19 : S_19 0 65 = 0 := by rw [eS_19]; exact hq.1
  refine Ep_lt (fun L_20 eL_20 => ?_)
  have hL_20 : L_20 0 63 = v63 := by rw [eL_20]; exact hq.2
  exact hk20 S_19 L_20 hS_19 hL_20
set_option maxHeartbeats 1000000 in
set_option maxRecDepth 100000 in
theorem uB_X8_asking_L33 {v63 : Int64} (k20 : Tr → Lo → Option (Int32 × Tr × Lo)) (L : Lo) (x1 : Int32) (hL : L 0 63 = v63) (hk20 : ∀ (S : Tr) (L : Lo), S 0 65 = 0 → L 0 63 = v63 → Ep (k20 S L) (fun q => (q.2.1 0 65 = 0) ∧ (q.2.2 0 63 = v63))) (N : Nat) : ∀ (x2 : Int32) (S : Tr), S 0 65 = 0 → Ep (lpF (fun _ _ => none) (fB_X8_asking_L33 k20 L x1) N x2 S) (fun q => (q.2.1 0 65 = 0) ∧ (q.2.2 0 63 = v63)) := by
  induction N with
  | zero => intro x2 S _; exact Ep_none
  | succ N ih =>
    intro x2 S hS
    show Ep (fB_X8_asking_L33 k20 L x1 (lpF (fun _ _ => none) (fB_X8_asking_L33 k20 L x1) N) x2 S) _
    have hk33 := ih
    clear ih
    generalize lpF (fun _ _ => none) (fB_X8_asking_L33 k20 L x1) N = k33 at hk33 ⊢
    unfold fB_X8_asking_L33
    refine Ep_ite (fun _ => ?_) (fun _ => ?_)
    · exact uJ_X8_asking_J68 k20 x1 S L hS hL hk20
    · refine Ep_ck ?_
      refine Ep_ite (fun _ => ?_) (fun _ => ?_)
      · refine Ep_lt (fun y25 ey25 => ?_)
        exact hk33 y25 S hS
      · refine Ep_bd (u_X8_turns S (1 : Int32) x2 hS) (fun q hq => ?_)
        refine Ep_lt (fun r26 er26 => ?_)
        refine Ep_lt (fun S_27 eS_27 => ?_)
        have hS_27 : S_27 0 65 = 0 := by rw [eS_27]; exact hq
        refine Ep_lt (fun y30 ey30 => ?_)
        exact hk33 y30 S_27 hS_27
set_option maxHeartbeats 1000000 in
set_option maxRecDepth 100000 in
theorem uL_X8_asking_L33 {v63 : Int64} (k20 : Tr → Lo → Option (Int32 × Tr × Lo)) (L : Lo) (x1 : Int32) (hL : L 0 63 = v63) (hk20 : ∀ (S : Tr) (L : Lo), S 0 65 = 0 → L 0 63 = v63 → Ep (k20 S L) (fun q => (q.2.1 0 65 = 0) ∧ (q.2.2 0 63 = v63))) (x2 : Int32) (S : Tr) (hS : S 0 65 = 0) : Ep (fL_X8_asking_L33 k20 L x1 x2 S) (fun q => (q.2.1 0 65 = 0) ∧ (q.2.2 0 63 = v63)) := by
  unfold fL_X8_asking_L33
  exact uB_X8_asking_L33 k20 L x1 hL hk20 2000 x2 S hS
set_option maxHeartbeats 1000000 in
set_option maxRecDepth 100000 in
theorem uB_X8_asking_L20 {v63 : Int64} (x1 : Int32)   (N : Nat) : ∀ (S : Tr) (L : Lo), S 0 65 = 0 → L 0 63 = v63 → Ep (lpF (fun _ _ => none) (fB_X8_asking_L20 x1) N S L) (fun q => (q.2.1 0 65 = 0) ∧ (q.2.2 0 63 = v63)) := by
  induction N with
  | zero => intro S L _ _; exact Ep_none
  | succ N ih =>
    intro S L hS hL
    show Ep (fB_X8_asking_L20 x1 (lpF (fun _ _ => none) (fB_X8_asking_L20 x1) N) S L) _
    have hk20 := ih
    clear ih
    generalize lpF (fun _ _ => none) (fB_X8_asking_L20 x1) N = k20 at hk20 ⊢
    unfold fB_X8_asking_L20
    refine Ep_ite (fun _ => ?_) (fun _ => ?_)
    · exact uJ_X8_asking_J76 x1 S L hS hL
    · exact uL_X8_asking_L33 k20 L x1 hL hk20 0 S hS
set_option maxHeartbeats 1000000 in
set_option maxRecDepth 100000 in
theorem uL_X8_asking_L20 {v63 : Int64} (x1 : Int32)   (S : Tr) (L : Lo) (hS : S 0 65 = 0) (hL : L 0 63 = v63) : Ep (fL_X8_asking_L20 x1 S L) (fun q => (q.2.1 0 65 = 0) ∧ (q.2.2 0 63 = v63)) := by
  unfold fL_X8_asking_L20
  exact uB_X8_asking_L20 x1 2000 S L hS hL
set_option maxHeartbeats 1000000 in
set_option maxRecDepth 100000 in
theorem u_X8_asking {v63 : Int64} (S : Tr) (L : Lo) (hS : S 0 65 = 0) (hL : L 0 63 = v63)  : Ep (f_X8_asking S L) (fun q => (q.2.1 0 65 = 0) ∧ (q.2.2 0 63 = v63)) := by
  unfold f_X8_asking
  refine Ep_lt (fun S_1 eS_1 => ?_)
  have hS_1 : S_1 0 65 = 0 := by rw [eS_1]; exact s65_s hS (by omega)
  refine Ep_bd (u_X8_liftsBy S_1 L (S_1 23 0) hS_1 hL) (fun q hq => ?_)
  refine Ep_lt (fun r2 er2 => ?_)
  refine Ep_lt (fun S_3 eS_3 => ?_)
  have hS_3 : S_3 0 65 = 0 := by rw [eS_3]; exact hq.1
  refine Ep_lt (fun L_4 eL_4 => ?_)
  have hL_4 : L_4 0 63 = v63 := by rw [eL_4]; exact hq.2
  refine Ep_bd (u_X8_layTried S_3 hS_3) (fun S_7 hS_7 => ?_)
  exact uL_X8_asking_L20 r2 S_7 L_4 hS_7 hL_4
set_option maxHeartbeats 1000000 in
set_option maxRecDepth 100000 in
theorem u_X8_feet {v63 : Int64} (S : Tr) (L : Lo) (hS : S 0 65 = 0) (hL : L 0 63 = v63)  : Ep (f_X8_feet S L) (fun q => (q.2.1 0 65 = 0) ∧ (q.2.2 0 63 = v63)) := by
  unfold f_X8_feet
  refine Ep_lt (fun S_1 eS_1 => ?_)
  have hS_1 : S_1 0 65 = 0 := by rw [eS_1]; exact s65_s hS (by omega)
  refine Ep_bd (u_X8_layTried S_1 hS_1) (fun S_2 hS_2 => ?_)
  refine Ep_bd (u_X8_toEnd S_2 L hS_2 hL) (fun q hq => ?_)
  refine Ep_lt (fun S_5 eS_5 => ?_)
  have hS_5 : S_5 0 65 = 0 := by rw [eS_5]; exact hq.1
  refine Ep_lt (fun L_6 eL_6 => ?_)
  have hL_6 : L_6 0 63 = v63 := by rw [eL_6]; exact hq.2
  exact Ep_some ⟨hS_5, hL_6⟩
set_option maxHeartbeats 1000000 in
set_option maxRecDepth 100000 in
theorem uJ_X8_atFirst_J134 (x1 : Int32) (S : Tr) (hS : S 0 65 = 0)  : Ep (fJ_X8_atFirst_J134 x1 S) (fun q => (q 0 65 = 0)) := by
  unfold fJ_X8_atFirst_J134
  refine Ep_ck ?_
  refine Ep_lt (fun S_5 eS_5 => ?_)
  have hS_5 : S_5 0 65 = 0 := by rw [eS_5]; exact s65_s hS (by omega)
  refine Ep_lt (fun S_6 eS_6 => ?_)
  have hS_6 : S_6 0 65 = 0 := by rw [eS_6]; exact s65_s hS_5 (by omega)
  refine Ep_lt (fun S_7 eS_7 => ?_)
  have hS_7 : S_7 0 65 = 0 := by rw [eS_7]; exact s65_s hS_6 (by omega)
  exact Ep_some hS_7
set_option maxHeartbeats 1000000 in
set_option maxRecDepth 100000 in
theorem uB_X8_atFirst_L64 (x1 : Int32)   (N : Nat) : ∀ (x2 : Int32) (S : Tr), S 0 65 = 0 → Ep (lpF (fun _ _ => none) (fB_X8_atFirst_L64 x1) N x2 S) (fun q => (q 0 65 = 0)) := by
  induction N with
  | zero => intro x2 S _; exact Ep_none
  | succ N ih =>
    intro x2 S hS
    show Ep (fB_X8_atFirst_L64 x1 (lpF (fun _ _ => none) (fB_X8_atFirst_L64 x1) N) x2 S) _
    have hk64 := ih
    clear ih
    generalize lpF (fun _ _ => none) (fB_X8_atFirst_L64 x1) N = k64 at hk64 ⊢
    unfold fB_X8_atFirst_L64
    refine Ep_ite (fun _ => ?_) (fun _ => ?_)
    · exact uJ_X8_atFirst_J134 x1 S hS
    · refine Ep_ck ?_
      refine Ep_ck ?_
      refine Ep_lt (fun S_10 eS_10 => ?_)
      have hS_10 : S_10 0 65 = 0 := by rw [eS_10]; exact s65_s hS (by omega)
      refine Ep_lt (fun S_11 eS_11 => ?_)
      have hS_11 : S_11 0 65 = 0 := by rw [eS_11]; exact s65_s hS_10 (by omega)
      refine Ep_lt (fun S_12 eS_12 => ?_)
      have hS_12 : S_12 0 65 = 0 := by rw [eS_12]; exact s65_s hS_11 (by omega)
      refine Ep_lt (fun S_13 eS_13 => ?_)
      have hS_13 : S_13 0 65 = 0 := by rw [eS_13]; exact s65_s hS_12 (by omega)
      refine Ep_lt (fun y14 ey14 => ?_)
      exact hk64 y14 S_13 hS_13
set_option maxHeartbeats 1000000 in
set_option maxRecDepth 100000 in
theorem uL_X8_atFirst_L64 (x1 : Int32)   (x2 : Int32) (S : Tr) (hS : S 0 65 = 0) : Ep (fL_X8_atFirst_L64 x1 x2 S) (fun q => (q 0 65 = 0)) := by
  unfold fL_X8_atFirst_L64
  exact uB_X8_atFirst_L64 x1 2000 x2 S hS
set_option maxHeartbeats 1000000 in
set_option maxRecDepth 100000 in
theorem uB_X8_atFirst_L40 (x1 : Int32)   (N : Nat) : ∀ (x2 : Int32) (S : Tr), S 0 65 = 0 → Ep (lpF (fun _ _ => none) (fB_X8_atFirst_L40 x1) N x2 S) (fun q => (q 0 65 = 0)) := by
  induction N with
  | zero => intro x2 S _; exact Ep_none
  | succ N ih =>
    intro x2 S hS
    show Ep (fB_X8_atFirst_L40 x1 (lpF (fun _ _ => none) (fB_X8_atFirst_L40 x1) N) x2 S) _
    have hk40 := ih
    clear ih
    generalize lpF (fun _ _ => none) (fB_X8_atFirst_L40 x1) N = k40 at hk40 ⊢
    unfold fB_X8_atFirst_L40
    refine Ep_ite (fun _ => ?_) (fun _ => ?_)
    · exact uL_X8_atFirst_L64 x1 0 S hS
    · refine Ep_ck ?_
      refine Ep_lt (fun S_16 eS_16 => ?_)
      have hS_16 : S_16 0 65 = 0 := by rw [eS_16]; exact s65_s hS (by omega)
      refine Ep_lt (fun y17 ey17 => ?_)
      exact hk40 y17 S_16 hS_16
set_option maxHeartbeats 1000000 in
set_option maxRecDepth 100000 in
theorem uL_X8_atFirst_L40 (x1 : Int32)   (x2 : Int32) (S : Tr) (hS : S 0 65 = 0) : Ep (fL_X8_atFirst_L40 x1 x2 S) (fun q => (q 0 65 = 0)) := by
  unfold fL_X8_atFirst_L40
  exact uB_X8_atFirst_L40 x1 2000 x2 S hS
set_option maxHeartbeats 1000000 in
set_option maxRecDepth 100000 in
theorem uB_X8_atFirst_L2 (x1 : Int32)   (N : Nat) : ∀ (x2 : Int32) (S : Tr), S 0 65 = 0 → Ep (lpF (fun _ _ => none) (fB_X8_atFirst_L2 x1) N x2 S) (fun q => (q 0 65 = 0)) := by
  induction N with
  | zero => intro x2 S _; exact Ep_none
  | succ N ih =>
    intro x2 S hS
    show Ep (fB_X8_atFirst_L2 x1 (lpF (fun _ _ => none) (fB_X8_atFirst_L2 x1) N) x2 S) _
    have hk2 := ih
    clear ih
    generalize lpF (fun _ _ => none) (fB_X8_atFirst_L2 x1) N = k2 at hk2 ⊢
    unfold fB_X8_atFirst_L2
    refine Ep_ite (fun _ => ?_) (fun _ => ?_)
    · exact uL_X8_atFirst_L40 x1 0 S hS
    · refine Ep_ck ?_
      refine Ep_lt (fun S_19 eS_19 => ?_)
      have hS_19 : S_19 0 65 = 0 := by rw [eS_19]; exact s65_s hS (by omega)
      refine Ep_lt (fun S_20 eS_20 => ?_)
      have hS_20 : S_20 0 65 = 0 := by rw [eS_20]; exact s65_s hS_19 (by omega)
      refine Ep_lt (fun y21 ey21 => ?_)
      exact hk2 y21 S_20 hS_20
set_option maxHeartbeats 1000000 in
set_option maxRecDepth 100000 in
theorem uL_X8_atFirst_L2 (x1 : Int32)   (x2 : Int32) (S : Tr) (hS : S 0 65 = 0) : Ep (fL_X8_atFirst_L2 x1 x2 S) (fun q => (q 0 65 = 0)) := by
  unfold fL_X8_atFirst_L2
  exact uB_X8_atFirst_L2 x1 2000 x2 S hS
set_option maxHeartbeats 1000000 in
set_option maxRecDepth 100000 in
theorem u_X8_atFirst (S : Tr) (x1 : Int32) (hS : S 0 65 = 0)  : Ep (f_X8_atFirst S x1) (fun q => (q 0 65 = 0)) := by
  unfold f_X8_atFirst
  exact uL_X8_atFirst_L2 x1 0 S hS
set_option maxHeartbeats 1000000 in
set_option maxRecDepth 100000 in
theorem uB_X8_fits_L19 {v63 : Int64}    (N : Nat) : ∀ (S : Tr) (L : Lo), S 0 65 = 0 → L 0 63 = v63 → Ep (lpF (fun _ _ => none) (fB_X8_fits_L19) N S L) (fun q => (q.2.1 0 65 = 0) ∧ (q.2.2 0 63 = v63)) := by
  induction N with
  | zero => intro S L _ _; exact Ep_none
  | succ N ih =>
    intro S L hS hL
    show Ep (fB_X8_fits_L19 (lpF (fun _ _ => none) (fB_X8_fits_L19) N) S L) _
    have hk19 := ih
    clear ih
    generalize lpF (fun _ _ => none) (fB_X8_fits_L19) N = k19 at hk19 ⊢
    unfold fB_X8_fits_L19
    refine Ep_ite (fun _ => ?_) (fun _ => ?_)
    · exact Ep_some ⟨hS, hL⟩
    · refine Ep_bd (u_X8_outs S L (1 : Int32) hS hL) (fun q hq => ?_)
      refine Ep_lt (fun S_10 eS_10 => ?_)
      have hS_10 : S_10 0 65 = 0 := by rw [eS_10]; exact hq.1
      refine Ep_lt (fun L_11 eL_11 => ?_)
      have hL_11 : L_11 0 63 = v63 := by rw [eL_11]; exact hq.2
      refine Ep_bd (u_X8_ins S_10 (1 : Int32) hS_10) (fun S_14 hS_14 => ?_)
      refine Ep_any (fun r17 => ?_)
      refine Ep_ite (fun _ => ?_) (fun _ => ?_)
      · exact Ep_some ⟨hS_14, hL_11⟩
      · refine Ep_bd (u_X8_onTheWay S_14 L_11 (1 : Int32) hS_14 hL_11) (fun q hq => ?_)
        refine Ep_lt (fun S_21 eS_21 => ?_)
        have hS_21 : S_21 0 65 = 0 := by rw [eS_21]; exact hq.1
        refine Ep_lt (fun L_22 eL_22 => ?_)
        have hL_22 : L_22 0 63 = v63 := by rw [eL_22]; exact hq.2
        refine Ep_lt (fun S_25 eS_25 => ?_)
        have hS_25 : S_25 0 65 = 0 := by rw [eS_25]; exact s65_s hS_21 (by omega)
        exact hk19 S_25 L_22 hS_25 hL_22
set_option maxHeartbeats 1000000 in
set_option maxRecDepth 100000 in
theorem uL_X8_fits_L19 {v63 : Int64}    (S : Tr) (L : Lo) (hS : S 0 65 = 0) (hL : L 0 63 = v63) : Ep (fL_X8_fits_L19 S L) (fun q => (q.2.1 0 65 = 0) ∧ (q.2.2 0 63 = v63)) := by
  unfold fL_X8_fits_L19
  exact uB_X8_fits_L19 2000 S L hS hL
set_option maxHeartbeats 1000000 in
set_option maxRecDepth 100000 in
theorem u_X8_fits {v63 : Int64} (S : Tr) (L : Lo) (x1 : Int32) (x2 : Int32) (hS : S 0 65 = 0) (hL : L 0 63 = v63)  : Ep (f_X8_fits S L x1 x2) (fun q => (q.2.1 0 65 = 0) ∧ (q.2.2 0 63 = v63)) := by
  unfold f_X8_fits
  refine Ep_bd (u_X8_atFirst S (1 : Int32) hS) (fun S_1 hS_1 => ?_)
  refine Ep_bd (u_X8_plainTried S_1 hS_1) (fun S_4 hS_4 => ?_)
  refine Ep_ck ?_
  refine Ep_lt (fun S_8 eS_8 => ?_)
  have hS_8 : S_8 0 65 = 0 := by rw [eS_8]; exact s65_s hS_4 (by omega)
  exact uL_X8_fits_L19 S_8 L hS_8 hL
set_option maxHeartbeats 1000000 in
set_option maxRecDepth 100000 in
theorem uB_X8_got_L95 {v63 : Int64} (x1 : Int32)   (N : Nat) : ∀ (x2 : Int32) (x3 : Int32) (S : Tr) (L : Lo), S 0 65 = 0 → L 0 63 = v63 → Ep (lpF (fun _ _ _ _ => none) (fB_X8_got_L95 x1) N x2 x3 S L) (fun q => (q.2.1 0 65 = 0) ∧ (q.2.2 0 63 = v63)) := by
  induction N with
  | zero => intro x2 x3 S L _ _; exact Ep_none
  | succ N ih =>
    intro x2 x3 S L hS hL
    show Ep (fB_X8_got_L95 x1 (lpF (fun _ _ _ _ => none) (fB_X8_got_L95 x1) N) x2 x3 S L) _
    have hk95 := ih
    clear ih
    generalize lpF (fun _ _ _ _ => none) (fB_X8_got_L95 x1) N = k95 at hk95 ⊢
    unfold fB_X8_got_L95
    refine Ep_ck ?_
    refine Ep_ite (fun _ => ?_) (fun _ => ?_)
    · exact Ep_some ⟨hS, hL⟩
    · refine Ep_bd (u_X8_fits S L x1 x3 hS hL) (fun q hq => ?_)
      refine Ep_lt (fun r17 er17 => ?_)
      refine Ep_lt (fun S_18 eS_18 => ?_)
      have hS_18 : S_18 0 65 = 0 := by rw [eS_18]; exact hq.1
      refine Ep_lt (fun L_19 eL_19 => ?_)
      have hL_19 : L_19 0 63 = v63 := by rw [eL_19]; exact hq.2
      refine Ep_ite (fun _ => ?_) (fun _ => ?_)
      · refine Ep_lt (fun y23 ey23 => ?_)
        refine Ep_lt (fun y24 ey24 => ?_)
        exact hk95 y23 y24 S_18 L_19 hS_18 hL_19
      · refine Ep_lt (fun y25 ey25 => ?_)
        refine Ep_lt (fun y26 ey26 => ?_)
        exact hk95 y25 y26 S_18 L_19 hS_18 hL_19
set_option maxHeartbeats 1000000 in
set_option maxRecDepth 100000 in
theorem uL_X8_got_L95 {v63 : Int64} (x1 : Int32)   (x2 : Int32) (x3 : Int32) (S : Tr) (L : Lo) (hS : S 0 65 = 0) (hL : L 0 63 = v63) : Ep (fL_X8_got_L95 x1 x2 x3 S L) (fun q => (q.2.1 0 65 = 0) ∧ (q.2.2 0 63 = v63)) := by
  unfold fL_X8_got_L95
  exact uB_X8_got_L95 x1 2000 x2 x3 S L hS hL
set_option maxHeartbeats 1000000 in
set_option maxRecDepth 100000 in
theorem uB_X8_got_L45 {v63 : Int64} (L : Lo) (x1 : Int32) (hL : L 0 63 = v63)  (N : Nat) : ∀ (x2 : Int32) (S : Tr), S 0 65 = 0 → Ep (lpF (fun _ _ => none) (fB_X8_got_L45 L x1) N x2 S) (fun q => (q.2.1 0 65 = 0) ∧ (q.2.2 0 63 = v63)) := by
  induction N with
  | zero => intro x2 S _; exact Ep_none
  | succ N ih =>
    intro x2 S hS
    show Ep (fB_X8_got_L45 L x1 (lpF (fun _ _ => none) (fB_X8_got_L45 L x1) N) x2 S) _
    have hk45 := ih
    clear ih
    generalize lpF (fun _ _ => none) (fB_X8_got_L45 L x1) N = k45 at hk45 ⊢
    unfold fB_X8_got_L45
    refine Ep_ite (fun _ => ?_) (fun _ => ?_)
    · exact uL_X8_got_L95 x1 0 0 S L hS hL
    · refine Ep_ck ?_
      refine Ep_ite (fun _ => ?_) (fun _ => ?_)
      · refine Ep_lt (fun y29 ey29 => ?_)
        exact hk45 y29 S hS
      · refine Ep_ck ?_
        refine Ep_ite (fun _ => ?_) (fun _ => ?_)
        · refine Ep_lt (fun y32 ey32 => ?_)
          exact hk45 y32 S hS
        · refine Ep_ck ?_
          refine Ep_ck ?_
          refine Ep_lt (fun S_35 eS_35 => ?_)
          have hS_35 : S_35 0 65 = 0 := by rw [eS_35]; exact s65_s hS (by omega)
          refine Ep_lt (fun y36 ey36 => ?_)
          exact hk45 y36 S_35 hS_35
set_option maxHeartbeats 1000000 in
set_option maxRecDepth 100000 in
theorem uL_X8_got_L45 {v63 : Int64} (L : Lo) (x1 : Int32) (hL : L 0 63 = v63)  (x2 : Int32) (S : Tr) (hS : S 0 65 = 0) : Ep (fL_X8_got_L45 L x1 x2 S) (fun q => (q.2.1 0 65 = 0) ∧ (q.2.2 0 63 = v63)) := by
  unfold fL_X8_got_L45
  exact uB_X8_got_L45 L x1 hL 2000 x2 S hS
set_option maxHeartbeats 1000000 in
set_option maxRecDepth 100000 in
theorem uJ_X8_got_J38 {v63 : Int64} (x1 : Int32) (S : Tr) (L : Lo) (hS : S 0 65 = 0) (hL : L 0 63 = v63)  : Ep (fJ_X8_got_J38 x1 S L) (fun q => (q.2.1 0 65 = 0) ∧ (q.2.2 0 63 = v63)) := by
  unfold fJ_X8_got_J38
  refine Ep_any (fun r10 => ?_)
  refine Ep_lt (fun y13 ey13 => ?_)
  exact uL_X8_got_L45 L x1 hL y13 S hS
set_option maxHeartbeats 1000000 in
set_option maxRecDepth 100000 in
theorem uB_X8_got_L17 {v63 : Int64} (L : Lo) (x1 : Int32) (hL : L 0 63 = v63)  (N : Nat) : ∀ (x2 : Int32) (S : Tr), S 0 65 = 0 → Ep (lpF (fun _ _ => none) (fB_X8_got_L17 L x1) N x2 S) (fun q => (q.2.1 0 65 = 0) ∧ (q.2.2 0 63 = v63)) := by
  induction N with
  | zero => intro x2 S _; exact Ep_none
  | succ N ih =>
    intro x2 S hS
    show Ep (fB_X8_got_L17 L x1 (lpF (fun _ _ => none) (fB_X8_got_L17 L x1) N) x2 S) _
    have hk17 := ih
    clear ih
    generalize lpF (fun _ _ => none) (fB_X8_got_L17 L x1) N = k17 at hk17 ⊢
    unfold fB_X8_got_L17
    refine Ep_any (fun r6 => ?_)
    refine Ep_ite (fun _ => ?_) (fun _ => ?_)
    · exact uJ_X8_got_J38 x1 S L hS hL
    · refine Ep_ck ?_
      refine Ep_lt (fun S_38 eS_38 => ?_)
      have hS_38 : S_38 0 65 = 0 := by rw [eS_38]; exact s65_s hS (by omega)
      refine Ep_lt (fun y39 ey39 => ?_)
      exact hk17 y39 S_38 hS_38
set_option maxHeartbeats 1000000 in
set_option maxRecDepth 100000 in
theorem uL_X8_got_L17 {v63 : Int64} (L : Lo) (x1 : Int32) (hL : L 0 63 = v63)  (x2 : Int32) (S : Tr) (hS : S 0 65 = 0) : Ep (fL_X8_got_L17 L x1 x2 S) (fun q => (q.2.1 0 65 = 0) ∧ (q.2.2 0 63 = v63)) := by
  unfold fL_X8_got_L17
  exact uB_X8_got_L17 L x1 hL 2000 x2 S hS
set_option maxHeartbeats 1000000 in
set_option maxRecDepth 100000 in
theorem u_X8_got {v63 : Int64} (S : Tr) (L : Lo) (x1 : Int32) (hS : S 0 65 = 0) (hL : L 0 63 = v63)  : Ep (f_X8_got S L x1) (fun q => (q.2.1 0 65 = 0) ∧ (q.2.2 0 63 = v63)) := by
  unfold f_X8_got
  refine Ep_lt (fun S_1 eS_1 => ?_)
  have hS_1 : S_1 0 65 = 0 := by rw [eS_1]; exact s65_s hS (by omega)
  refine Ep_any (fun r2 => ?_)
  refine Ep_ite (fun _ => ?_) (fun _ => ?_)
  · exact Ep_some ⟨hS_1, hL⟩
  · exact uL_X8_got_L17 L x1 hL 0 S_1 hS_1
set_option maxHeartbeats 1000000 in
set_option maxRecDepth 100000 in
theorem uJ_X8_tried_J156 {v63 : Int64} (S : Tr) (L : Lo) (hS : S 0 65 = 0) (hL : L 0 63 = v63)  : Ep (fJ_X8_tried_J156 S L) (fun q => (q.2.1 0 65 = 0) ∧ (q.2.2 0 63 = v63)) := by
  unfold fJ_X8_tried_J156
  refine Ep_bd (u_X8_toEnd S L hS hL) (fun q hq => ?_)
  refine Ep_lt (fun S_24 eS_24 => ?_)
  have hS_24 : S_24 0 65 = 0 := by rw [eS_24]; exact hq.1
  refine Ep_lt (fun L_25 eL_25 => ?_)
  have hL_25 : L_25 0 63 = v63 := by rw [eL_25]; exact hq.2
  refine Ep_bd (u_X8_plainTried S_24 hS_24) (fun S_28 hS_28 => ?_)
  refine Ep_any (fun r31 => ?_)
  exact Ep_some ⟨hS_28, hL_25⟩
set_option maxHeartbeats 1000000 in
set_option maxRecDepth 100000 in
theorem uJ_X8_tried_J146 {v63 : Int64} (x2 : Int32) (S : Tr) (L : Lo) (hS : S 0 65 = 0) (hL : L 0 63 = v63)  : Ep (fJ_X8_tried_J146 x2 S L) (fun q => (q.2.1 0 65 = 0) ∧ (q.2.2 0 63 = v63)) := by
  unfold fJ_X8_tried_J146
  refine Ep_ck ?_
  refine Ep_lt (fun S_36 eS_36 => ?_)
  have hS_36 : S_36 0 65 = 0 := by rw [eS_36]; exact s65_s hS (by omega)
  exact uJ_X8_tried_J156 S_36 L hS_36 hL
set_option maxHeartbeats 1000000 in
set_option maxRecDepth 100000 in
theorem uB_X8_tried_L102 {v63 : Int64} (L : Lo) (x2 : Int32) (hL : L 0 63 = v63)  (N : Nat) : ∀ (x3 : Int32) (S : Tr), S 0 65 = 0 → Ep (lpF (fun _ _ => none) (fB_X8_tried_L102 L x2) N x3 S) (fun q => (q.2.1 0 65 = 0) ∧ (q.2.2 0 63 = v63)) := by
  induction N with
  | zero => intro x3 S _; exact Ep_none
  | succ N ih =>
    intro x3 S hS
    show Ep (fB_X8_tried_L102 L x2 (lpF (fun _ _ => none) (fB_X8_tried_L102 L x2) N) x3 S) _
    have hk102 := ih
    clear ih
    generalize lpF (fun _ _ => none) (fB_X8_tried_L102 L x2) N = k102 at hk102 ⊢
    unfold fB_X8_tried_L102
    refine Ep_ite (fun _ => ?_) (fun _ => ?_)
    · exact uJ_X8_tried_J146 x2 S L hS hL
    · refine Ep_ck ?_
      refine Ep_ite (fun _ => ?_) (fun _ => ?_)
      · refine Ep_ck ?_
        refine Ep_ite (fun _ => ?_) (fun _ => ?_)
        · refine Ep_bd (u_X8_takes S (1 : Int32) x3 (2 : Int32) hS) (fun S_43 hS_43 => ?_)
          refine Ep_lt (fun y46 ey46 => ?_)
          exact hk102 y46 S_43 hS_43
        · refine Ep_lt (fun y42 ey42 => ?_)
          exact hk102 y42 S hS
      · refine Ep_lt (fun y39 ey39 => ?_)
        exact hk102 y39 S hS
set_option maxHeartbeats 1000000 in
set_option maxRecDepth 100000 in
theorem uL_X8_tried_L102 {v63 : Int64} (L : Lo) (x2 : Int32) (hL : L 0 63 = v63)  (x3 : Int32) (S : Tr) (hS : S 0 65 = 0) : Ep (fL_X8_tried_L102 L x2 x3 S) (fun q => (q.2.1 0 65 = 0) ∧ (q.2.2 0 63 = v63)) := by
  unfold fL_X8_tried_L102
  exact uB_X8_tried_L102 L x2 hL 2000 x3 S hS
set_option maxHeartbeats 1000000 in
set_option maxRecDepth 100000 in
theorem uJ_X8_tried_J92 {v63 : Int64} (x1 : Int32) (x2 : Int32) (s0 : Int32) (S : Tr) (L : Lo) (hS : S 0 65 = 0) (hL : L 0 63 = v63)  : Ep (fJ_X8_tried_J92 x1 x2 s0 S L) (fun q => (q.2.1 0 65 = 0) ∧ (q.2.2 0 63 = v63)) := by
  unfold fJ_X8_tried_J92
  refine Ep_ck ?_
  refine Ep_lt (fun S_22 eS_22 => ?_)
  have hS_22 : S_22 0 65 = 0 := by rw [eS_22]; exact s65_s hS (by omega)
  refine Ep_ite (fun _ => ?_) (fun _ => ?_)
  · exact uL_X8_tried_L102 L x2 hL 0 S_22 hS_22
  · exact uJ_X8_tried_J156 S_22 L hS_22 hL
set_option maxHeartbeats 1000000 in
set_option maxRecDepth 100000 in
theorem uJ_X8_tried_J78 {v63 : Int64} (x1 : Int32) (x2 : Int32) (s0 : Int32) (S : Tr) (L : Lo) (hS : S 0 65 = 0) (hL : L 0 63 = v63)  : Ep (fJ_X8_tried_J78 x1 x2 s0 S L) (fun q => (q.2.1 0 65 = 0) ∧ (q.2.2 0 63 = v63)) := by
  unfold fJ_X8_tried_J78
  refine Ep_ck ?_
  refine Ep_lt (fun S_19 eS_19 => ?_)
  have hS_19 : S_19 0 65 = 0 := by rw [eS_19]; exact s65_s hS (by omega)
  refine Ep_ite (fun _ => ?_) (fun _ => ?_)
  · exact uJ_X8_tried_J92 x1 x2 1 S_19 L hS_19 hL
  · exact uJ_X8_tried_J92 x1 x2 0 S_19 L hS_19 hL
set_option maxHeartbeats 1000000 in
set_option maxRecDepth 100000 in
theorem uJ_X8_tried_J64 {v63 : Int64} (x1 : Int32) (x2 : Int32) (s0 : Int32) (S : Tr) (L : Lo) (hS : S 0 65 = 0) (hL : L 0 63 = v63)  : Ep (fJ_X8_tried_J64 x1 x2 s0 S L) (fun q => (q.2.1 0 65 = 0) ∧ (q.2.2 0 63 = v63)) := by
  unfold fJ_X8_tried_J64
  refine Ep_ck ?_
  refine Ep_lt (fun S_16 eS_16 => ?_)
  have hS_16 : S_16 0 65 = 0 := by rw [eS_16]; exact s65_s hS (by omega)
  refine Ep_ite (fun _ => ?_) (fun _ => ?_)
  · exact uJ_X8_tried_J78 x1 x2 1 S_16 L hS_16 hL
  · exact uJ_X8_tried_J78 x1 x2 0 S_16 L hS_16 hL
set_option maxHeartbeats 1000000 in
set_option maxRecDepth 100000 in
theorem uJ_X8_tried_J50 {v63 : Int64} (x1 : Int32) (x2 : Int32) (s0 : Int32) (S : Tr) (L : Lo) (hS : S 0 65 = 0) (hL : L 0 63 = v63)  : Ep (fJ_X8_tried_J50 x1 x2 s0 S L) (fun q => (q.2.1 0 65 = 0) ∧ (q.2.2 0 63 = v63)) := by
  unfold fJ_X8_tried_J50
  refine Ep_ck ?_
  refine Ep_lt (fun S_13 eS_13 => ?_)
  have hS_13 : S_13 0 65 = 0 := by rw [eS_13]; exact s65_s hS (by omega)
  refine Ep_ite (fun _ => ?_) (fun _ => ?_)
  · exact uJ_X8_tried_J64 x1 x2 1 S_13 L hS_13 hL
  · exact uJ_X8_tried_J64 x1 x2 0 S_13 L hS_13 hL
set_option maxHeartbeats 1000000 in
set_option maxRecDepth 100000 in
theorem uJ_X8_tried_J36 {v63 : Int64} (x1 : Int32) (x2 : Int32) (S : Tr) (L : Lo) (hS : S 0 65 = 0) (hL : L 0 63 = v63)  : Ep (fJ_X8_tried_J36 x1 x2 S L) (fun q => (q.2.1 0 65 = 0) ∧ (q.2.2 0 63 = v63)) := by
  unfold fJ_X8_tried_J36
  refine Ep_bd (u_X8_layTried S hS) (fun S_8 hS_8 => ?_)
  refine Ep_ite (fun _ => ?_) (fun _ => ?_)
  · exact uJ_X8_tried_J50 x1 x2 1 S_8 L hS_8 hL
  · exact uJ_X8_tried_J50 x1 x2 0 S_8 L hS_8 hL
set_option maxHeartbeats 1000000 in
set_option maxRecDepth 100000 in
theorem u_X8_tried {v63 : Int64} (S : Tr) (L : Lo) (x1 : Int32) (x2 : Int32) (hS : S 0 65 = 0) (hL : L 0 63 = v63)  : Ep (f_X8_tried S L x1 x2) (fun q => (q.2.1 0 65 = 0) ∧ (q.2.2 0 63 = v63)) := by
  unfold f_X8_tried
  refine Ep_lt (fun S_1 eS_1 => ?_)
  have hS_1 : S_1 0 65 = 0 := by rw [eS_1]; exact s65_s hS (by omega)
  refine Ep_any (fun r2 => ?_)
  refine Ep_ite (fun _ => ?_) (fun _ => ?_)
  · exact Ep_some ⟨hS_1, hL⟩
  · refine Ep_ite (fun _ => ?_) (fun _ => ?_)
    · refine Ep_any (fun r47 => ?_)
      refine Ep_ite (fun _ => ?_) (fun _ => ?_)
      · exact Ep_some ⟨hS_1, hL⟩
      · exact uJ_X8_tried_J36 x1 x2 S_1 L hS_1 hL
    · refine Ep_ite (fun _ => ?_) (fun _ => ?_)
      · exact uJ_X8_tried_J36 x1 x2 S_1 L hS_1 hL
      · exact Ep_some ⟨hS_1, hL⟩
set_option maxHeartbeats 1000000 in
set_option maxRecDepth 100000 in
theorem u_X8_law {v63 : Int64} (S : Tr) (L : Lo) (x1 : Int32) (x2 : Int32) (hS : S 0 65 = 0) (hL : L 0 63 = v63)  : Ep (f_X8_law S L x1 x2) (fun q => (q.2.1 0 65 = 0) ∧ (q.2.2 0 63 = v63)) := by
  unfold f_X8_law
  refine Ep_lt (fun S_1 eS_1 => ?_)
  have hS_1 : S_1 0 65 = 0 := by rw [eS_1]; exact s65_s hS (by omega)
  refine Ep_any (fun r2 => ?_)
  refine Ep_ite (fun _ => ?_) (fun _ => ?_)
  · exact Ep_some ⟨hS_1, hL⟩
  · refine Ep_ck ?_
    refine Ep_ite (fun _ => ?_) (fun _ => ?_)
    · exact Ep_some ⟨hS_1, hL⟩
    · refine Ep_any (fun r8 => ?_)
      refine Ep_ite (fun _ => ?_) (fun _ => ?_)
      · exact Ep_some ⟨hS_1, hL⟩
      · refine Ep_ck ?_
        refine Ep_ite (fun _ => ?_) (fun _ => ?_)
        · refine Ep_bd (u_X8_plainTried S_1 hS_1) (fun S_14 hS_14 => ?_)
          refine Ep_bd (u_X8_layNames S_14 L (0 : Int32) x2 (S_14 30 x2.toNatClampNeg) hS_14 hL) (fun L_17 hL_17 => ?_)
          refine Ep_bd (u_X8_lawOf S_14 L_17 x1 hS_14 hL_17) (fun q hq => ?_)
          refine Ep_lt (fun r20 er20 => ?_)
          refine Ep_lt (fun S_21 eS_21 => ?_)
          have hS_21 : S_21 0 65 = 0 := by rw [eS_21]; exact hq.1
          refine Ep_lt (fun L_22 eL_22 => ?_)
          have hL_22 : L_22 0 63 = v63 := by rw [eL_22]; exact hq.2
          refine Ep_ite (fun _ => ?_) (fun _ => ?_)
          · exact Ep_some ⟨hS_21, hL_22⟩
          · exact Ep_some ⟨hS_21, hL_22⟩
        · exact Ep_some ⟨hS_1, hL⟩
set_option maxHeartbeats 1000000 in
set_option maxRecDepth 100000 in
theorem uB_X8_put_84_L54 (x2 : Int32)   (N : Nat) : ∀ (x3 : Int32) (S : Tr), S 0 65 = 0 → Ep (lpF (fun _ _ => none) (fB_X8_put_84_L54 x2) N x3 S) (fun q => (q 0 65 = 0)) := by
  induction N with
  | zero => intro x3 S _; exact Ep_none
  | succ N ih =>
    intro x3 S hS
    show Ep (fB_X8_put_84_L54 x2 (lpF (fun _ _ => none) (fB_X8_put_84_L54 x2) N) x3 S) _
    have hk54 := ih
    clear ih
    generalize lpF (fun _ _ => none) (fB_X8_put_84_L54 x2) N = k54 at hk54 ⊢
    unfold fB_X8_put_84_L54
    refine Ep_ite (fun _ => ?_) (fun _ => ?_)
    · exact Ep_some hS
    · refine Ep_ck ?_
      refine Ep_ck ?_
      refine Ep_lt (fun S_6 eS_6 => ?_)
      have hS_6 : S_6 0 65 = 0 := by rw [eS_6]; exact s65_s hS (by omega)
      refine Ep_lt (fun y7 ey7 => ?_)
      exact hk54 y7 S_6 hS_6
set_option maxHeartbeats 1000000 in
set_option maxRecDepth 100000 in
theorem uL_X8_put_84_L54 (x2 : Int32)   (x3 : Int32) (S : Tr) (hS : S 0 65 = 0) : Ep (fL_X8_put_84_L54 x2 x3 S) (fun q => (q 0 65 = 0)) := by
  unfold fL_X8_put_84_L54
  exact uB_X8_put_84_L54 x2 2000 x3 S hS
set_option maxHeartbeats 1000000 in
set_option maxRecDepth 100000 in
theorem uB_X8_put_84_L27 (x2 : Int32)   (N : Nat) : ∀ (x3 : Int32) (S : Tr), S 0 65 = 0 → Ep (lpF (fun _ _ => none) (fB_X8_put_84_L27 x2) N x3 S) (fun q => (q 0 65 = 0)) := by
  induction N with
  | zero => intro x3 S _; exact Ep_none
  | succ N ih =>
    intro x3 S hS
    show Ep (fB_X8_put_84_L27 x2 (lpF (fun _ _ => none) (fB_X8_put_84_L27 x2) N) x3 S) _
    have hk27 := ih
    clear ih
    generalize lpF (fun _ _ => none) (fB_X8_put_84_L27 x2) N = k27 at hk27 ⊢
    unfold fB_X8_put_84_L27
    refine Ep_ite (fun _ => ?_) (fun _ => ?_)
    · exact uL_X8_put_84_L54 x2 0 S hS
    · refine Ep_ck ?_
      refine Ep_ck ?_
      refine Ep_lt (fun S_10 eS_10 => ?_)
      have hS_10 : S_10 0 65 = 0 := by rw [eS_10]; exact s65_s hS (by omega)
      refine Ep_lt (fun y11 ey11 => ?_)
      exact hk27 y11 S_10 hS_10
set_option maxHeartbeats 1000000 in
set_option maxRecDepth 100000 in
theorem uL_X8_put_84_L27 (x2 : Int32)   (x3 : Int32) (S : Tr) (hS : S 0 65 = 0) : Ep (fL_X8_put_84_L27 x2 x3 S) (fun q => (q 0 65 = 0)) := by
  unfold fL_X8_put_84_L27
  exact uB_X8_put_84_L27 x2 2000 x3 S hS
set_option maxHeartbeats 1000000 in
set_option maxRecDepth 100000 in
theorem uB_X8_put_84_L2 (x2 : Int32)   (N : Nat) : ∀ (x3 : Int32) (S : Tr), S 0 65 = 0 → Ep (lpF (fun _ _ => none) (fB_X8_put_84_L2 x2) N x3 S) (fun q => (q 0 65 = 0)) := by
  induction N with
  | zero => intro x3 S _; exact Ep_none
  | succ N ih =>
    intro x3 S hS
    show Ep (fB_X8_put_84_L2 x2 (lpF (fun _ _ => none) (fB_X8_put_84_L2 x2) N) x3 S) _
    have hk2 := ih
    clear ih
    generalize lpF (fun _ _ => none) (fB_X8_put_84_L2 x2) N = k2 at hk2 ⊢
    unfold fB_X8_put_84_L2
    refine Ep_ite (fun _ => ?_) (fun _ => ?_)
    · exact uL_X8_put_84_L27 x2 0 S hS
    · refine Ep_ck ?_
      refine Ep_ck ?_
      refine Ep_lt (fun S_14 eS_14 => ?_)
      have hS_14 : S_14 0 65 = 0 := by rw [eS_14]; exact s65_s hS (by omega)
      refine Ep_lt (fun y15 ey15 => ?_)
      exact hk2 y15 S_14 hS_14
set_option maxHeartbeats 1000000 in
set_option maxRecDepth 100000 in
theorem uL_X8_put_84_L2 (x2 : Int32)   (x3 : Int32) (S : Tr) (hS : S 0 65 = 0) : Ep (fL_X8_put_84_L2 x2 x3 S) (fun q => (q 0 65 = 0)) := by
  unfold fL_X8_put_84_L2
  exact uB_X8_put_84_L2 x2 2000 x3 S hS
set_option maxHeartbeats 1000000 in
set_option maxRecDepth 100000 in
theorem u_X8_put_84 (S : Tr) (x2 : Int32) (hS : S 0 65 = 0)  : Ep (f_X8_put_84 S x2) (fun q => (q 0 65 = 0)) := by
  unfold f_X8_put_84
  exact uL_X8_put_84_L2 x2 0 S hS
set_option maxHeartbeats 1000000 in
set_option maxRecDepth 100000 in
theorem uJ_X8_remember_J49 (S : Tr) (hS : S 0 65 = 0)  : Ep (fJ_X8_remember_J49 S) (fun q => (q 0 65 = 0)) := by
  unfold fJ_X8_remember_J49
  refine Ep_bd (u_X8_put_84 S ((61 : Int32) * (S 0 82)) hS) (fun S_2 hS_2 => ?_)
  refine Ep_lt (fun S_5 eS_5 => ?_)
  have hS_5 : S_5 0 65 = 0 := by rw [eS_5]; exact s65_s hS_2 (by omega)
  exact Ep_some hS_5
set_option maxHeartbeats 1000000 in
set_option maxRecDepth 100000 in
theorem uJ_X8_remember_J39 (S : Tr) (hS : S 0 65 = 0)  : Ep (fJ_X8_remember_J39 S) (fun q => (q 0 65 = 0)) := by
  unfold fJ_X8_remember_J39
  refine Ep_lt (fun S_7 eS_7 => ?_)
  have hS_7 : S_7 0 65 = 0 := by rw [eS_7]; exact s65_s hS (by omega)
  exact uJ_X8_remember_J49 S_7 hS_7
set_option maxHeartbeats 1000000 in
set_option maxRecDepth 100000 in
theorem uB_X8_remember_L11    (N : Nat) : ∀ (x1 : Int32) (S : Tr), S 0 65 = 0 → Ep (lpF (fun _ _ => none) (fB_X8_remember_L11) N x1 S) (fun q => (q 0 65 = 0)) := by
  induction N with
  | zero => intro x1 S _; exact Ep_none
  | succ N ih =>
    intro x1 S hS
    show Ep (fB_X8_remember_L11 (lpF (fun _ _ => none) (fB_X8_remember_L11) N) x1 S) _
    have hk11 := ih
    clear ih
    generalize lpF (fun _ _ => none) (fB_X8_remember_L11) N = k11 at hk11 ⊢
    unfold fB_X8_remember_L11
    refine Ep_ite (fun _ => ?_) (fun _ => ?_)
    · exact uJ_X8_remember_J39 S hS
    · refine Ep_ck ?_
      refine Ep_ck ?_
      refine Ep_lt (fun S_10 eS_10 => ?_)
      have hS_10 : S_10 0 65 = 0 := by rw [eS_10]; exact s65_s hS (by omega)
      refine Ep_lt (fun y11 ey11 => ?_)
      exact hk11 y11 S_10 hS_10
set_option maxHeartbeats 1000000 in
set_option maxRecDepth 100000 in
theorem uL_X8_remember_L11    (x1 : Int32) (S : Tr) (hS : S 0 65 = 0) : Ep (fL_X8_remember_L11 x1 S) (fun q => (q 0 65 = 0)) := by
  unfold fL_X8_remember_L11
  exact uB_X8_remember_L11 2000 x1 S hS
set_option maxHeartbeats 1000000 in
set_option maxRecDepth 100000 in
theorem u_X8_remember (S : Tr) (hS : S 0 65 = 0)  : Ep (f_X8_remember S) (fun q => (q 0 65 = 0)) := by
  unfold f_X8_remember
  refine Ep_ite (fun _ => ?_) (fun _ => ?_)
  · exact uL_X8_remember_L11 0 S hS
  · exact uJ_X8_remember_J49 S hS
set_option maxHeartbeats 1000000 in
set_option maxRecDepth 100000 in
theorem u_X8_turn (S : Tr) (x1 : Int32) (hS : S 0 65 = 0)  : Ep (f_X8_turn S x1) (fun q => (q.2 0 65 = 0)) := by
  unfold f_X8_turn
  refine Ep_lt (fun S_1 eS_1 => ?_)
  have hS_1 : S_1 0 65 = 0 := by rw [eS_1]; exact s65_s hS (by omega)
  refine Ep_any (fun r2 => ?_)
  refine Ep_ite (fun _ => ?_) (fun _ => ?_)
  · exact Ep_some hS_1
  · refine Ep_bd (u_X8_layTried S_1 hS_1) (fun S_6 hS_6 => ?_)
    refine Ep_bd (u_X8_turns S_6 (1 : Int32) x1 hS_6) (fun q hq => ?_)
    refine Ep_lt (fun r9 er9 => ?_)
    refine Ep_lt (fun S_10 eS_10 => ?_)
    have hS_10 : S_10 0 65 = 0 := by rw [eS_10]; exact hq
    refine Ep_ite (fun _ => ?_) (fun _ => ?_)
    · exact Ep_some hS_10
    · refine Ep_bd (u_X8_remember S_10 hS_10) (fun S_14 hS_14 => ?_)
      refine Ep_bd (u_X8_turns S_14 (0 : Int32) x1 hS_14) (fun q hq => ?_)
      refine Ep_lt (fun r17 er17 => ?_)
      refine Ep_lt (fun S_18 eS_18 => ?_)
      have hS_18 : S_18 0 65 = 0 := by rw [eS_18]; exact hq
      exact Ep_some hS_18
set_option maxHeartbeats 1000000 in
set_option maxRecDepth 100000 in
theorem uJ_X8_move_J67 (x1 : Int32) (x2 : Int32) (S : Tr) (hS : S 0 65 = 0)  : Ep (fJ_X8_move_J67 x1 x2 S) (fun q => (q.2 0 65 = 0)) := by
  unfold fJ_X8_move_J67
  refine Ep_bd (u_X8_remember S hS) (fun S_17 hS_17 => ?_)
  refine Ep_bd (u_X8_takes S_17 (0 : Int32) x1 (1 : Int32) hS_17) (fun S_20 hS_20 => ?_)
  refine Ep_bd (u_X8_lays S_20 (0 : Int32) x2 x1 hS_20) (fun S_23 hS_23 => ?_)
  exact Ep_some hS_23
set_option maxHeartbeats 1000000 in
set_option maxRecDepth 100000 in
theorem u_X8_move (S : Tr) (x1 : Int32) (x2 : Int32) (hS : S 0 65 = 0)  : Ep (f_X8_move S x1 x2) (fun q => (q.2 0 65 = 0)) := by
  unfold f_X8_move
  refine Ep_lt (fun S_1 eS_1 => ?_)
  have hS_1 : S_1 0 65 = 0 := by rw [eS_1]; exact s65_s hS (by omega)
  refine Ep_any (fun r2 => ?_)
  refine Ep_ite (fun _ => ?_) (fun _ => ?_)
  · exact Ep_some hS_1
  · refine Ep_any (fun r6 => ?_)
    refine Ep_ite (fun _ => ?_) (fun _ => ?_)
    · exact Ep_some hS_1
    · refine Ep_ck ?_
      refine Ep_ite (fun _ => ?_) (fun _ => ?_)
      · refine Ep_ite (fun _ => ?_) (fun _ => ?_)
        · refine Ep_any (fun r26 => ?_)
          refine Ep_ite (fun _ => ?_) (fun _ => ?_)
          · exact Ep_some hS_1
          · exact uJ_X8_move_J67 x1 x2 S_1 hS_1
        · refine Ep_any (fun r13 => ?_)
          refine Ep_ite (fun _ => ?_) (fun _ => ?_)
          · exact Ep_some hS_1
          · exact uJ_X8_move_J67 x1 x2 S_1 hS_1
      · exact Ep_some hS_1
set_option maxHeartbeats 1000000 in
set_option maxRecDepth 100000 in
theorem u_X8_help (S : Tr) (x1 : Int32) (x2 : Int32) (hS : S 0 65 = 0)  : Ep (f_X8_help S x1 x2) (fun q => (q.2 0 65 = 0)) := by
  unfold f_X8_help
  refine Ep_lt (fun S_1 eS_1 => ?_)
  have hS_1 : S_1 0 65 = 0 := by rw [eS_1]; exact s65_s hS (by omega)
  refine Ep_any (fun r2 => ?_)
  refine Ep_ite (fun _ => ?_) (fun _ => ?_)
  · exact Ep_some hS_1
  · refine Ep_any (fun r6 => ?_)
    refine Ep_ite (fun _ => ?_) (fun _ => ?_)
    · exact Ep_some hS_1
    · refine Ep_ck ?_
      refine Ep_ite (fun _ => ?_) (fun _ => ?_)
      · exact Ep_some hS_1
      · refine Ep_bd (u_X8_remember S_1 hS_1) (fun S_12 hS_12 => ?_)
        refine Ep_lt (fun S_15 eS_15 => ?_)
        have hS_15 : S_15 0 65 = 0 := by rw [eS_15]; exact s65_s hS_12 (by omega)
        exact Ep_some hS_15
set_option maxHeartbeats 1000000 in
set_option maxRecDepth 100000 in
theorem uB_X8_take_84_L103    (N : Nat) : ∀ (x3 : Int32) (S : Tr), S 0 65 = 0 → Ep (lpF (fun _ _ => none) (fB_X8_take_84_L103) N x3 S) (fun q => (q 0 65 = 0)) := by
  induction N with
  | zero => intro x3 S _; exact Ep_none
  | succ N ih =>
    intro x3 S hS
    show Ep (fB_X8_take_84_L103 (lpF (fun _ _ => none) (fB_X8_take_84_L103) N) x3 S) _
    have hk103 := ih
    clear ih
    generalize lpF (fun _ _ => none) (fB_X8_take_84_L103) N = k103 at hk103 ⊢
    unfold fB_X8_take_84_L103
    refine Ep_ite (fun _ => ?_) (fun _ => ?_)
    · exact Ep_some hS
    · refine Ep_ck ?_
      refine Ep_ite (fun _ => ?_) (fun _ => ?_)
      · refine Ep_lt (fun y8 ey8 => ?_)
        exact hk103 y8 S hS
      · refine Ep_ck ?_
        refine Ep_ck ?_
        refine Ep_lt (fun S_11 eS_11 => ?_)
        have hS_11 : S_11 0 65 = 0 := by rw [eS_11]; exact s65_s hS (by omega)
        refine Ep_lt (fun y12 ey12 => ?_)
        exact hk103 y12 S_11 hS_11
set_option maxHeartbeats 1000000 in
set_option maxRecDepth 100000 in
theorem uL_X8_take_84_L103    (x3 : Int32) (S : Tr) (hS : S 0 65 = 0) : Ep (fL_X8_take_84_L103 x3 S) (fun q => (q 0 65 = 0)) := by
  unfold fL_X8_take_84_L103
  exact uB_X8_take_84_L103 2000 x3 S hS
set_option maxHeartbeats 1000000 in
set_option maxRecDepth 100000 in
theorem uB_X8_take_84_L82    (N : Nat) : ∀ (x3 : Int32) (S : Tr), S 0 65 = 0 → Ep (lpF (fun _ _ => none) (fB_X8_take_84_L82) N x3 S) (fun q => (q 0 65 = 0)) := by
  induction N with
  | zero => intro x3 S _; exact Ep_none
  | succ N ih =>
    intro x3 S hS
    show Ep (fB_X8_take_84_L82 (lpF (fun _ _ => none) (fB_X8_take_84_L82) N) x3 S) _
    have hk82 := ih
    clear ih
    generalize lpF (fun _ _ => none) (fB_X8_take_84_L82) N = k82 at hk82 ⊢
    unfold fB_X8_take_84_L82
    refine Ep_ite (fun _ => ?_) (fun _ => ?_)
    · exact uL_X8_take_84_L103 0 S hS
    · refine Ep_ck ?_
      refine Ep_lt (fun S_14 eS_14 => ?_)
      have hS_14 : S_14 0 65 = 0 := by rw [eS_14]; exact s65_s hS (by omega)
      refine Ep_lt (fun y15 ey15 => ?_)
      exact hk82 y15 S_14 hS_14
set_option maxHeartbeats 1000000 in
set_option maxRecDepth 100000 in
theorem uL_X8_take_84_L82    (x3 : Int32) (S : Tr) (hS : S 0 65 = 0) : Ep (fL_X8_take_84_L82 x3 S) (fun q => (q 0 65 = 0)) := by
  unfold fL_X8_take_84_L82
  exact uB_X8_take_84_L82 2000 x3 S hS
set_option maxHeartbeats 1000000 in
set_option maxRecDepth 100000 in
theorem uB_X8_take_84_L54 (x2 : Int32)   (N : Nat) : ∀ (x3 : Int32) (S : Tr), S 0 65 = 0 → Ep (lpF (fun _ _ => none) (fB_X8_take_84_L54 x2) N x3 S) (fun q => (q 0 65 = 0)) := by
  induction N with
  | zero => intro x3 S _; exact Ep_none
  | succ N ih =>
    intro x3 S hS
    show Ep (fB_X8_take_84_L54 x2 (lpF (fun _ _ => none) (fB_X8_take_84_L54 x2) N) x3 S) _
    have hk54 := ih
    clear ih
    generalize lpF (fun _ _ => none) (fB_X8_take_84_L54 x2) N = k54 at hk54 ⊢
    unfold fB_X8_take_84_L54
    refine Ep_ite (fun _ => ?_) (fun _ => ?_)
    · exact uL_X8_take_84_L82 0 S hS
    · refine Ep_ck ?_
      refine Ep_ck ?_
      refine Ep_lt (fun S_18 eS_18 => ?_)
      have hS_18 : S_18 0 65 = 0 := by rw [eS_18]; exact s65_s hS (by omega)
      refine Ep_lt (fun y19 ey19 => ?_)
      exact hk54 y19 S_18 hS_18
set_option maxHeartbeats 1000000 in
set_option maxRecDepth 100000 in
theorem uL_X8_take_84_L54 (x2 : Int32)   (x3 : Int32) (S : Tr) (hS : S 0 65 = 0) : Ep (fL_X8_take_84_L54 x2 x3 S) (fun q => (q 0 65 = 0)) := by
  unfold fL_X8_take_84_L54
  exact uB_X8_take_84_L54 x2 2000 x3 S hS
set_option maxHeartbeats 1000000 in
set_option maxRecDepth 100000 in
theorem uB_X8_take_84_L27 (x2 : Int32)   (N : Nat) : ∀ (x3 : Int32) (S : Tr), S 0 65 = 0 → Ep (lpF (fun _ _ => none) (fB_X8_take_84_L27 x2) N x3 S) (fun q => (q 0 65 = 0)) := by
  induction N with
  | zero => intro x3 S _; exact Ep_none
  | succ N ih =>
    intro x3 S hS
    show Ep (fB_X8_take_84_L27 x2 (lpF (fun _ _ => none) (fB_X8_take_84_L27 x2) N) x3 S) _
    have hk27 := ih
    clear ih
    generalize lpF (fun _ _ => none) (fB_X8_take_84_L27 x2) N = k27 at hk27 ⊢
    unfold fB_X8_take_84_L27
    refine Ep_ite (fun _ => ?_) (fun _ => ?_)
    · exact uL_X8_take_84_L54 x2 0 S hS
    · refine Ep_ck ?_
      refine Ep_ck ?_
      refine Ep_lt (fun S_22 eS_22 => ?_)
      have hS_22 : S_22 0 65 = 0 := by rw [eS_22]; exact s65_s hS (by omega)
      refine Ep_lt (fun y23 ey23 => ?_)
      exact hk27 y23 S_22 hS_22
set_option maxHeartbeats 1000000 in
set_option maxRecDepth 100000 in
theorem uL_X8_take_84_L27 (x2 : Int32)   (x3 : Int32) (S : Tr) (hS : S 0 65 = 0) : Ep (fL_X8_take_84_L27 x2 x3 S) (fun q => (q 0 65 = 0)) := by
  unfold fL_X8_take_84_L27
  exact uB_X8_take_84_L27 x2 2000 x3 S hS
set_option maxHeartbeats 1000000 in
set_option maxRecDepth 100000 in
theorem uB_X8_take_84_L2 (x2 : Int32)   (N : Nat) : ∀ (x3 : Int32) (S : Tr), S 0 65 = 0 → Ep (lpF (fun _ _ => none) (fB_X8_take_84_L2 x2) N x3 S) (fun q => (q 0 65 = 0)) := by
  induction N with
  | zero => intro x3 S _; exact Ep_none
  | succ N ih =>
    intro x3 S hS
    show Ep (fB_X8_take_84_L2 x2 (lpF (fun _ _ => none) (fB_X8_take_84_L2 x2) N) x3 S) _
    have hk2 := ih
    clear ih
    generalize lpF (fun _ _ => none) (fB_X8_take_84_L2 x2) N = k2 at hk2 ⊢
    unfold fB_X8_take_84_L2
    refine Ep_ite (fun _ => ?_) (fun _ => ?_)
    · exact uL_X8_take_84_L27 x2 0 S hS
    · refine Ep_ck ?_
      refine Ep_ck ?_
      refine Ep_lt (fun S_26 eS_26 => ?_)
      have hS_26 : S_26 0 65 = 0 := by rw [eS_26]; exact s65_s hS (by omega)
      refine Ep_lt (fun y27 ey27 => ?_)
      exact hk2 y27 S_26 hS_26
set_option maxHeartbeats 1000000 in
set_option maxRecDepth 100000 in
theorem uL_X8_take_84_L2 (x2 : Int32)   (x3 : Int32) (S : Tr) (hS : S 0 65 = 0) : Ep (fL_X8_take_84_L2 x2 x3 S) (fun q => (q 0 65 = 0)) := by
  unfold fL_X8_take_84_L2
  exact uB_X8_take_84_L2 x2 2000 x3 S hS
set_option maxHeartbeats 1000000 in
set_option maxRecDepth 100000 in
theorem u_X8_take_84 (S : Tr) (x2 : Int32) (hS : S 0 65 = 0)  : Ep (f_X8_take_84 S x2) (fun q => (q 0 65 = 0)) := by
  unfold f_X8_take_84
  exact uL_X8_take_84_L2 x2 0 S hS
set_option maxHeartbeats 1000000 in
set_option maxRecDepth 100000 in
theorem u_X8_undo (S : Tr) (hS : S 0 65 = 0)  : Ep (f_X8_undo S) (fun q => (q.2 0 65 = 0)) := by
  unfold f_X8_undo
  refine Ep_lt (fun S_1 eS_1 => ?_)
  have hS_1 : S_1 0 65 = 0 := by rw [eS_1]; exact s65_s hS (by omega)
  refine Ep_ite (fun _ => ?_) (fun _ => ?_)
  · exact Ep_some hS_1
  · refine Ep_lt (fun S_3 eS_3 => ?_)
    have hS_3 : S_3 0 65 = 0 := by rw [eS_3]; exact s65_s hS_1 (by omega)
    refine Ep_bd (u_X8_take_84 S_3 ((61 : Int32) * (S_3 0 82)) hS_3) (fun S_4 hS_4 => ?_)
    exact Ep_some hS_4
set_option maxHeartbeats 1000000 in
set_option maxRecDepth 100000 in
theorem u_X8_noted (S : Tr) (x1 : Int32) (x2 : Int32) (x3 : Int32) (x4 : Int32) (hS : S 0 65 = 0)  : Ep (f_X8_noted S x1 x2 x3 x4) (fun q => (q.2 0 65 = 0)) := by
  unfold f_X8_noted
  refine Ep_ck ?_
  refine Ep_lt (fun S_2 eS_2 => ?_)
  have hS_2 : S_2 0 65 = 0 := by rw [eS_2]; exact s65_s hS (by omega)
  refine Ep_ck ?_
  refine Ep_lt (fun S_4 eS_4 => ?_)
  have hS_4 : S_4 0 65 = 0 := by rw [eS_4]; exact s65_s hS_2 (by omega)
  refine Ep_ck ?_
  refine Ep_lt (fun S_6 eS_6 => ?_)
  have hS_6 : S_6 0 65 = 0 := by rw [eS_6]; exact s65_s hS_4 (by omega)
  refine Ep_ck ?_
  refine Ep_lt (fun S_8 eS_8 => ?_)
  have hS_8 : S_8 0 65 = 0 := by rw [eS_8]; exact s65_s hS_6 (by omega)
  refine Ep_lt (fun S_9 eS_9 => ?_)
  have hS_9 : S_9 0 65 = 0 := by rw [eS_9]; exact s65_s hS_8 (by omega)
  exact Ep_some hS_9
set_option maxHeartbeats 1000000 in
set_option maxRecDepth 100000 in
theorem uJ_X8_see_J58 (s0 : Int32) (s1 : Int32) (s2 : Int32) (s3 : Int32) (S : Tr) (hS : S 0 65 = 0)  : Ep (fJ_X8_see_J58 s0 s1 s2 s3 S) (fun q => (q.2 0 65 = 0)) := by
  unfold fJ_X8_see_J58
  refine Ep_bd (u_X8_noted S s3 s2 s1 s0 hS) (fun q hq => ?_)
  refine Ep_lt (fun r16 er16 => ?_)
  refine Ep_lt (fun S_17 eS_17 => ?_)
  have hS_17 : S_17 0 65 = 0 := by rw [eS_17]; exact hq
  exact Ep_some hS_17
set_option maxHeartbeats 1000000 in
set_option maxRecDepth 100000 in
theorem u_X8_see (S : Tr) (x1 : Int32) (x2 : Int32) (x3 : Int32) (x4 : Int32) (hS : S 0 65 = 0)  : Ep (f_X8_see S x1 x2 x3 x4) (fun q => (q.2 0 65 = 0)) := by
  unfold f_X8_see
  refine Ep_lt (fun S_1 eS_1 => ?_)
  have hS_1 : S_1 0 65 = 0 := by rw [eS_1]; exact s65_s hS (by omega)
  refine Ep_ite (fun _ => ?_) (fun _ => ?_)
  · exact Ep_some hS_1
  · refine Ep_any (fun r3 => ?_)
    refine Ep_ite (fun _ => ?_) (fun _ => ?_)
    · exact Ep_some hS_1
    · refine Ep_any (fun r7 => ?_)
      refine Ep_ite (fun _ => ?_) (fun _ => ?_)
      · exact Ep_some hS_1
      · refine Ep_any (fun r11 => ?_)
        refine Ep_ite (fun _ => ?_) (fun _ => ?_)
        · exact Ep_some hS_1
        · refine Ep_ite (fun _ => ?_) (fun _ => ?_)
          · exact uJ_X8_see_J58 0 x3 x2 x1 S_1 hS_1
          · exact uJ_X8_see_J58 1 x3 x2 x1 S_1 hS_1
set_option maxHeartbeats 1000000 in
set_option maxRecDepth 100000 in
theorem u_X8_strike (S : Tr) (x1 : Int32) (hS : S 0 65 = 0)  : Ep (f_X8_strike S x1) (fun q => (q.2 0 65 = 0)) := by
  unfold f_X8_strike
  refine Ep_lt (fun S_1 eS_1 => ?_)
  have hS_1 : S_1 0 65 = 0 := by rw [eS_1]; exact s65_s hS (by omega)
  refine Ep_ite (fun _ => ?_) (fun _ => ?_)
  · exact Ep_some hS_1
  · refine Ep_ite (fun _ => ?_) (fun _ => ?_)
    · exact Ep_some hS_1
    · refine Ep_ite (fun _ => ?_) (fun _ => ?_)
      · refine Ep_bd (u_X8_noted S_1 (-1 : Int32) x1 (0 : Int32) (0 : Int32) hS_1) (fun q hq => ?_)
        refine Ep_lt (fun r5 er5 => ?_)
        refine Ep_lt (fun S_6 eS_6 => ?_)
        have hS_6 : S_6 0 65 = 0 := by rw [eS_6]; exact hq
        exact Ep_some hS_6
      · exact Ep_some hS_1
set_option maxHeartbeats 1000000 in
set_option maxRecDepth 100000 in
theorem u_X8_known (S : Tr) (x1 : Int32) (hS : S 0 65 = 0)  : Ep (f_X8_known S x1) (fun q => (q.2 0 65 = 0)) := by
  unfold f_X8_known
  refine Ep_lt (fun S_1 eS_1 => ?_)
  have hS_1 : S_1 0 65 = 0 := by rw [eS_1]; exact s65_s hS (by omega)
  refine Ep_any (fun r2 => ?_)
  refine Ep_ite (fun _ => ?_) (fun _ => ?_)
  · exact Ep_some hS_1
  · refine Ep_lt (fun S_6 eS_6 => ?_)
    have hS_6 : S_6 0 65 = 0 := by rw [eS_6]; exact s65_s hS_1 (by omega)
    exact Ep_some hS_6
set_option maxHeartbeats 1000000 in
set_option maxRecDepth 100000 in
theorem uB_X8_put_86_L54 (x2 : Int32)   (N : Nat) : ∀ (x3 : Int32) (S : Tr), S 0 65 = 0 → Ep (lpF (fun _ _ => none) (fB_X8_put_86_L54 x2) N x3 S) (fun q => (q 0 65 = 0)) := by
  induction N with
  | zero => intro x3 S _; exact Ep_none
  | succ N ih =>
    intro x3 S hS
    show Ep (fB_X8_put_86_L54 x2 (lpF (fun _ _ => none) (fB_X8_put_86_L54 x2) N) x3 S) _
    have hk54 := ih
    clear ih
    generalize lpF (fun _ _ => none) (fB_X8_put_86_L54 x2) N = k54 at hk54 ⊢
    unfold fB_X8_put_86_L54
    refine Ep_ite (fun _ => ?_) (fun _ => ?_)
    · exact Ep_some hS
    · refine Ep_ck ?_
      refine Ep_ck ?_
      refine Ep_lt (fun S_6 eS_6 => ?_)
      have hS_6 : S_6 0 65 = 0 := by rw [eS_6]; exact s65_s hS (by omega)
      refine Ep_lt (fun y7 ey7 => ?_)
      exact hk54 y7 S_6 hS_6
set_option maxHeartbeats 1000000 in
set_option maxRecDepth 100000 in
theorem uL_X8_put_86_L54 (x2 : Int32)   (x3 : Int32) (S : Tr) (hS : S 0 65 = 0) : Ep (fL_X8_put_86_L54 x2 x3 S) (fun q => (q 0 65 = 0)) := by
  unfold fL_X8_put_86_L54
  exact uB_X8_put_86_L54 x2 2000 x3 S hS
set_option maxHeartbeats 1000000 in
set_option maxRecDepth 100000 in
theorem uB_X8_put_86_L27 (x2 : Int32)   (N : Nat) : ∀ (x3 : Int32) (S : Tr), S 0 65 = 0 → Ep (lpF (fun _ _ => none) (fB_X8_put_86_L27 x2) N x3 S) (fun q => (q 0 65 = 0)) := by
  induction N with
  | zero => intro x3 S _; exact Ep_none
  | succ N ih =>
    intro x3 S hS
    show Ep (fB_X8_put_86_L27 x2 (lpF (fun _ _ => none) (fB_X8_put_86_L27 x2) N) x3 S) _
    have hk27 := ih
    clear ih
    generalize lpF (fun _ _ => none) (fB_X8_put_86_L27 x2) N = k27 at hk27 ⊢
    unfold fB_X8_put_86_L27
    refine Ep_ite (fun _ => ?_) (fun _ => ?_)
    · exact uL_X8_put_86_L54 x2 0 S hS
    · refine Ep_ck ?_
      refine Ep_ck ?_
      refine Ep_lt (fun S_10 eS_10 => ?_)
      have hS_10 : S_10 0 65 = 0 := by rw [eS_10]; exact s65_s hS (by omega)
      refine Ep_lt (fun y11 ey11 => ?_)
      exact hk27 y11 S_10 hS_10
set_option maxHeartbeats 1000000 in
set_option maxRecDepth 100000 in
theorem uL_X8_put_86_L27 (x2 : Int32)   (x3 : Int32) (S : Tr) (hS : S 0 65 = 0) : Ep (fL_X8_put_86_L27 x2 x3 S) (fun q => (q 0 65 = 0)) := by
  unfold fL_X8_put_86_L27
  exact uB_X8_put_86_L27 x2 2000 x3 S hS
set_option maxHeartbeats 1000000 in
set_option maxRecDepth 100000 in
theorem uB_X8_put_86_L2 (x2 : Int32)   (N : Nat) : ∀ (x3 : Int32) (S : Tr), S 0 65 = 0 → Ep (lpF (fun _ _ => none) (fB_X8_put_86_L2 x2) N x3 S) (fun q => (q 0 65 = 0)) := by
  induction N with
  | zero => intro x3 S _; exact Ep_none
  | succ N ih =>
    intro x3 S hS
    show Ep (fB_X8_put_86_L2 x2 (lpF (fun _ _ => none) (fB_X8_put_86_L2 x2) N) x3 S) _
    have hk2 := ih
    clear ih
    generalize lpF (fun _ _ => none) (fB_X8_put_86_L2 x2) N = k2 at hk2 ⊢
    unfold fB_X8_put_86_L2
    refine Ep_ite (fun _ => ?_) (fun _ => ?_)
    · exact uL_X8_put_86_L27 x2 0 S hS
    · refine Ep_ck ?_
      refine Ep_ck ?_
      refine Ep_lt (fun S_14 eS_14 => ?_)
      have hS_14 : S_14 0 65 = 0 := by rw [eS_14]; exact s65_s hS (by omega)
      refine Ep_lt (fun y15 ey15 => ?_)
      exact hk2 y15 S_14 hS_14
set_option maxHeartbeats 1000000 in
set_option maxRecDepth 100000 in
theorem uL_X8_put_86_L2 (x2 : Int32)   (x3 : Int32) (S : Tr) (hS : S 0 65 = 0) : Ep (fL_X8_put_86_L2 x2 x3 S) (fun q => (q 0 65 = 0)) := by
  unfold fL_X8_put_86_L2
  exact uB_X8_put_86_L2 x2 2000 x3 S hS
set_option maxHeartbeats 1000000 in
set_option maxRecDepth 100000 in
theorem u_X8_put_86 (S : Tr) (x2 : Int32) (hS : S 0 65 = 0)  : Ep (f_X8_put_86 S x2) (fun q => (q 0 65 = 0)) := by
  unfold f_X8_put_86
  exact uL_X8_put_86_L2 x2 0 S hS
set_option maxHeartbeats 1000000 in
set_option maxRecDepth 100000 in
theorem uJ_X8_keep_J86 {v63 : Int64} (S : Tr) (L : Lo) (hS : S 0 65 = 0) (hL : L 0 63 = v63)  : Ep (fJ_X8_keep_J86 S L) (fun q => (q.2.1 0 65 = 0) ∧ (q.2.2 0 63 = v63)) := by
  unfold fJ_X8_keep_J86
  refine Ep_lt (fun S_8 eS_8 => ?_)
  have hS_8 : S_8 0 65 = 0 := by rw [eS_8]; exact s65_s hS (by omega)
  refine Ep_lt (fun S_9 eS_9 => ?_)
  have hS_9 : S_9 0 65 = 0 := by rw [eS_9]; exact s65_s hS_8 (by omega)
  refine Ep_lt (fun L_10 eL_10 => ?_)
  have hL_10 : L_10 0 63 = v63 := by rw [eL_10]; exact l63_s hL (by omega)
  exact Ep_some ⟨hS_9, hL_10⟩
set_option maxHeartbeats 1000000 in
set_option maxRecDepth 100000 in
theorem uB_X8_keep_L47 {v63 : Int64} (L : Lo) (hL : L 0 63 = v63)  (N : Nat) : ∀ (x1 : Int32) (S : Tr), S 0 65 = 0 → Ep (lpF (fun _ _ => none) (fB_X8_keep_L47 L) N x1 S) (fun q => (q.2.1 0 65 = 0) ∧ (q.2.2 0 63 = v63)) := by
  induction N with
  | zero => intro x1 S _; exact Ep_none
  | succ N ih =>
    intro x1 S hS
    show Ep (fB_X8_keep_L47 L (lpF (fun _ _ => none) (fB_X8_keep_L47 L) N) x1 S) _
    have hk47 := ih
    clear ih
    generalize lpF (fun _ _ => none) (fB_X8_keep_L47 L) N = k47 at hk47 ⊢
    unfold fB_X8_keep_L47
    refine Ep_ite (fun _ => ?_) (fun _ => ?_)
    · exact uJ_X8_keep_J86 S L hS hL
    · refine Ep_ck ?_
      refine Ep_lt (fun S_12 eS_12 => ?_)
      have hS_12 : S_12 0 65 = 0 := by rw [eS_12]; exact s65_s hS (by omega)
      refine Ep_ck ?_
      refine Ep_lt (fun S_14 eS_14 => ?_)
      have hS_14 : S_14 0 65 = 0 := by rw [eS_14]; exact s65_s hS_12 (by omega)
      refine Ep_lt (fun y15 ey15 => ?_)
      exact hk47 y15 S_14 hS_14
set_option maxHeartbeats 1000000 in
set_option maxRecDepth 100000 in
theorem uL_X8_keep_L47 {v63 : Int64} (L : Lo) (hL : L 0 63 = v63)  (x1 : Int32) (S : Tr) (hS : S 0 65 = 0) : Ep (fL_X8_keep_L47 L x1 S) (fun q => (q.2.1 0 65 = 0) ∧ (q.2.2 0 63 = v63)) := by
  unfold fL_X8_keep_L47
  exact uB_X8_keep_L47 L hL 2000 x1 S hS
set_option maxHeartbeats 1000000 in
set_option maxRecDepth 100000 in
theorem uB_X8_keep_L21 {v63 : Int64} (L : Lo) (hL : L 0 63 = v63)  (N : Nat) : ∀ (x1 : Int32) (S : Tr), S 0 65 = 0 → Ep (lpF (fun _ _ => none) (fB_X8_keep_L21 L) N x1 S) (fun q => (q.2.1 0 65 = 0) ∧ (q.2.2 0 63 = v63)) := by
  induction N with
  | zero => intro x1 S _; exact Ep_none
  | succ N ih =>
    intro x1 S hS
    show Ep (fB_X8_keep_L21 L (lpF (fun _ _ => none) (fB_X8_keep_L21 L) N) x1 S) _
    have hk21 := ih
    clear ih
    generalize lpF (fun _ _ => none) (fB_X8_keep_L21 L) N = k21 at hk21 ⊢
    unfold fB_X8_keep_L21
    refine Ep_ite (fun _ => ?_) (fun _ => ?_)
    · exact uL_X8_keep_L47 L hL 0 S hS
    · refine Ep_ck ?_
      refine Ep_ck ?_
      refine Ep_lt (fun S_18 eS_18 => ?_)
      have hS_18 : S_18 0 65 = 0 := by rw [eS_18]; exact s65_s hS (by omega)
      refine Ep_lt (fun y19 ey19 => ?_)
      exact hk21 y19 S_18 hS_18
set_option maxHeartbeats 1000000 in
set_option maxRecDepth 100000 in
theorem uL_X8_keep_L21 {v63 : Int64} (L : Lo) (hL : L 0 63 = v63)  (x1 : Int32) (S : Tr) (hS : S 0 65 = 0) : Ep (fL_X8_keep_L21 L x1 S) (fun q => (q.2.1 0 65 = 0) ∧ (q.2.2 0 63 = v63)) := by
  unfold fL_X8_keep_L21
  exact uB_X8_keep_L21 L hL 2000 x1 S hS
set_option maxHeartbeats 1000000 in
set_option maxRecDepth 100000 in
theorem u_X8_keep {v63 : Int64} (S : Tr) (L : Lo) (hS : S 0 65 = 0) (hL : L 0 63 = v63)  : Ep (f_X8_keep S L) (fun q => (q.2.1 0 65 = 0) ∧ (q.2.2 0 63 = v63)) := by
  unfold f_X8_keep
  refine Ep_lt (fun S_1 eS_1 => ?_)
  have hS_1 : S_1 0 65 = 0 := by rw [eS_1]; exact s65_s hS (by omega)
  refine Ep_lt (fun S_2 eS_2 => ?_)
  have hS_2 : S_2 0 65 = 0 := by rw [eS_2]; exact s65_s hS_1 (by omega)
  refine Ep_bd (u_X8_put_86 S_2 (0 : Int32) hS_2) (fun S_3 hS_3 => ?_)
  exact uL_X8_keep_L21 L hL 0 S_3 hS_3
set_option maxHeartbeats 1000000 in
set_option maxRecDepth 100000 in
theorem u_X8_fault (S : Tr) (x1 : Int32) (hS : S 0 65 = 0)  : Ep (f_X8_fault S x1) (fun q => (q.2 0 65 = 0)) := by
  unfold f_X8_fault
  refine Ep_lt (fun S_1 eS_1 => ?_)
  have hS_1 : S_1 0 65 = 0 := by rw [eS_1]; exact s65_s hS (by omega)
  refine Ep_ite (fun _ => ?_) (fun _ => ?_)
  · exact Ep_some hS_1
  · refine Ep_ite (fun _ => ?_) (fun _ => ?_)
    · exact Ep_some hS_1
    · exact Ep_some hS_1
set_option maxHeartbeats 1000000 in
set_option maxRecDepth 100000 in
theorem u_X8_named (S : Tr) (x1 : Int32) (hS : S 0 65 = 0)  : Ep (f_X8_named S x1) (fun q => (q.2 0 65 = 0)) := by
  unfold f_X8_named
  refine Ep_lt (fun S_1 eS_1 => ?_)
  have hS_1 : S_1 0 65 = 0 := by rw [eS_1]; exact s65_s hS (by omega)
  refine Ep_any (fun r2 => ?_)
  exact Ep_some hS_1
set_option maxHeartbeats 1000000 in
set_option maxRecDepth 100000 in
theorem u_X8_fails (S : Tr) (x1 : Int32) (hS : S 0 65 = 0)  : Ep (f_X8_fails S x1) (fun q => (q.2 0 65 = 0)) := by
  unfold f_X8_fails
  refine Ep_lt (fun S_1 eS_1 => ?_)
  have hS_1 : S_1 0 65 = 0 := by rw [eS_1]; exact s65_s hS (by omega)
  exact Ep_some hS_1
set_option maxHeartbeats 1000000 in
set_option maxRecDepth 100000 in
theorem u_X8_person (S : Tr) (x1 : Int32) (x2 : Int32) (hS : S 0 65 = 0)  : Ep (f_X8_person S x1 x2) (fun q => (q.2 0 65 = 0)) := by
  unfold f_X8_person
  refine Ep_lt (fun S_1 eS_1 => ?_)
  have hS_1 : S_1 0 65 = 0 := by rw [eS_1]; exact s65_s hS (by omega)
  refine Ep_any (fun r2 => ?_)
  refine Ep_ite (fun _ => ?_) (fun _ => ?_)
  · refine Ep_bd (u_X8_fails S_1 (1 : Int32) hS_1) (fun q hq => ?_)
    refine Ep_lt (fun r21 er21 => ?_)
    refine Ep_lt (fun S_22 eS_22 => ?_)
    have hS_22 : S_22 0 65 = 0 := by rw [eS_22]; exact hq
    exact Ep_some hS_22
  · refine Ep_ite (fun _ => ?_) (fun _ => ?_)
    · refine Ep_ck ?_
      exact Ep_some hS_1
    · refine Ep_ite (fun _ => ?_) (fun _ => ?_)
      · refine Ep_ck ?_
        exact Ep_some hS_1
      · refine Ep_ite (fun _ => ?_) (fun _ => ?_)
        · refine Ep_ck ?_
          exact Ep_some hS_1
        · refine Ep_ite (fun _ => ?_) (fun _ => ?_)
          · refine Ep_ck ?_
            exact Ep_some hS_1
          · refine Ep_ite (fun _ => ?_) (fun _ => ?_)
            · refine Ep_ck ?_
              exact Ep_some hS_1
            · refine Ep_bd (u_X8_fails S_1 (2 : Int32) hS_1) (fun q hq => ?_)
              refine Ep_lt (fun r16 er16 => ?_)
              refine Ep_lt (fun S_17 eS_17 => ?_)
              have hS_17 : S_17 0 65 = 0 := by rw [eS_17]; exact hq
              exact Ep_some hS_17
set_option maxHeartbeats 1000000 in
set_option maxRecDepth 100000 in
theorem u_X8_piece (S : Tr) (x1 : Int32) (x2 : Int32) (hS : S 0 65 = 0)  : Ep (f_X8_piece S x1 x2) (fun q => (q.2 0 65 = 0)) := by
  unfold f_X8_piece
  refine Ep_lt (fun S_1 eS_1 => ?_)
  have hS_1 : S_1 0 65 = 0 := by rw [eS_1]; exact s65_s hS (by omega)
  refine Ep_any (fun r2 => ?_)
  refine Ep_ite (fun _ => ?_) (fun _ => ?_)
  · exact Ep_some hS_1
  · refine Ep_ite (fun _ => ?_) (fun _ => ?_)
    · refine Ep_ck ?_
      exact Ep_some hS_1
    · refine Ep_ite (fun _ => ?_) (fun _ => ?_)
      · refine Ep_ck ?_
        exact Ep_some hS_1
      · refine Ep_ite (fun _ => ?_) (fun _ => ?_)
        · refine Ep_ck ?_
          exact Ep_some hS_1
        · refine Ep_ite (fun _ => ?_) (fun _ => ?_)
          · refine Ep_ck ?_
            exact Ep_some hS_1
          · refine Ep_ite (fun _ => ?_) (fun _ => ?_)
            · refine Ep_ck ?_
              exact Ep_some hS_1
            · refine Ep_ite (fun _ => ?_) (fun _ => ?_)
              · refine Ep_any (fun r17 => ?_)
                exact Ep_some hS_1
              · exact Ep_some hS_1
set_option maxHeartbeats 1000000 in
set_option maxRecDepth 100000 in
theorem u_X8_place (S : Tr) (x1 : Int32) (x2 : Int32) (hS : S 0 65 = 0)  : Ep (f_X8_place S x1 x2) (fun q => (q.2 0 65 = 0)) := by
  unfold f_X8_place
  refine Ep_lt (fun S_1 eS_1 => ?_)
  have hS_1 : S_1 0 65 = 0 := by rw [eS_1]; exact s65_s hS (by omega)
  refine Ep_any (fun r2 => ?_)
  refine Ep_ite (fun _ => ?_) (fun _ => ?_)
  · exact Ep_some hS_1
  · refine Ep_ite (fun _ => ?_) (fun _ => ?_)
    · refine Ep_ck ?_
      exact Ep_some hS_1
    · refine Ep_ite (fun _ => ?_) (fun _ => ?_)
      · refine Ep_ck ?_
        exact Ep_some hS_1
      · refine Ep_ite (fun _ => ?_) (fun _ => ?_)
        · refine Ep_any (fun r11 => ?_)
          exact Ep_some hS_1
        · refine Ep_ite (fun _ => ?_) (fun _ => ?_)
          · refine Ep_ck ?_
            exact Ep_some hS_1
          · refine Ep_ite (fun _ => ?_) (fun _ => ?_)
            · refine Ep_ck ?_
              refine Ep_ite (fun _ => ?_) (fun _ => ?_)
              · exact Ep_some hS_1
              · refine Ep_any (fun r19 => ?_)
                exact Ep_some hS_1
            · exact Ep_some hS_1
set_option maxHeartbeats 1000000 in
set_option maxRecDepth 100000 in
theorem u_X8_waits (S : Tr) (x1 : Int32) (hS : S 0 65 = 0)  : Ep (f_X8_waits S x1) (fun q => (q.2 0 65 = 0)) := by
  unfold f_X8_waits
  refine Ep_lt (fun S_1 eS_1 => ?_)
  have hS_1 : S_1 0 65 = 0 := by rw [eS_1]; exact s65_s hS (by omega)
  refine Ep_any (fun r2 => ?_)
  refine Ep_ite (fun _ => ?_) (fun _ => ?_)
  · exact Ep_some hS_1
  · refine Ep_ck ?_
    exact Ep_some hS_1
set_option maxHeartbeats 1000000 in
set_option maxRecDepth 100000 in
theorem uB_X8_count_L154 (S : Tr) (hS : S 0 65 = 0)  (N : Nat) : ∀ (x2 : Int32) (x3 : Int32), Ep (lpF (fun _ _ => none) (fB_X8_count_L154 S) N x2 x3) (fun q => (q.2 0 65 = 0)) := by
  induction N with
  | zero => intro x2 x3; exact Ep_none
  | succ N ih =>
    intro x2 x3
    show Ep (fB_X8_count_L154 S (lpF (fun _ _ => none) (fB_X8_count_L154 S) N) x2 x3) _
    have hk154 := ih
    clear ih
    generalize lpF (fun _ _ => none) (fB_X8_count_L154 S) N = k154 at hk154 ⊢
    unfold fB_X8_count_L154
    refine Ep_ite (fun _ => ?_) (fun _ => ?_)
    · exact Ep_some hS
    · refine Ep_ck ?_
      refine Ep_ite (fun _ => ?_) (fun _ => ?_)
      · refine Ep_lt (fun y34 ey34 => ?_)
        refine Ep_lt (fun y35 ey35 => ?_)
        exact hk154 y34 y35
      · refine Ep_lt (fun y32 ey32 => ?_)
        refine Ep_lt (fun y33 ey33 => ?_)
        exact hk154 y32 y33
set_option maxHeartbeats 1000000 in
set_option maxRecDepth 100000 in
theorem uL_X8_count_L154 (S : Tr) (hS : S 0 65 = 0)  (x2 : Int32) (x3 : Int32)  : Ep (fL_X8_count_L154 S x2 x3) (fun q => (q.2 0 65 = 0)) := by
  unfold fL_X8_count_L154
  exact uB_X8_count_L154 S hS 2000 x2 x3
set_option maxHeartbeats 1000000 in
set_option maxRecDepth 100000 in
theorem u_X8_count (S : Tr) (x1 : Int32) (hS : S 0 65 = 0)  : Ep (f_X8_count S x1) (fun q => (q.2 0 65 = 0)) := by
  unfold f_X8_count
  refine Ep_lt (fun S_1 eS_1 => ?_)
  have hS_1 : S_1 0 65 = 0 := by rw [eS_1]; exact s65_s hS (by omega)
  refine Ep_ite (fun _ => ?_) (fun _ => ?_)
  · exact Ep_some hS_1
  · refine Ep_ite (fun _ => ?_) (fun _ => ?_)
    · exact Ep_some hS_1
    · refine Ep_ite (fun _ => ?_) (fun _ => ?_)
      · exact Ep_some hS_1
      · refine Ep_ite (fun _ => ?_) (fun _ => ?_)
        · exact Ep_some hS_1
        · refine Ep_ite (fun _ => ?_) (fun _ => ?_)
          · exact Ep_some hS_1
          · refine Ep_ite (fun _ => ?_) (fun _ => ?_)
            · exact Ep_some hS_1
            · refine Ep_ite (fun _ => ?_) (fun _ => ?_)
              · refine Ep_any (fun r9 => ?_)
                exact Ep_some hS_1
              · refine Ep_ite (fun _ => ?_) (fun _ => ?_)
                · refine Ep_any (fun r13 => ?_)
                  exact Ep_some hS_1
                · refine Ep_ite (fun _ => ?_) (fun _ => ?_)
                  · refine Ep_any (fun r17 => ?_)
                    exact Ep_some hS_1
                  · refine Ep_ite (fun _ => ?_) (fun _ => ?_)
                    · refine Ep_any (fun r21 => ?_)
                      exact Ep_some hS_1
                    · refine Ep_ite (fun _ => ?_) (fun _ => ?_)
                      · refine Ep_any (fun r25 => ?_)
                        exact Ep_some hS_1
                      · refine Ep_ite (fun _ => ?_) (fun _ => ?_)
                        · exact uL_X8_count_L154 S_1 hS_1 0 0
                        · refine Ep_ite (fun _ => ?_) (fun _ => ?_)
                          · exact Ep_some hS_1
                          · refine Ep_ite (fun _ => ?_) (fun _ => ?_)
                            · exact Ep_some hS_1
                            · refine Ep_ite (fun _ => ?_) (fun _ => ?_)
                              · refine Ep_any (fun r39 => ?_)
                                exact Ep_some hS_1
                              · refine Ep_ite (fun _ => ?_) (fun _ => ?_)
                                · exact Ep_some hS_1
                                · exact Ep_some hS_1
set_option maxHeartbeats 1000000 in
set_option maxRecDepth 100000 in
theorem uJ_X8_feed_J113 (S : Tr) (hS : S 0 65 = 0)  : Ep (fJ_X8_feed_J113 S) (fun q => (q.2 0 65 = 0)) := by
  unfold fJ_X8_feed_J113
  refine Ep_lt (fun S_4 eS_4 => ?_)
  have hS_4 : S_4 0 65 = 0 := by rw [eS_4]; exact s65_s hS (by omega)
  exact Ep_some hS_4
set_option maxHeartbeats 1000000 in
set_option maxRecDepth 100000 in
theorem uJ_X8_feed_J76 (k23 : Int32 → Tr → Option (Int32 × Tr)) (x1 : Int32) (x2 : Int32) (x3 : Int32) (x4 : Int32) (x5 : Int32) (x6 : Int32) (s0 : Int32) (S : Tr) (hS : S 0 65 = 0) (hk23 : ∀ (x6 : Int32) (S : Tr), S 0 65 = 0 → Ep (k23 x6 S) (fun q => (q.2 0 65 = 0))) : Ep (fJ_X8_feed_J76 k23 x1 x2 x3 x4 x5 x6 s0 S) (fun q => (q.2 0 65 = 0)) := by
  unfold fJ_X8_feed_J76
  refine Ep_ck ?_
  refine Ep_lt (fun S_10 eS_10 => ?_)
  have hS_10 : S_10 0 65 = 0 := by rw [eS_10]; exact s65_s hS (by omega)
  refine Ep_lt (fun y11 ey11 => ?_)
  exact hk23 y11 S_10 hS_10
set_option maxHeartbeats 1000000 in
set_option maxRecDepth 100000 in
theorem uB_X8_feed_L23 (x1 : Int32) (x2 : Int32) (x3 : Int32) (x4 : Int32) (x5 : Int32)   (N : Nat) : ∀ (x6 : Int32) (S : Tr), S 0 65 = 0 → Ep (lpF (fun _ _ => none) (fB_X8_feed_L23 x1 x2 x3 x4 x5) N x6 S) (fun q => (q.2 0 65 = 0)) := by
  induction N with
  | zero => intro x6 S _; exact Ep_none
  | succ N ih =>
    intro x6 S hS
    show Ep (fB_X8_feed_L23 x1 x2 x3 x4 x5 (lpF (fun _ _ => none) (fB_X8_feed_L23 x1 x2 x3 x4 x5) N) x6 S) _
    have hk23 := ih
    clear ih
    generalize lpF (fun _ _ => none) (fB_X8_feed_L23 x1 x2 x3 x4 x5) N = k23 at hk23 ⊢
    unfold fB_X8_feed_L23
    refine Ep_ite (fun _ => ?_) (fun _ => ?_)
    · exact uJ_X8_feed_J113 S hS
    · refine Ep_ite (fun _ => ?_) (fun _ => ?_)
      · refine Ep_ite (fun _ => ?_) (fun _ => ?_)
        · refine Ep_ite (fun _ => ?_) (fun _ => ?_)
          · refine Ep_ite (fun _ => ?_) (fun _ => ?_)
            · exact uJ_X8_feed_J76 k23 x1 x2 x3 x4 x5 x6 x5 S hS hk23
            · exact uJ_X8_feed_J76 k23 x1 x2 x3 x4 x5 x6 x4 S hS hk23
          · exact uJ_X8_feed_J76 k23 x1 x2 x3 x4 x5 x6 x3 S hS hk23
        · exact uJ_X8_feed_J76 k23 x1 x2 x3 x4 x5 x6 x2 S hS hk23
      · exact uJ_X8_feed_J76 k23 x1 x2 x3 x4 x5 x6 x1 S hS hk23
set_option maxHeartbeats 1000000 in
set_option maxRecDepth 100000 in
theorem uL_X8_feed_L23 (x1 : Int32) (x2 : Int32) (x3 : Int32) (x4 : Int32) (x5 : Int32)   (x6 : Int32) (S : Tr) (hS : S 0 65 = 0) : Ep (fL_X8_feed_L23 x1 x2 x3 x4 x5 x6 S) (fun q => (q.2 0 65 = 0)) := by
  unfold fL_X8_feed_L23
  exact uB_X8_feed_L23 x1 x2 x3 x4 x5 2000 x6 S hS
set_option maxHeartbeats 1000000 in
set_option maxRecDepth 100000 in
theorem u_X8_feed (S : Tr) (x1 : Int32) (x2 : Int32) (x3 : Int32) (x4 : Int32) (x5 : Int32) (hS : S 0 65 = 0)  : Ep (f_X8_feed S x1 x2 x3 x4 x5) (fun q => (q.2 0 65 = 0)) := by
  unfold f_X8_feed
  refine Ep_lt (fun S_1 eS_1 => ?_)
  have hS_1 : S_1 0 65 = 0 := by rw [eS_1]; exact s65_s hS (by omega)
  refine Ep_ite (fun _ => ?_) (fun _ => ?_)
  · exact uL_X8_feed_L23 x1 x2 x3 x4 x5 0 S_1 hS_1
  · exact Ep_some hS_1
