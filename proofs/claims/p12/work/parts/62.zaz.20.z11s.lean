/-! seconds of the reference: what stays -/
set_option maxHeartbeats 1000000 in
set_option maxRecDepth 100000 in
theorem q5_X8_boundLaw {S0 : Tr} (S : Tr) (L : Lo) (x1 : Int32) (x2 : Int32) (x3 : Int32) (hS : o51 S0 S)   : Ep (f_X8_boundLaw S L x1 x2 x3) (fun q => o51 S0 q.2.1) := by
  unfold f_X8_boundLaw
  refine Ep_ck ?_
  refine Ep_ite (fun _ => ?_) (fun _ => ?_)
  · exact Ep_some hS
  · refine Ep_bd (Ep_mono (fr_law S L x1) (fun q hq => o51_t hS hq.1)) (fun q hq => ?_)
    refine Ep_lt (fun r3 er3 => ?_)
    refine Ep_lt (fun S_4 eS_4 => ?_)
    have hS_4 : o51 S0 S_4 := by rw [eS_4]; exact hq
    refine Ep_lt (fun L_5 eL_5 => ?_)
    refine Ep_ite (fun _ => ?_) (fun _ => ?_)
    · refine Ep_ite (fun _ => ?_) (fun _ => ?_)
      · refine Ep_ite (fun _ => ?_) (fun _ => ?_)
        · exact Ep_some hS_4
        · exact Ep_some hS_4
      · exact Ep_some hS_4
    · exact Ep_some hS_4
set_option maxHeartbeats 1000000 in
set_option maxRecDepth 100000 in
theorem q5_X8_liftOf {S0 : Tr} (S : Tr) (L : Lo) (x1 : Int32) (x2 : Int32) (x3 : Int32) (hS : o51 S0 S)   : Ep (f_X8_liftOf S L x1 x2 x3) (fun q => o51 S0 q.2.1) := by
  unfold f_X8_liftOf
  refine Ep_any (fun L_1 => ?_)
  refine Ep_ck ?_
  refine Ep_any (fun r5 => ?_)
  refine Ep_ck ?_
  refine Ep_bd (q5_X8_boundLaw S L_1 (0 : Int32) (((S 31 x2.toNatClampNeg) / r5) + 1) (99 : Int32) hS) (fun q hq => ?_)
  refine Ep_lt (fun r9 er9 => ?_)
  refine Ep_lt (fun S_10 eS_10 => ?_)
  have hS_10 : o51 S0 S_10 := by rw [eS_10]; exact hq
  refine Ep_lt (fun L_11 eL_11 => ?_)
  exact Ep_some hS_10
set_option maxHeartbeats 1000000 in
set_option maxRecDepth 100000 in
theorem q5B_X8_secondsOf_L23 {S0 : Tr} (x1 : Int32) (x2 : Int32) (x3 : Int32)    (N : Nat) : ∀ (x4 : Int32) (x5 : Int32) (S : Tr) (L : Lo), o51 S0 S → Ep (lpF (fun _ _ _ _ => none) (fB_X8_secondsOf_L23 x1 x2 x3) N x4 x5 S L) (fun q => o51 S0 q.2.1) := by
  induction N with
  | zero => intro x4 x5 S L _; exact Ep_none
  | succ N ih =>
    intro x4 x5 S L hS
    show Ep (fB_X8_secondsOf_L23 x1 x2 x3 (lpF (fun _ _ _ _ => none) (fB_X8_secondsOf_L23 x1 x2 x3) N) x4 x5 S L) _
    have hk23 := ih
    clear ih
    generalize lpF (fun _ _ _ _ => none) (fB_X8_secondsOf_L23 x1 x2 x3) N = k23 at hk23 ⊢
    unfold fB_X8_secondsOf_L23
    refine Ep_ck ?_
    refine Ep_ite (fun _ => ?_) (fun _ => ?_)
    · exact Ep_some hS
    · refine Ep_any (fun r8 => ?_)
      refine Ep_ck ?_
      refine Ep_bd (q5_X8_liftOf S L x1 r8 (S 30 x2.toNatClampNeg) hS) (fun q hq => ?_)
      refine Ep_lt (fun r12 er12 => ?_)
      refine Ep_lt (fun S_13 eS_13 => ?_)
      have hS_13 : o51 S0 S_13 := by rw [eS_13]; exact hq
      refine Ep_lt (fun L_14 eL_14 => ?_)
      refine Ep_lt (fun y17 ey17 => ?_)
      refine Ep_lt (fun y18 ey18 => ?_)
      exact hk23 y17 y18 S_13 L_14 hS_13
set_option maxHeartbeats 1000000 in
set_option maxRecDepth 100000 in
theorem q5L_X8_secondsOf_L23 {S0 : Tr} (x1 : Int32) (x2 : Int32) (x3 : Int32)    (x4 : Int32) (x5 : Int32) (S : Tr) (L : Lo) (hS : o51 S0 S) : Ep (fL_X8_secondsOf_L23 x1 x2 x3 x4 x5 S L) (fun q => o51 S0 q.2.1) := by
  unfold fL_X8_secondsOf_L23
  exact q5B_X8_secondsOf_L23 x1 x2 x3 2000 x4 x5 S L hS
set_option maxHeartbeats 1000000 in
set_option maxRecDepth 100000 in
theorem q5_X8_secondsOf {S0 : Tr} (S : Tr) (L : Lo) (x1 : Int32) (x2 : Int32) (hS : o51 S0 S)   : Ep (f_X8_secondsOf S L x1 x2) (fun q => o51 S0 q.2.1) := by
  unfold f_X8_secondsOf
  refine Ep_ck ?_
  refine Ep_lt (fun y2 ey2 => ?_)
  refine Ep_any (fun r3 => ?_)
  exact q5L_X8_secondsOf_L23 x1 x2 y2 0 r3 S L hS
set_option maxHeartbeats 1000000 in
set_option maxRecDepth 100000 in
theorem qL_X8_layNames {L0 : Lo} (S : Tr) (L : Lo) (x1 : Int32) (x2 : Int32) (x3 : Int32) (hL : oL L0 L)   : Ep (f_X8_layNames S L x1 x2 x3) (fun q => oL L0 q) := by
  unfold f_X8_layNames
  refine Ep_ck ?_
  refine Ep_lt (fun y2 ey2 => ?_)
  refine Ep_ck ?_
  refine Ep_lt (fun L_4 eL_4 => ?_)
  have hL_4 : oL L0 L_4 := by rw [eL_4]; exact oL_s hL (Or.inl rfl)
  refine Ep_lt (fun L_5 eL_5 => ?_)
  have hL_5 : oL L0 L_5 := by rw [eL_5]; exact oL_s hL_4 (Or.inl rfl)
  refine Ep_any (fun r6 => ?_)
  refine Ep_lt (fun L_9 eL_9 => ?_)
  have hL_9 : oL L0 L_9 := by rw [eL_9]; exact oL_s hL_5 (Or.inl rfl)
  refine Ep_ck ?_
  refine Ep_lt (fun L_11 eL_11 => ?_)
  have hL_11 : oL L0 L_11 := by rw [eL_11]; exact oL_s hL_9 (Or.inl rfl)
  refine Ep_any (fun r12 => ?_)
  refine Ep_lt (fun L_15 eL_15 => ?_)
  have hL_15 : oL L0 L_15 := by rw [eL_15]; exact oL_s hL_11 (Or.inl rfl)
  refine Ep_ck ?_
  refine Ep_lt (fun L_17 eL_17 => ?_)
  have hL_17 : oL L0 L_17 := by rw [eL_17]; exact oL_s hL_15 (Or.inl rfl)
  refine Ep_any (fun r18 => ?_)
  refine Ep_lt (fun L_21 eL_21 => ?_)
  have hL_21 : oL L0 L_21 := by rw [eL_21]; exact oL_s hL_17 (Or.inl rfl)
  exact Ep_some hL_21
set_option maxHeartbeats 1000000 in
set_option maxRecDepth 100000 in
theorem qL_X8_boundLaw {L0 : Lo} (S : Tr) (L : Lo) (x1 : Int32) (x2 : Int32) (x3 : Int32) (hL : oL L0 L)   : Ep (f_X8_boundLaw S L x1 x2 x3) (fun q => oL L0 q.2.2) := by
  unfold f_X8_boundLaw
  refine Ep_ck ?_
  refine Ep_ite (fun _ => ?_) (fun _ => ?_)
  · exact Ep_some hL
  · refine Ep_bd (Ep_mono (fr_law S L x1) (fun q hq => oL_t hL hq.2)) (fun q hq => ?_)
    refine Ep_lt (fun r3 er3 => ?_)
    refine Ep_lt (fun S_4 eS_4 => ?_)
    refine Ep_lt (fun L_5 eL_5 => ?_)
    have hL_5 : oL L0 L_5 := by rw [eL_5]; exact hq
    refine Ep_ite (fun _ => ?_) (fun _ => ?_)
    · refine Ep_ite (fun _ => ?_) (fun _ => ?_)
      · refine Ep_ite (fun _ => ?_) (fun _ => ?_)
        · exact Ep_some hL_5
        · exact Ep_some hL_5
      · exact Ep_some hL_5
    · exact Ep_some hL_5
set_option maxHeartbeats 1000000 in
set_option maxRecDepth 100000 in
theorem qL_X8_liftOf {L0 : Lo} (S : Tr) (L : Lo) (x1 : Int32) (x2 : Int32) (x3 : Int32) (hL : oL L0 L)   : Ep (f_X8_liftOf S L x1 x2 x3) (fun q => oL L0 q.2.2) := by
  unfold f_X8_liftOf
  refine Ep_bd (qL_X8_layNames S L x1 x2 x3 hL) (fun L_1 hL_1 => ?_)
  refine Ep_ck ?_
  refine Ep_any (fun r5 => ?_)
  refine Ep_ck ?_
  refine Ep_bd (qL_X8_boundLaw S L_1 (0 : Int32) (((S 31 x2.toNatClampNeg) / r5) + 1) (99 : Int32) hL_1) (fun q hq => ?_)
  refine Ep_lt (fun r9 er9 => ?_)
  refine Ep_lt (fun S_10 eS_10 => ?_)
  refine Ep_lt (fun L_11 eL_11 => ?_)
  have hL_11 : oL L0 L_11 := by rw [eL_11]; exact hq
  exact Ep_some hL_11
set_option maxHeartbeats 1000000 in
set_option maxRecDepth 100000 in
theorem qLB_X8_secondsOf_L23 {L0 : Lo} (x1 : Int32) (x2 : Int32) (x3 : Int32)    (N : Nat) : ∀ (x4 : Int32) (x5 : Int32) (S : Tr) (L : Lo), oL L0 L → Ep (lpF (fun _ _ _ _ => none) (fB_X8_secondsOf_L23 x1 x2 x3) N x4 x5 S L) (fun q => oL L0 q.2.2) := by
  induction N with
  | zero => intro x4 x5 S L _; exact Ep_none
  | succ N ih =>
    intro x4 x5 S L hL
    show Ep (fB_X8_secondsOf_L23 x1 x2 x3 (lpF (fun _ _ _ _ => none) (fB_X8_secondsOf_L23 x1 x2 x3) N) x4 x5 S L) _
    have hk23 := ih
    clear ih
    generalize lpF (fun _ _ _ _ => none) (fB_X8_secondsOf_L23 x1 x2 x3) N = k23 at hk23 ⊢
    unfold fB_X8_secondsOf_L23
    refine Ep_ck ?_
    refine Ep_ite (fun _ => ?_) (fun _ => ?_)
    · exact Ep_some hL
    · refine Ep_any (fun r8 => ?_)
      refine Ep_ck ?_
      refine Ep_bd (qL_X8_liftOf S L x1 r8 (S 30 x2.toNatClampNeg) hL) (fun q hq => ?_)
      refine Ep_lt (fun r12 er12 => ?_)
      refine Ep_lt (fun S_13 eS_13 => ?_)
      refine Ep_lt (fun L_14 eL_14 => ?_)
      have hL_14 : oL L0 L_14 := by rw [eL_14]; exact hq
      refine Ep_lt (fun y17 ey17 => ?_)
      refine Ep_lt (fun y18 ey18 => ?_)
      exact hk23 y17 y18 S_13 L_14 hL_14
set_option maxHeartbeats 1000000 in
set_option maxRecDepth 100000 in
theorem qLL_X8_secondsOf_L23 {L0 : Lo} (x1 : Int32) (x2 : Int32) (x3 : Int32)    (x4 : Int32) (x5 : Int32) (S : Tr) (L : Lo) (hL : oL L0 L) : Ep (fL_X8_secondsOf_L23 x1 x2 x3 x4 x5 S L) (fun q => oL L0 q.2.2) := by
  unfold fL_X8_secondsOf_L23
  exact qLB_X8_secondsOf_L23 x1 x2 x3 2000 x4 x5 S L hL
set_option maxHeartbeats 1000000 in
set_option maxRecDepth 100000 in
theorem qL_X8_secondsOf {L0 : Lo} (S : Tr) (L : Lo) (x1 : Int32) (x2 : Int32) (hL : oL L0 L)   : Ep (f_X8_secondsOf S L x1 x2) (fun q => oL L0 q.2.2) := by
  unfold f_X8_secondsOf
  refine Ep_ck ?_
  refine Ep_lt (fun y2 ey2 => ?_)
  refine Ep_any (fun r3 => ?_)
  exact qLL_X8_secondsOf_L23 x1 x2 y2 0 r3 S L hL
