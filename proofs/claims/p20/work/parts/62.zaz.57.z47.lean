/-! what holds between calls: frames -/
def nwc (a j : Nat) : Prop := h0c a j ∨ (84 ≤ a ∧ a ≤ 88) ∨ (a = 0 ∧ (j = 65 ∨ j = 82 ∨ j = 84 ∨ j = 88 ∨ j = 89))
def nwF (S0 S : Tr) : Prop := ∀ a j, nwc a j → S a j = S0 a j
theorem nwF_r {S : Tr} : nwF S S := fun _ _ _ => rfl
theorem nwF_s {S0 S : Tr} {a i : Nat} {v : Int32} (h : nwF S0 S) (hn : ¬ nwc a i) : nwF S0 (st S a i v) := fun b j hb => by
  rw [st_no (fun e => by obtain ⟨e1, e2⟩ := e; subst e1 e2; exact hn hb)]; exact h b j hb
def imF (S0 S : Tr) : Prop := ∀ a j, ((86 ≤ a ∧ a ≤ 88) ∨ (23 ≤ a ∧ a ≤ 41) ∨ (a = 0 ∧ ((12 ≤ j ∧ j ≤ 14) ∨ j = 84 ∨ j = 88 ∨ j = 89))) → S a j = S0 a j
theorem imF_r {S : Tr} : imF S S := fun _ _ _ => rfl
theorem imF_s {S0 S : Tr} {a i : Nat} {v : Int32} (h : imF S0 S) (hn : ¬ ((86 ≤ a ∧ a ≤ 88) ∨ (23 ≤ a ∧ a ≤ 41) ∨ (a = 0 ∧ ((12 ≤ i ∧ i ≤ 14) ∨ i = 84 ∨ i = 88 ∨ i = 89)))) : imF S0 (st S a i v) := fun b j hb => by
  rw [st_no (fun e => by obtain ⟨e1, e2⟩ := e; subst e1 e2; exact hn hb)]; exact h b j hb
def ihF (S0 S : Tr) : Prop := ∀ a j, ((84 ≤ a ∧ a ≤ 88) ∨ (23 ≤ a ∧ a ≤ 41) ∨ a = 57 ∨ (a = 0 ∧ ((12 ≤ j ∧ j ≤ 14) ∨ j = 84 ∨ j = 88 ∨ j = 89))) → S a j = S0 a j
theorem ihF_r {S : Tr} : ihF S S := fun _ _ _ => rfl
theorem ihF_s {S0 S : Tr} {a i : Nat} {v : Int32} (h : ihF S0 S) (hn : ¬ ((84 ≤ a ∧ a ≤ 88) ∨ (23 ≤ a ∧ a ≤ 41) ∨ a = 57 ∨ (a = 0 ∧ ((12 ≤ i ∧ i ≤ 14) ∨ i = 84 ∨ i = 88 ∨ i = 89)))) : ihF S0 (st S a i v) := fun b j hb => by
  rw [st_no (fun e => by obtain ⟨e1, e2⟩ := e; subst e1 e2; exact hn hb)]; exact h b j hb
def t57 (S0 S : Tr) : Prop := ∀ j, S 57 j = S0 57 j
theorem t57_r {S : Tr} : t57 S S := fun _ => rfl
theorem t57_s {S0 S : Tr} {a i : Nat} {v : Int32} (h : t57 S0 S) (hn : ¬ a = 57) : t57 S0 (st S a i v) := fun j => by
  rw [st_oth (fun e => hn e.symm)]; exact h j
theorem l90_s {L : Lo} {a i : Nat} {v v90 : Int64} (h : L 0 90 = v90) (hn : ¬ (a = 0 ∧ i = 90)) : stL L a i v 0 90 = v90 := by
  by_cases ha : 0 = a
  · subst ha
    rw [stL_ne (fun e => hn ⟨rfl, e.symm⟩)]; exact h
  · rw [stL_oth ha]; exact h
set_option maxHeartbeats 1000000 in
set_option maxRecDepth 100000 in
theorem nwJ_X8_feed_J113 {S0 : Tr} (S : Tr) (hS : nwF S0 S)   : Ep (fJ_X8_feed_J113 S) (fun q => nwF S0 q.2) := by
  unfold fJ_X8_feed_J113
  refine Ep_lt (fun S_4 eS_4 => ?_)
  have hS_4 : nwF S0 S_4 := by rw [eS_4]; exact nwF_s hS (by unfold nwc h0c; omega)
  exact Ep_some hS_4
set_option maxHeartbeats 1000000 in
set_option maxRecDepth 100000 in
theorem nwJ_X8_feed_J76 {S0 : Tr} (k23 : Int32 → Tr → Option (Int32 × Tr)) (x1 : Int32) (x2 : Int32) (x3 : Int32) (x4 : Int32) (x5 : Int32) (x6 : Int32) (s0 : Int32) (S : Tr) (hS : nwF S0 S) (hk23 : ∀ (x6 : Int32) (S : Tr), nwF S0 S → Ep (k23 x6 S) (fun q => nwF S0 q.2))  : Ep (fJ_X8_feed_J76 k23 x1 x2 x3 x4 x5 x6 s0 S) (fun q => nwF S0 q.2) := by
  unfold fJ_X8_feed_J76
  refine Ep_ck ?_
  refine Ep_lt (fun S_10 eS_10 => ?_)
  have hS_10 : nwF S0 S_10 := by rw [eS_10]; exact nwF_s hS (by unfold nwc h0c; omega)
  refine Ep_lt (fun y11 ey11 => ?_)
  exact hk23 y11 S_10 hS_10
set_option maxHeartbeats 1000000 in
set_option maxRecDepth 100000 in
theorem nwB_X8_feed_L23 {S0 : Tr} (x1 : Int32) (x2 : Int32) (x3 : Int32) (x4 : Int32) (x5 : Int32)    (N : Nat) : ∀ (x6 : Int32) (S : Tr), nwF S0 S → Ep (lpF (fun _ _ => none) (fB_X8_feed_L23 x1 x2 x3 x4 x5) N x6 S) (fun q => nwF S0 q.2) := by
  induction N with
  | zero => intro x6 S _; exact Ep_none
  | succ N ih =>
    intro x6 S hS
    show Ep (fB_X8_feed_L23 x1 x2 x3 x4 x5 (lpF (fun _ _ => none) (fB_X8_feed_L23 x1 x2 x3 x4 x5) N) x6 S) _
    have hk23 := ih
    clear ih
    generalize lpF (fun _ _ => none) (fB_X8_feed_L23 x1 x2 x3 x4 x5) N = k23 at hk23 ⊢
    unfold fB_X8_feed_L23
    refine Ep_ite (fun _ => ?_) (fun _ => ?_)
    · exact nwJ_X8_feed_J113 S hS
    · refine Ep_ite (fun _ => ?_) (fun _ => ?_)
      · refine Ep_ite (fun _ => ?_) (fun _ => ?_)
        · refine Ep_ite (fun _ => ?_) (fun _ => ?_)
          · refine Ep_ite (fun _ => ?_) (fun _ => ?_)
            · exact nwJ_X8_feed_J76 k23 x1 x2 x3 x4 x5 x6 x5 S hS hk23
            · exact nwJ_X8_feed_J76 k23 x1 x2 x3 x4 x5 x6 x4 S hS hk23
          · exact nwJ_X8_feed_J76 k23 x1 x2 x3 x4 x5 x6 x3 S hS hk23
        · exact nwJ_X8_feed_J76 k23 x1 x2 x3 x4 x5 x6 x2 S hS hk23
      · exact nwJ_X8_feed_J76 k23 x1 x2 x3 x4 x5 x6 x1 S hS hk23
set_option maxHeartbeats 1000000 in
set_option maxRecDepth 100000 in
theorem nwL_X8_feed_L23 {S0 : Tr} (x1 : Int32) (x2 : Int32) (x3 : Int32) (x4 : Int32) (x5 : Int32)    (x6 : Int32) (S : Tr) (hS : nwF S0 S) : Ep (fL_X8_feed_L23 x1 x2 x3 x4 x5 x6 S) (fun q => nwF S0 q.2) := by
  unfold fL_X8_feed_L23
  exact nwB_X8_feed_L23 x1 x2 x3 x4 x5 2000 x6 S hS
set_option maxHeartbeats 1000000 in
set_option maxRecDepth 100000 in
theorem nw_X8_feed {S0 : Tr} (S : Tr) (x1 : Int32) (x2 : Int32) (x3 : Int32) (x4 : Int32) (x5 : Int32) (hS : nwF S0 S)   : Ep (f_X8_feed S x1 x2 x3 x4 x5) (fun q => nwF S0 q.2) := by
  unfold f_X8_feed
  refine Ep_lt (fun S_1 eS_1 => ?_)
  have hS_1 : nwF S0 S_1 := by rw [eS_1]; exact nwF_s hS (by unfold nwc h0c; omega)
  refine Ep_ite (fun _ => ?_) (fun _ => ?_)
  · exact nwL_X8_feed_L23 x1 x2 x3 x4 x5 0 S_1 hS_1
  · exact Ep_some hS_1
set_option maxHeartbeats 1000000 in
set_option maxRecDepth 100000 in
theorem nw_X8_noted {S0 : Tr} (S : Tr) (x1 : Int32) (x2 : Int32) (x3 : Int32) (x4 : Int32) (hS : nwF S0 S)   : Ep (f_X8_noted S x1 x2 x3 x4) (fun q => nwF S0 q.2) := by
  unfold f_X8_noted
  refine Ep_ck ?_
  refine Ep_lt (fun S_2 eS_2 => ?_)
  have hS_2 : nwF S0 S_2 := by rw [eS_2]; exact nwF_s hS (by unfold nwc h0c; omega)
  refine Ep_ck ?_
  refine Ep_lt (fun S_4 eS_4 => ?_)
  have hS_4 : nwF S0 S_4 := by rw [eS_4]; exact nwF_s hS_2 (by unfold nwc h0c; omega)
  refine Ep_ck ?_
  refine Ep_lt (fun S_6 eS_6 => ?_)
  have hS_6 : nwF S0 S_6 := by rw [eS_6]; exact nwF_s hS_4 (by unfold nwc h0c; omega)
  refine Ep_ck ?_
  refine Ep_lt (fun S_8 eS_8 => ?_)
  have hS_8 : nwF S0 S_8 := by rw [eS_8]; exact nwF_s hS_6 (by unfold nwc h0c; omega)
  refine Ep_lt (fun S_9 eS_9 => ?_)
  have hS_9 : nwF S0 S_9 := by rw [eS_9]; exact nwF_s hS_8 (by unfold nwc h0c; omega)
  exact Ep_some hS_9
set_option maxHeartbeats 1000000 in
set_option maxRecDepth 100000 in
theorem nwJ_X8_see_J58 {S0 : Tr} (s0 : Int32) (s1 : Int32) (s2 : Int32) (s3 : Int32) (S : Tr) (hS : nwF S0 S)   : Ep (fJ_X8_see_J58 s0 s1 s2 s3 S) (fun q => nwF S0 q.2) := by
  unfold fJ_X8_see_J58
  refine Ep_bd (nw_X8_noted S s3 s2 s1 s0 hS) (fun q hq => ?_)
  refine Ep_lt (fun r16 er16 => ?_)
  refine Ep_lt (fun S_17 eS_17 => ?_)
  have hS_17 : nwF S0 S_17 := by rw [eS_17]; exact hq
  exact Ep_some hS_17
set_option maxHeartbeats 1000000 in
set_option maxRecDepth 100000 in
theorem nw_X8_see {S0 : Tr} (S : Tr) (x1 : Int32) (x2 : Int32) (x3 : Int32) (x4 : Int32) (hS : nwF S0 S)   : Ep (f_X8_see S x1 x2 x3 x4) (fun q => nwF S0 q.2) := by
  unfold f_X8_see
  refine Ep_lt (fun S_1 eS_1 => ?_)
  have hS_1 : nwF S0 S_1 := by rw [eS_1]; exact nwF_s hS (by unfold nwc h0c; omega)
  refine Ep_ite (fun _ => ?_) (fun _ => ?_)
  · exact Ep_some hS_1
  · refine Ep_any (fun r3 => ?_)
    refine Ep_ite (fun _ => ?_) (fun _ => ?_)
    · exact Ep_some hS_1
    · refine Ep_any (fun r7 => ?_)
      refine Ep_ite (fun _ => ?_) (fun _ => ?_)
      · exact Ep_some hS_1
      · refine Ep_any (fun r11 => ?_)
        refine Ep_ite (fun _ => ?_) (fun _ => ?_)
        · exact Ep_some hS_1
        · refine Ep_ite (fun _ => ?_) (fun _ => ?_)
          · exact nwJ_X8_see_J58 0 x3 x2 x1 S_1 hS_1
          · exact nwJ_X8_see_J58 1 x3 x2 x1 S_1 hS_1
set_option maxHeartbeats 1000000 in
set_option maxRecDepth 100000 in
theorem nw_X8_strike {S0 : Tr} (S : Tr) (x1 : Int32) (hS : nwF S0 S)   : Ep (f_X8_strike S x1) (fun q => nwF S0 q.2) := by
  unfold f_X8_strike
  refine Ep_lt (fun S_1 eS_1 => ?_)
  have hS_1 : nwF S0 S_1 := by rw [eS_1]; exact nwF_s hS (by unfold nwc h0c; omega)
  refine Ep_ite (fun _ => ?_) (fun _ => ?_)
  · exact Ep_some hS_1
  · refine Ep_ite (fun _ => ?_) (fun _ => ?_)
    · exact Ep_some hS_1
    · refine Ep_ite (fun _ => ?_) (fun _ => ?_)
      · refine Ep_bd (nw_X8_noted S_1 (-1 : Int32) x1 (0 : Int32) (0 : Int32) hS_1) (fun q hq => ?_)
        refine Ep_lt (fun r5 er5 => ?_)
        refine Ep_lt (fun S_6 eS_6 => ?_)
        have hS_6 : nwF S0 S_6 := by rw [eS_6]; exact hq
        exact Ep_some hS_6
      · exact Ep_some hS_1
set_option maxHeartbeats 1000000 in
set_option maxRecDepth 100000 in
theorem nw_X8_known {S0 : Tr} (S : Tr) (x1 : Int32) (hS : nwF S0 S)   : Ep (f_X8_known S x1) (fun q => nwF S0 q.2) := by
  unfold f_X8_known
  refine Ep_lt (fun S_1 eS_1 => ?_)
  have hS_1 : nwF S0 S_1 := by rw [eS_1]; exact nwF_s hS (by unfold nwc h0c; omega)
  refine Ep_any (fun r2 => ?_)
  refine Ep_ite (fun _ => ?_) (fun _ => ?_)
  · exact Ep_some hS_1
  · refine Ep_lt (fun S_6 eS_6 => ?_)
    have hS_6 : nwF S0 S_6 := by rw [eS_6]; exact nwF_s hS_1 (by unfold nwc h0c; omega)
    exact Ep_some hS_6
set_option maxHeartbeats 1000000 in
set_option maxRecDepth 100000 in
theorem nw_X8_fault {S0 : Tr} (S : Tr) (x1 : Int32) (hS : nwF S0 S)   : Ep (f_X8_fault S x1) (fun q => nwF S0 q.2) := by
  unfold f_X8_fault
  refine Ep_lt (fun S_1 eS_1 => ?_)
  have hS_1 : nwF S0 S_1 := by rw [eS_1]; exact nwF_s hS (by unfold nwc h0c; omega)
  refine Ep_ite (fun _ => ?_) (fun _ => ?_)
  · exact Ep_some hS_1
  · refine Ep_ite (fun _ => ?_) (fun _ => ?_)
    · exact Ep_some hS_1
    · exact Ep_some hS_1
set_option maxHeartbeats 1000000 in
set_option maxRecDepth 100000 in
theorem nw_X8_named {S0 : Tr} (S : Tr) (x1 : Int32) (hS : nwF S0 S)   : Ep (f_X8_named S x1) (fun q => nwF S0 q.2) := by
  unfold f_X8_named
  refine Ep_lt (fun S_1 eS_1 => ?_)
  have hS_1 : nwF S0 S_1 := by rw [eS_1]; exact nwF_s hS (by unfold nwc h0c; omega)
  refine Ep_any (fun r2 => ?_)
  exact Ep_some hS_1
set_option maxHeartbeats 1000000 in
set_option maxRecDepth 100000 in
theorem nw_X8_fails {S0 : Tr} (S : Tr) (x1 : Int32) (hS : nwF S0 S)   : Ep (f_X8_fails S x1) (fun q => nwF S0 q.2) := by
  unfold f_X8_fails
  refine Ep_lt (fun S_1 eS_1 => ?_)
  have hS_1 : nwF S0 S_1 := by rw [eS_1]; exact nwF_s hS (by unfold nwc h0c; omega)
  exact Ep_some hS_1
set_option maxHeartbeats 1000000 in
set_option maxRecDepth 100000 in
theorem nw_X8_person {S0 : Tr} (S : Tr) (x1 : Int32) (x2 : Int32) (hS : nwF S0 S)   : Ep (f_X8_person S x1 x2) (fun q => nwF S0 q.2) := by
  unfold f_X8_person
  refine Ep_lt (fun S_1 eS_1 => ?_)
  have hS_1 : nwF S0 S_1 := by rw [eS_1]; exact nwF_s hS (by unfold nwc h0c; omega)
  refine Ep_any (fun r2 => ?_)
  refine Ep_ite (fun _ => ?_) (fun _ => ?_)
  · refine Ep_bd (nw_X8_fails S_1 (1 : Int32) hS_1) (fun q hq => ?_)
    refine Ep_lt (fun r21 er21 => ?_)
    refine Ep_lt (fun S_22 eS_22 => ?_)
    have hS_22 : nwF S0 S_22 := by rw [eS_22]; exact hq
    exact Ep_some hS_22
  · refine Ep_ite (fun _ => ?_) (fun _ => ?_)
    · refine Ep_ck ?_
      exact Ep_some hS_1
    · refine Ep_ite (fun _ => ?_) (fun _ => ?_)
      · refine Ep_ck ?_
        exact Ep_some hS_1
      · refine Ep_ite (fun _ => ?_) (fun _ => ?_)
        · refine Ep_ck ?_
          exact Ep_some hS_1
        · refine Ep_ite (fun _ => ?_) (fun _ => ?_)
          · refine Ep_ck ?_
            exact Ep_some hS_1
          · refine Ep_ite (fun _ => ?_) (fun _ => ?_)
            · refine Ep_ck ?_
              exact Ep_some hS_1
            · refine Ep_bd (nw_X8_fails S_1 (2 : Int32) hS_1) (fun q hq => ?_)
              refine Ep_lt (fun r16 er16 => ?_)
              refine Ep_lt (fun S_17 eS_17 => ?_)
              have hS_17 : nwF S0 S_17 := by rw [eS_17]; exact hq
              exact Ep_some hS_17
set_option maxHeartbeats 1000000 in
set_option maxRecDepth 100000 in
theorem nw_X8_piece {S0 : Tr} (S : Tr) (x1 : Int32) (x2 : Int32) (hS : nwF S0 S)   : Ep (f_X8_piece S x1 x2) (fun q => nwF S0 q.2) := by
  unfold f_X8_piece
  refine Ep_lt (fun S_1 eS_1 => ?_)
  have hS_1 : nwF S0 S_1 := by rw [eS_1]; exact nwF_s hS (by unfold nwc h0c; omega)
  refine Ep_any (fun r2 => ?_)
  refine Ep_ite (fun _ => ?_) (fun _ => ?_)
  · exact Ep_some hS_1
  · refine Ep_ite (fun _ => ?_) (fun _ => ?_)
    · refine Ep_ck ?_
      exact Ep_some hS_1
    · refine Ep_ite (fun _ => ?_) (fun _ => ?_)
      · refine Ep_ck ?_
        exact Ep_some hS_1
      · refine Ep_ite (fun _ => ?_) (fun _ => ?_)
        · refine Ep_ck ?_
          exact Ep_some hS_1
        · refine Ep_ite (fun _ => ?_) (fun _ => ?_)
          · refine Ep_ck ?_
            exact Ep_some hS_1
          · refine Ep_ite (fun _ => ?_) (fun _ => ?_)
            · refine Ep_ck ?_
              exact Ep_some hS_1
            · refine Ep_ite (fun _ => ?_) (fun _ => ?_)
              · refine Ep_any (fun r17 => ?_)
                exact Ep_some hS_1
              · exact Ep_some hS_1
set_option maxHeartbeats 1000000 in
set_option maxRecDepth 100000 in
theorem nw_X8_place {S0 : Tr} (S : Tr) (x1 : Int32) (x2 : Int32) (hS : nwF S0 S)   : Ep (f_X8_place S x1 x2) (fun q => nwF S0 q.2) := by
  unfold f_X8_place
  refine Ep_lt (fun S_1 eS_1 => ?_)
  have hS_1 : nwF S0 S_1 := by rw [eS_1]; exact nwF_s hS (by unfold nwc h0c; omega)
  refine Ep_any (fun r2 => ?_)
  refine Ep_ite (fun _ => ?_) (fun _ => ?_)
  · exact Ep_some hS_1
  · refine Ep_ite (fun _ => ?_) (fun _ => ?_)
    · refine Ep_ck ?_
      exact Ep_some hS_1
    · refine Ep_ite (fun _ => ?_) (fun _ => ?_)
      · refine Ep_ck ?_
        exact Ep_some hS_1
      · refine Ep_ite (fun _ => ?_) (fun _ => ?_)
        · refine Ep_any (fun r11 => ?_)
          exact Ep_some hS_1
        · refine Ep_ite (fun _ => ?_) (fun _ => ?_)
          · refine Ep_ck ?_
            exact Ep_some hS_1
          · refine Ep_ite (fun _ => ?_) (fun _ => ?_)
            · refine Ep_ck ?_
              refine Ep_ite (fun _ => ?_) (fun _ => ?_)
              · exact Ep_some hS_1
              · refine Ep_any (fun r19 => ?_)
                exact Ep_some hS_1
            · exact Ep_some hS_1
set_option maxHeartbeats 1000000 in
set_option maxRecDepth 100000 in
theorem nw_X8_waits {S0 : Tr} (S : Tr) (x1 : Int32) (hS : nwF S0 S)   : Ep (f_X8_waits S x1) (fun q => nwF S0 q.2) := by
  unfold f_X8_waits
  refine Ep_lt (fun S_1 eS_1 => ?_)
  have hS_1 : nwF S0 S_1 := by rw [eS_1]; exact nwF_s hS (by unfold nwc h0c; omega)
  refine Ep_any (fun r2 => ?_)
  refine Ep_ite (fun _ => ?_) (fun _ => ?_)
  · exact Ep_some hS_1
  · refine Ep_ck ?_
    exact Ep_some hS_1
set_option maxHeartbeats 1000000 in
set_option maxRecDepth 100000 in
theorem nwB_X8_count_L154 {S0 : Tr} (S : Tr) (hS : nwF S0 S)   (N : Nat) : ∀ (x2 : Int32) (x3 : Int32), Ep (lpF (fun _ _ => none) (fB_X8_count_L154 S) N x2 x3) (fun q => nwF S0 q.2) := by
  induction N with
  | zero => intro x2 x3; exact Ep_none
  | succ N ih =>
    intro x2 x3
    show Ep (fB_X8_count_L154 S (lpF (fun _ _ => none) (fB_X8_count_L154 S) N) x2 x3) _
    have hk154 := ih
    clear ih
    generalize lpF (fun _ _ => none) (fB_X8_count_L154 S) N = k154 at hk154 ⊢
    unfold fB_X8_count_L154
    refine Ep_ite (fun _ => ?_) (fun _ => ?_)
    · exact Ep_some hS
    · refine Ep_ck ?_
      refine Ep_ite (fun _ => ?_) (fun _ => ?_)
      · refine Ep_lt (fun y34 ey34 => ?_)
        refine Ep_lt (fun y35 ey35 => ?_)
        exact hk154 y34 y35
      · refine Ep_lt (fun y32 ey32 => ?_)
        refine Ep_lt (fun y33 ey33 => ?_)
        exact hk154 y32 y33
set_option maxHeartbeats 1000000 in
set_option maxRecDepth 100000 in
theorem nwL_X8_count_L154 {S0 : Tr} (S : Tr) (hS : nwF S0 S)   (x2 : Int32) (x3 : Int32)  : Ep (fL_X8_count_L154 S x2 x3) (fun q => nwF S0 q.2) := by
  unfold fL_X8_count_L154
  exact nwB_X8_count_L154 S hS 2000 x2 x3
set_option maxHeartbeats 1000000 in
set_option maxRecDepth 100000 in
theorem nw_X8_count {S0 : Tr} (S : Tr) (x1 : Int32) (hS : nwF S0 S)   : Ep (f_X8_count S x1) (fun q => nwF S0 q.2) := by
  unfold f_X8_count
  refine Ep_lt (fun S_1 eS_1 => ?_)
  have hS_1 : nwF S0 S_1 := by rw [eS_1]; exact nwF_s hS (by unfold nwc h0c; omega)
  refine Ep_ite (fun _ => ?_) (fun _ => ?_)
  · exact Ep_some hS_1
  · refine Ep_ite (fun _ => ?_) (fun _ => ?_)
    · exact Ep_some hS_1
    · refine Ep_ite (fun _ => ?_) (fun _ => ?_)
      · exact Ep_some hS_1
      · refine Ep_ite (fun _ => ?_) (fun _ => ?_)
        · exact Ep_some hS_1
        · refine Ep_ite (fun _ => ?_) (fun _ => ?_)
          · exact Ep_some hS_1
          · refine Ep_ite (fun _ => ?_) (fun _ => ?_)
            · exact Ep_some hS_1
            · refine Ep_ite (fun _ => ?_) (fun _ => ?_)
              · refine Ep_any (fun r9 => ?_)
                exact Ep_some hS_1
              · refine Ep_ite (fun _ => ?_) (fun _ => ?_)
                · refine Ep_any (fun r13 => ?_)
                  exact Ep_some hS_1
                · refine Ep_ite (fun _ => ?_) (fun _ => ?_)
                  · refine Ep_any (fun r17 => ?_)
                    exact Ep_some hS_1
                  · refine Ep_ite (fun _ => ?_) (fun _ => ?_)
                    · refine Ep_any (fun r21 => ?_)
                      exact Ep_some hS_1
                    · refine Ep_ite (fun _ => ?_) (fun _ => ?_)
                      · refine Ep_any (fun r25 => ?_)
                        exact Ep_some hS_1
                      · refine Ep_ite (fun _ => ?_) (fun _ => ?_)
                        · exact nwL_X8_count_L154 S_1 hS_1 0 0
                        · refine Ep_ite (fun _ => ?_) (fun _ => ?_)
                          · exact Ep_some hS_1
                          · refine Ep_ite (fun _ => ?_) (fun _ => ?_)
                            · exact Ep_some hS_1
                            · refine Ep_ite (fun _ => ?_) (fun _ => ?_)
                              · refine Ep_any (fun r39 => ?_)
                                exact Ep_some hS_1
                              · refine Ep_ite (fun _ => ?_) (fun _ => ?_)
                                · exact Ep_some hS_1
                                · exact Ep_some hS_1
set_option maxHeartbeats 1000000 in
set_option maxRecDepth 100000 in
theorem imB_X8_put_84_L54 {S0 : Tr} (x2 : Int32)    (N : Nat) : ∀ (x3 : Int32) (S : Tr), imF S0 S → Ep (lpF (fun _ _ => none) (fB_X8_put_84_L54 x2) N x3 S) (fun q => imF S0 q) := by
  induction N with
  | zero => intro x3 S _; exact Ep_none
  | succ N ih =>
    intro x3 S hS
    show Ep (fB_X8_put_84_L54 x2 (lpF (fun _ _ => none) (fB_X8_put_84_L54 x2) N) x3 S) _
    have hk54 := ih
    clear ih
    generalize lpF (fun _ _ => none) (fB_X8_put_84_L54 x2) N = k54 at hk54 ⊢
    unfold fB_X8_put_84_L54
    refine Ep_ite (fun _ => ?_) (fun _ => ?_)
    · exact Ep_some hS
    · refine Ep_ck ?_
      refine Ep_ck ?_
      refine Ep_lt (fun S_6 eS_6 => ?_)
      have hS_6 : imF S0 S_6 := by rw [eS_6]; exact imF_s hS (by omega)
      refine Ep_lt (fun y7 ey7 => ?_)
      exact hk54 y7 S_6 hS_6
set_option maxHeartbeats 1000000 in
set_option maxRecDepth 100000 in
theorem imL_X8_put_84_L54 {S0 : Tr} (x2 : Int32)    (x3 : Int32) (S : Tr) (hS : imF S0 S) : Ep (fL_X8_put_84_L54 x2 x3 S) (fun q => imF S0 q) := by
  unfold fL_X8_put_84_L54
  exact imB_X8_put_84_L54 x2 2000 x3 S hS
set_option maxHeartbeats 1000000 in
set_option maxRecDepth 100000 in
theorem imB_X8_put_84_L27 {S0 : Tr} (x2 : Int32)    (N : Nat) : ∀ (x3 : Int32) (S : Tr), imF S0 S → Ep (lpF (fun _ _ => none) (fB_X8_put_84_L27 x2) N x3 S) (fun q => imF S0 q) := by
  induction N with
  | zero => intro x3 S _; exact Ep_none
  | succ N ih =>
    intro x3 S hS
    show Ep (fB_X8_put_84_L27 x2 (lpF (fun _ _ => none) (fB_X8_put_84_L27 x2) N) x3 S) _
    have hk27 := ih
    clear ih
    generalize lpF (fun _ _ => none) (fB_X8_put_84_L27 x2) N = k27 at hk27 ⊢
    unfold fB_X8_put_84_L27
    refine Ep_ite (fun _ => ?_) (fun _ => ?_)
    · exact imL_X8_put_84_L54 x2 0 S hS
    · refine Ep_ck ?_
      refine Ep_ck ?_
      refine Ep_lt (fun S_10 eS_10 => ?_)
      have hS_10 : imF S0 S_10 := by rw [eS_10]; exact imF_s hS (by omega)
      refine Ep_lt (fun y11 ey11 => ?_)
      exact hk27 y11 S_10 hS_10
set_option maxHeartbeats 1000000 in
set_option maxRecDepth 100000 in
theorem imL_X8_put_84_L27 {S0 : Tr} (x2 : Int32)    (x3 : Int32) (S : Tr) (hS : imF S0 S) : Ep (fL_X8_put_84_L27 x2 x3 S) (fun q => imF S0 q) := by
  unfold fL_X8_put_84_L27
  exact imB_X8_put_84_L27 x2 2000 x3 S hS
set_option maxHeartbeats 1000000 in
set_option maxRecDepth 100000 in
theorem imB_X8_put_84_L2 {S0 : Tr} (x2 : Int32)    (N : Nat) : ∀ (x3 : Int32) (S : Tr), imF S0 S → Ep (lpF (fun _ _ => none) (fB_X8_put_84_L2 x2) N x3 S) (fun q => imF S0 q) := by
  induction N with
  | zero => intro x3 S _; exact Ep_none
  | succ N ih =>
    intro x3 S hS
    show Ep (fB_X8_put_84_L2 x2 (lpF (fun _ _ => none) (fB_X8_put_84_L2 x2) N) x3 S) _
    have hk2 := ih
    clear ih
    generalize lpF (fun _ _ => none) (fB_X8_put_84_L2 x2) N = k2 at hk2 ⊢
    unfold fB_X8_put_84_L2
    refine Ep_ite (fun _ => ?_) (fun _ => ?_)
    · exact imL_X8_put_84_L27 x2 0 S hS
    · refine Ep_ck ?_
      refine Ep_ck ?_
      refine Ep_lt (fun S_14 eS_14 => ?_)
      have hS_14 : imF S0 S_14 := by rw [eS_14]; exact imF_s hS (by omega)
      refine Ep_lt (fun y15 ey15 => ?_)
      exact hk2 y15 S_14 hS_14
set_option maxHeartbeats 1000000 in
set_option maxRecDepth 100000 in
theorem imL_X8_put_84_L2 {S0 : Tr} (x2 : Int32)    (x3 : Int32) (S : Tr) (hS : imF S0 S) : Ep (fL_X8_put_84_L2 x2 x3 S) (fun q => imF S0 q) := by
  unfold fL_X8_put_84_L2
  exact imB_X8_put_84_L2 x2 2000 x3 S hS
set_option maxHeartbeats 1000000 in
set_option maxRecDepth 100000 in
theorem im_X8_put_84 {S0 : Tr} (S : Tr) (x2 : Int32) (hS : imF S0 S)   : Ep (f_X8_put_84 S x2) (fun q => imF S0 q) := by
  unfold f_X8_put_84
  exact imL_X8_put_84_L2 x2 0 S hS
set_option maxHeartbeats 1000000 in
set_option maxRecDepth 100000 in
theorem imJ_X8_remember_J49 {S0 : Tr} (S : Tr) (hS : imF S0 S)   : Ep (fJ_X8_remember_J49 S) (fun q => imF S0 q) := by
  unfold fJ_X8_remember_J49
  refine Ep_bd (im_X8_put_84 S ((61 : Int32) * (S 0 82)) hS) (fun S_2 hS_2 => ?_)
  refine Ep_lt (fun S_5 eS_5 => ?_)
  have hS_5 : imF S0 S_5 := by rw [eS_5]; exact imF_s hS_2 (by omega)
  exact Ep_some hS_5
set_option maxHeartbeats 1000000 in
set_option maxRecDepth 100000 in
theorem imJ_X8_remember_J39 {S0 : Tr} (S : Tr) (hS : imF S0 S)   : Ep (fJ_X8_remember_J39 S) (fun q => imF S0 q) := by
  unfold fJ_X8_remember_J39
  refine Ep_lt (fun S_7 eS_7 => ?_)
  have hS_7 : imF S0 S_7 := by rw [eS_7]; exact imF_s hS (by omega)
  exact imJ_X8_remember_J49 S_7 hS_7
set_option maxHeartbeats 1000000 in
set_option maxRecDepth 100000 in
theorem imB_X8_remember_L11 {S0 : Tr}     (N : Nat) : ∀ (x1 : Int32) (S : Tr), imF S0 S → Ep (lpF (fun _ _ => none) (fB_X8_remember_L11) N x1 S) (fun q => imF S0 q) := by
  induction N with
  | zero => intro x1 S _; exact Ep_none
  | succ N ih =>
    intro x1 S hS
    show Ep (fB_X8_remember_L11 (lpF (fun _ _ => none) (fB_X8_remember_L11) N) x1 S) _
    have hk11 := ih
    clear ih
    generalize lpF (fun _ _ => none) (fB_X8_remember_L11) N = k11 at hk11 ⊢
    unfold fB_X8_remember_L11
    refine Ep_ite (fun _ => ?_) (fun _ => ?_)
    · exact imJ_X8_remember_J39 S hS
    · refine Ep_ck ?_
      refine Ep_ck ?_
      refine Ep_lt (fun S_10 eS_10 => ?_)
      have hS_10 : imF S0 S_10 := by rw [eS_10]; exact imF_s hS (by omega)
      refine Ep_lt (fun y11 ey11 => ?_)
      exact hk11 y11 S_10 hS_10
set_option maxHeartbeats 1000000 in
set_option maxRecDepth 100000 in
theorem imL_X8_remember_L11 {S0 : Tr}     (x1 : Int32) (S : Tr) (hS : imF S0 S) : Ep (fL_X8_remember_L11 x1 S) (fun q => imF S0 q) := by
  unfold fL_X8_remember_L11
  exact imB_X8_remember_L11 2000 x1 S hS
set_option maxHeartbeats 1000000 in
set_option maxRecDepth 100000 in
theorem im_X8_remember {S0 : Tr} (S : Tr) (hS : imF S0 S)   : Ep (f_X8_remember S) (fun q => imF S0 q) := by
  unfold f_X8_remember
  refine Ep_ite (fun _ => ?_) (fun _ => ?_)
  · exact imL_X8_remember_L11 0 S hS
  · exact imJ_X8_remember_J49 S hS
set_option maxHeartbeats 1000000 in
set_option maxRecDepth 100000 in
theorem imJ_X8_takes_J96 {S0 : Tr} (x1 : Int32) (x2 : Int32) (x3 : Int32) (S : Tr) (hS : imF S0 S)   : Ep (fJ_X8_takes_J96 x1 x2 x3 S) (fun q => imF S0 q) := by
  unfold fJ_X8_takes_J96
  refine Ep_ck ?_
  refine Ep_lt (fun S_11 eS_11 => ?_)
  have hS_11 : imF S0 S_11 := by rw [eS_11]; exact imF_s hS (by omega)
  refine Ep_lt (fun S_12 eS_12 => ?_)
  have hS_12 : imF S0 S_12 := by rw [eS_12]; exact imF_s hS_11 (by omega)
  exact Ep_some hS_12
set_option maxHeartbeats 1000000 in
set_option maxRecDepth 100000 in
theorem imB_X8_takes_L36 {S0 : Tr} (x1 : Int32) (x2 : Int32) (x3 : Int32) (x4 : Int32)    (N : Nat) : ∀ (x5 : Int32) (S : Tr), imF S0 S → Ep (lpF (fun _ _ => none) (fB_X8_takes_L36 x1 x2 x3 x4) N x5 S) (fun q => imF S0 q) := by
  induction N with
  | zero => intro x5 S _; exact Ep_none
  | succ N ih =>
    intro x5 S hS
    show Ep (fB_X8_takes_L36 x1 x2 x3 x4 (lpF (fun _ _ => none) (fB_X8_takes_L36 x1 x2 x3 x4) N) x5 S) _
    have hk36 := ih
    clear ih
    generalize lpF (fun _ _ => none) (fB_X8_takes_L36 x1 x2 x3 x4) N = k36 at hk36 ⊢
    unfold fB_X8_takes_L36
    refine Ep_ck ?_
    refine Ep_ite (fun _ => ?_) (fun _ => ?_)
    · exact imJ_X8_takes_J96 x1 x2 x3 S hS
    · refine Ep_ck ?_
      refine Ep_ck ?_
      refine Ep_lt (fun S_15 eS_15 => ?_)
      have hS_15 : imF S0 S_15 := by rw [eS_15]; exact imF_s hS (by omega)
      refine Ep_lt (fun y16 ey16 => ?_)
      exact hk36 y16 S_15 hS_15
set_option maxHeartbeats 1000000 in
set_option maxRecDepth 100000 in
theorem imL_X8_takes_L36 {S0 : Tr} (x1 : Int32) (x2 : Int32) (x3 : Int32) (x4 : Int32)    (x5 : Int32) (S : Tr) (hS : imF S0 S) : Ep (fL_X8_takes_L36 x1 x2 x3 x4 x5 S) (fun q => imF S0 q) := by
  unfold fL_X8_takes_L36
  exact imB_X8_takes_L36 x1 x2 x3 x4 2000 x5 S hS
set_option maxHeartbeats 1000000 in
set_option maxRecDepth 100000 in
theorem im_X8_takes {S0 : Tr} (S : Tr) (x1 : Int32) (x2 : Int32) (x3 : Int32) (hS : imF S0 S)   : Ep (f_X8_takes S x1 x2 x3) (fun q => imF S0 q) := by
  unfold f_X8_takes
  refine Ep_ck ?_
  refine Ep_lt (fun y2 ey2 => ?_)
  refine Ep_any (fun r3 => ?_)
  refine Ep_ck ?_
  refine Ep_lt (fun S_7 eS_7 => ?_)
  have hS_7 : imF S0 S_7 := by rw [eS_7]; exact imF_s hS (by omega)
  exact imL_X8_takes_L36 x1 x2 x3 y2 r3 S_7 hS_7
set_option maxHeartbeats 1000000 in
set_option maxRecDepth 100000 in
theorem im_X8_lays {S0 : Tr} (S : Tr) (x1 : Int32) (x2 : Int32) (x3 : Int32) (hS : imF S0 S)   : Ep (f_X8_lays S x1 x2 x3) (fun q => imF S0 q) := by
  unfold f_X8_lays
  refine Ep_ck ?_
  refine Ep_ck ?_
  refine Ep_lt (fun S_3 eS_3 => ?_)
  have hS_3 : imF S0 S_3 := by rw [eS_3]; exact imF_s hS (by omega)
  refine Ep_lt (fun S_4 eS_4 => ?_)
  have hS_4 : imF S0 S_4 := by rw [eS_4]; exact imF_s hS_3 (by omega)
  refine Ep_ck ?_
  refine Ep_lt (fun S_6 eS_6 => ?_)
  have hS_6 : imF S0 S_6 := by rw [eS_6]; exact imF_s hS_4 (by omega)
  refine Ep_lt (fun S_7 eS_7 => ?_)
  have hS_7 : imF S0 S_7 := by rw [eS_7]; exact imF_s hS_6 (by omega)
  exact Ep_some hS_7
set_option maxHeartbeats 1000000 in
set_option maxRecDepth 100000 in
theorem imJ_X8_move_J67 {S0 : Tr} (x1 : Int32) (x2 : Int32) (S : Tr) (hS : imF S0 S)   : Ep (fJ_X8_move_J67 x1 x2 S) (fun q => imF S0 q.2) := by
  unfold fJ_X8_move_J67
  refine Ep_bd (im_X8_remember S hS) (fun S_17 hS_17 => ?_)
  refine Ep_bd (im_X8_takes S_17 (0 : Int32) x1 (1 : Int32) hS_17) (fun S_20 hS_20 => ?_)
  refine Ep_bd (im_X8_lays S_20 (0 : Int32) x2 x1 hS_20) (fun S_23 hS_23 => ?_)
  exact Ep_some hS_23
set_option maxHeartbeats 1000000 in
set_option maxRecDepth 100000 in
theorem im_X8_move {S0 : Tr} (S : Tr) (x1 : Int32) (x2 : Int32) (hS : imF S0 S)   : Ep (f_X8_move S x1 x2) (fun q => imF S0 q.2) := by
  unfold f_X8_move
  refine Ep_lt (fun S_1 eS_1 => ?_)
  have hS_1 : imF S0 S_1 := by rw [eS_1]; exact imF_s hS (by omega)
  refine Ep_any (fun r2 => ?_)
  refine Ep_ite (fun _ => ?_) (fun _ => ?_)
  · exact Ep_some hS_1
  · refine Ep_any (fun r6 => ?_)
    refine Ep_ite (fun _ => ?_) (fun _ => ?_)
    · exact Ep_some hS_1
    · refine Ep_ck ?_
      refine Ep_ite (fun _ => ?_) (fun _ => ?_)
      · refine Ep_ite (fun _ => ?_) (fun _ => ?_)
        · refine Ep_any (fun r26 => ?_)
          refine Ep_ite (fun _ => ?_) (fun _ => ?_)
          · exact Ep_some hS_1
          · exact imJ_X8_move_J67 x1 x2 S_1 hS_1
        · refine Ep_any (fun r13 => ?_)
          refine Ep_ite (fun _ => ?_) (fun _ => ?_)
          · exact Ep_some hS_1
          · exact imJ_X8_move_J67 x1 x2 S_1 hS_1
      · exact Ep_some hS_1
set_option maxHeartbeats 1000000 in
set_option maxRecDepth 100000 in
theorem imB_X8_plainTried_L42 {S0 : Tr}     (N : Nat) : ∀ (x1 : Int32) (S : Tr), imF S0 S → Ep (lpF (fun _ _ => none) (fB_X8_plainTried_L42) N x1 S) (fun q => imF S0 q) := by
  induction N with
  | zero => intro x1 S _; exact Ep_none
  | succ N ih =>
    intro x1 S hS
    show Ep (fB_X8_plainTried_L42 (lpF (fun _ _ => none) (fB_X8_plainTried_L42) N) x1 S) _
    have hk42 := ih
    clear ih
    generalize lpF (fun _ _ => none) (fB_X8_plainTried_L42) N = k42 at hk42 ⊢
    unfold fB_X8_plainTried_L42
    refine Ep_ite (fun _ => ?_) (fun _ => ?_)
    · exact Ep_some hS
    · refine Ep_ck ?_
      refine Ep_lt (fun S_10 eS_10 => ?_)
      have hS_10 : imF S0 S_10 := by rw [eS_10]; exact imF_s hS (by omega)
      refine Ep_lt (fun y11 ey11 => ?_)
      exact hk42 y11 S_10 hS_10
set_option maxHeartbeats 1000000 in
set_option maxRecDepth 100000 in
theorem imL_X8_plainTried_L42 {S0 : Tr}     (x1 : Int32) (S : Tr) (hS : imF S0 S) : Ep (fL_X8_plainTried_L42 x1 S) (fun q => imF S0 q) := by
  unfold fL_X8_plainTried_L42
  exact imB_X8_plainTried_L42 2000 x1 S hS
set_option maxHeartbeats 1000000 in
set_option maxRecDepth 100000 in
theorem im_X8_plainTried {S0 : Tr} (S : Tr) (hS : imF S0 S)   : Ep (f_X8_plainTried S) (fun q => imF S0 q) := by
  unfold f_X8_plainTried
  refine Ep_lt (fun S_1 eS_1 => ?_)
  have hS_1 : imF S0 S_1 := by rw [eS_1]; exact imF_s hS (by omega)
  refine Ep_lt (fun S_2 eS_2 => ?_)
  have hS_2 : imF S0 S_2 := by rw [eS_2]; exact imF_s hS_1 (by omega)
  refine Ep_lt (fun S_3 eS_3 => ?_)
  have hS_3 : imF S0 S_3 := by rw [eS_3]; exact imF_s hS_2 (by omega)
  refine Ep_lt (fun S_4 eS_4 => ?_)
  have hS_4 : imF S0 S_4 := by rw [eS_4]; exact imF_s hS_3 (by omega)
  refine Ep_lt (fun S_5 eS_5 => ?_)
  have hS_5 : imF S0 S_5 := by rw [eS_5]; exact imF_s hS_4 (by omega)
  refine Ep_lt (fun S_6 eS_6 => ?_)
  have hS_6 : imF S0 S_6 := by rw [eS_6]; exact imF_s hS_5 (by omega)
  refine Ep_lt (fun S_7 eS_7 => ?_)
  have hS_7 : imF S0 S_7 := by rw [eS_7]; exact imF_s hS_6 (by omega)
  exact imL_X8_plainTried_L42 0 S_7 hS_7
set_option maxHeartbeats 1000000 in
set_option maxRecDepth 100000 in
theorem imJ_X8_layTried_J174 {S0 : Tr} (S : Tr) (hS : imF S0 S)   : Ep (fJ_X8_layTried_J174 S) (fun q => imF S0 q) := by
  unfold fJ_X8_layTried_J174
  refine Ep_lt (fun S_5 eS_5 => ?_)
  have hS_5 : imF S0 S_5 := by rw [eS_5]; exact imF_s hS (by omega)
  refine Ep_lt (fun S_6 eS_6 => ?_)
  have hS_6 : imF S0 S_6 := by rw [eS_6]; exact imF_s hS_5 (by omega)
  refine Ep_lt (fun S_7 eS_7 => ?_)
  have hS_7 : imF S0 S_7 := by rw [eS_7]; exact imF_s hS_6 (by omega)
  refine Ep_bd (im_X8_plainTried S_7 hS_7) (fun S_8 hS_8 => ?_)
  exact Ep_some hS_8
set_option maxHeartbeats 1000000 in
set_option maxRecDepth 100000 in
theorem imB_X8_layTried_L102 {S0 : Tr}     (N : Nat) : ∀ (x1 : Int32) (S : Tr), imF S0 S → Ep (lpF (fun _ _ => none) (fB_X8_layTried_L102) N x1 S) (fun q => imF S0 q) := by
  induction N with
  | zero => intro x1 S _; exact Ep_none
  | succ N ih =>
    intro x1 S hS
    show Ep (fB_X8_layTried_L102 (lpF (fun _ _ => none) (fB_X8_layTried_L102) N) x1 S) _
    have hk102 := ih
    clear ih
    generalize lpF (fun _ _ => none) (fB_X8_layTried_L102) N = k102 at hk102 ⊢
    unfold fB_X8_layTried_L102
    refine Ep_ite (fun _ => ?_) (fun _ => ?_)
    · exact imJ_X8_layTried_J174 S hS
    · refine Ep_ck ?_
      refine Ep_ck ?_
      refine Ep_lt (fun S_13 eS_13 => ?_)
      have hS_13 : imF S0 S_13 := by rw [eS_13]; exact imF_s hS (by omega)
      refine Ep_lt (fun S_14 eS_14 => ?_)
      have hS_14 : imF S0 S_14 := by rw [eS_14]; exact imF_s hS_13 (by omega)
      refine Ep_lt (fun S_15 eS_15 => ?_)
      have hS_15 : imF S0 S_15 := by rw [eS_15]; exact imF_s hS_14 (by omega)
      refine Ep_lt (fun S_16 eS_16 => ?_)
      have hS_16 : imF S0 S_16 := by rw [eS_16]; exact imF_s hS_15 (by omega)
      refine Ep_lt (fun y17 ey17 => ?_)
      exact hk102 y17 S_16 hS_16
set_option maxHeartbeats 1000000 in
set_option maxRecDepth 100000 in
theorem imL_X8_layTried_L102 {S0 : Tr}     (x1 : Int32) (S : Tr) (hS : imF S0 S) : Ep (fL_X8_layTried_L102 x1 S) (fun q => imF S0 q) := by
  unfold fL_X8_layTried_L102
  exact imB_X8_layTried_L102 2000 x1 S hS
set_option maxHeartbeats 1000000 in
set_option maxRecDepth 100000 in
theorem imB_X8_layTried_L75 {S0 : Tr}     (N : Nat) : ∀ (x1 : Int32) (S : Tr), imF S0 S → Ep (lpF (fun _ _ => none) (fB_X8_layTried_L75) N x1 S) (fun q => imF S0 q) := by
  induction N with
  | zero => intro x1 S _; exact Ep_none
  | succ N ih =>
    intro x1 S hS
    show Ep (fB_X8_layTried_L75 (lpF (fun _ _ => none) (fB_X8_layTried_L75) N) x1 S) _
    have hk75 := ih
    clear ih
    generalize lpF (fun _ _ => none) (fB_X8_layTried_L75) N = k75 at hk75 ⊢
    unfold fB_X8_layTried_L75
    refine Ep_ite (fun _ => ?_) (fun _ => ?_)
    · exact imL_X8_layTried_L102 0 S hS
    · refine Ep_ck ?_
      refine Ep_ck ?_
      refine Ep_lt (fun S_20 eS_20 => ?_)
      have hS_20 : imF S0 S_20 := by rw [eS_20]; exact imF_s hS (by omega)
      refine Ep_lt (fun y21 ey21 => ?_)
      exact hk75 y21 S_20 hS_20
set_option maxHeartbeats 1000000 in
set_option maxRecDepth 100000 in
theorem imL_X8_layTried_L75 {S0 : Tr}     (x1 : Int32) (S : Tr) (hS : imF S0 S) : Ep (fL_X8_layTried_L75 x1 S) (fun q => imF S0 q) := by
  unfold fL_X8_layTried_L75
  exact imB_X8_layTried_L75 2000 x1 S hS
set_option maxHeartbeats 1000000 in
set_option maxRecDepth 100000 in
theorem imB_X8_layTried_L46 {S0 : Tr}     (N : Nat) : ∀ (x1 : Int32) (S : Tr), imF S0 S → Ep (lpF (fun _ _ => none) (fB_X8_layTried_L46) N x1 S) (fun q => imF S0 q) := by
  induction N with
  | zero => intro x1 S _; exact Ep_none
  | succ N ih =>
    intro x1 S hS
    show Ep (fB_X8_layTried_L46 (lpF (fun _ _ => none) (fB_X8_layTried_L46) N) x1 S) _
    have hk46 := ih
    clear ih
    generalize lpF (fun _ _ => none) (fB_X8_layTried_L46) N = k46 at hk46 ⊢
    unfold fB_X8_layTried_L46
    refine Ep_ite (fun _ => ?_) (fun _ => ?_)
    · exact imL_X8_layTried_L75 0 S hS
    · refine Ep_ck ?_
      refine Ep_ck ?_
      refine Ep_lt (fun S_24 eS_24 => ?_)
      have hS_24 : imF S0 S_24 := by rw [eS_24]; exact imF_s hS (by omega)
      refine Ep_lt (fun y25 ey25 => ?_)
      exact hk46 y25 S_24 hS_24
set_option maxHeartbeats 1000000 in
set_option maxRecDepth 100000 in
theorem imL_X8_layTried_L46 {S0 : Tr}     (x1 : Int32) (S : Tr) (hS : imF S0 S) : Ep (fL_X8_layTried_L46 x1 S) (fun q => imF S0 q) := by
  unfold fL_X8_layTried_L46
  exact imB_X8_layTried_L46 2000 x1 S hS
set_option maxHeartbeats 1000000 in
set_option maxRecDepth 100000 in
theorem imB_X8_layTried_L2 {S0 : Tr}     (N : Nat) : ∀ (x1 : Int32) (S : Tr), imF S0 S → Ep (lpF (fun _ _ => none) (fB_X8_layTried_L2) N x1 S) (fun q => imF S0 q) := by
  induction N with
  | zero => intro x1 S _; exact Ep_none
  | succ N ih =>
    intro x1 S hS
    show Ep (fB_X8_layTried_L2 (lpF (fun _ _ => none) (fB_X8_layTried_L2) N) x1 S) _
    have hk2 := ih
    clear ih
    generalize lpF (fun _ _ => none) (fB_X8_layTried_L2) N = k2 at hk2 ⊢
    unfold fB_X8_layTried_L2
    refine Ep_ite (fun _ => ?_) (fun _ => ?_)
    · exact imL_X8_layTried_L46 0 S hS
    · refine Ep_ck ?_
      refine Ep_ck ?_
      refine Ep_lt (fun S_28 eS_28 => ?_)
      have hS_28 : imF S0 S_28 := by rw [eS_28]; exact imF_s hS (by omega)
      refine Ep_lt (fun S_29 eS_29 => ?_)
      have hS_29 : imF S0 S_29 := by rw [eS_29]; exact imF_s hS_28 (by omega)
      refine Ep_lt (fun y30 ey30 => ?_)
      exact hk2 y30 S_29 hS_29
set_option maxHeartbeats 1000000 in
set_option maxRecDepth 100000 in
theorem imL_X8_layTried_L2 {S0 : Tr}     (x1 : Int32) (S : Tr) (hS : imF S0 S) : Ep (fL_X8_layTried_L2 x1 S) (fun q => imF S0 q) := by
  unfold fL_X8_layTried_L2
  exact imB_X8_layTried_L2 2000 x1 S hS
set_option maxHeartbeats 1000000 in
set_option maxRecDepth 100000 in
theorem im_X8_layTried {S0 : Tr} (S : Tr) (hS : imF S0 S)   : Ep (f_X8_layTried S) (fun q => imF S0 q) := by
  unfold f_X8_layTried
  exact imL_X8_layTried_L2 0 S hS
set_option maxHeartbeats 1000000 in
set_option maxRecDepth 100000 in
theorem imB_X8_turns_L113 {S0 : Tr} (x1 : Int32) (x2 : Int32) (x3 : Int32) (x4 : Int32)    (N : Nat) : ∀ (x5 : Int32) (S : Tr), imF S0 S → Ep (lpF (fun _ _ => none) (fB_X8_turns_L113 x1 x2 x3 x4) N x5 S) (fun q => imF S0 q.2) := by
  induction N with
  | zero => intro x5 S _; exact Ep_none
  | succ N ih =>
    intro x5 S hS
    show Ep (fB_X8_turns_L113 x1 x2 x3 x4 (lpF (fun _ _ => none) (fB_X8_turns_L113 x1 x2 x3 x4) N) x5 S) _
    have hk113 := ih
    clear ih
    generalize lpF (fun _ _ => none) (fB_X8_turns_L113 x1 x2 x3 x4) N = k113 at hk113 ⊢
    unfold fB_X8_turns_L113
    refine Ep_ite (fun _ => ?_) (fun _ => ?_)
    · exact Ep_some hS
    · refine Ep_ck ?_
      refine Ep_ck ?_
      refine Ep_lt (fun S_7 eS_7 => ?_)
      have hS_7 : imF S0 S_7 := by rw [eS_7]; exact imF_s hS (by omega)
      refine Ep_lt (fun y8 ey8 => ?_)
      exact hk113 y8 S_7 hS_7
set_option maxHeartbeats 1000000 in
set_option maxRecDepth 100000 in
theorem imL_X8_turns_L113 {S0 : Tr} (x1 : Int32) (x2 : Int32) (x3 : Int32) (x4 : Int32)    (x5 : Int32) (S : Tr) (hS : imF S0 S) : Ep (fL_X8_turns_L113 x1 x2 x3 x4 x5 S) (fun q => imF S0 q.2) := by
  unfold fL_X8_turns_L113
  exact imB_X8_turns_L113 x1 x2 x3 x4 2000 x5 S hS
set_option maxHeartbeats 1000000 in
set_option maxRecDepth 100000 in
theorem imJ_X8_turns_J78 {S0 : Tr} (k17 : Int32 → Int32 → Tr → Option (Int32 × Tr)) (x1 : Int32) (x2 : Int32) (x3 : Int32) (x4 : Int32) (x5 : Int32) (x6 : Int32) (x7 : Int32) (S : Tr) (hS : imF S0 S) (hk17 : ∀ (x4 : Int32) (x5 : Int32) (S : Tr), imF S0 S → Ep (k17 x4 x5 S) (fun q => imF S0 q.2))  : Ep (fJ_X8_turns_J78 k17 x1 x2 x3 x4 x5 x6 x7 S) (fun q => imF S0 q.2) := by
  unfold fJ_X8_turns_J78
  refine Ep_ck ?_
  refine Ep_lt (fun S_14 eS_14 => ?_)
  have hS_14 : imF S0 S_14 := by rw [eS_14]; exact imF_s hS (by omega)
  refine Ep_ite (fun _ => ?_) (fun _ => ?_)
  · refine Ep_lt (fun y18 ey18 => ?_)
    refine Ep_lt (fun y19 ey19 => ?_)
    exact hk17 y18 y19 S_14 hS_14
  · refine Ep_lt (fun y16 ey16 => ?_)
    refine Ep_lt (fun y17 ey17 => ?_)
    exact hk17 y16 y17 S_14 hS_14
set_option maxHeartbeats 1000000 in
set_option maxRecDepth 100000 in
theorem imB_X8_turns_L39 {S0 : Tr} (k17 : Int32 → Int32 → Tr → Option (Int32 × Tr)) (S : Tr) (x1 : Int32) (x2 : Int32) (x3 : Int32) (x4 : Int32) (x5 : Int32) (x6 : Int32) (hS : imF S0 S) (hk17 : ∀ (x4 : Int32) (x5 : Int32) (S : Tr), imF S0 S → Ep (k17 x4 x5 S) (fun q => imF S0 q.2))  (N : Nat) : ∀ (x7 : Int32) (x8 : Int32), Ep (lpF (fun _ _ => none) (fB_X8_turns_L39 k17 S x1 x2 x3 x4 x5 x6) N x7 x8) (fun q => imF S0 q.2) := by
  induction N with
  | zero => intro x7 x8; exact Ep_none
  | succ N ih =>
    intro x7 x8
    show Ep (fB_X8_turns_L39 k17 S x1 x2 x3 x4 x5 x6 (lpF (fun _ _ => none) (fB_X8_turns_L39 k17 S x1 x2 x3 x4 x5 x6) N) x7 x8) _
    have hk39 := ih
    clear ih
    generalize lpF (fun _ _ => none) (fB_X8_turns_L39 k17 S x1 x2 x3 x4 x5 x6) N = k39 at hk39 ⊢
    unfold fB_X8_turns_L39
    refine Ep_ite (fun _ => ?_) (fun _ => ?_)
    · exact imJ_X8_turns_J78 k17 x1 x2 x3 x4 x5 x6 x7 S hS hk17
    · refine Ep_any (fun r20 => ?_)
      refine Ep_any (fun r23 => ?_)
      refine Ep_ite (fun _ => ?_) (fun _ => ?_)
      · refine Ep_lt (fun y27 ey27 => ?_)
        refine Ep_lt (fun y28 ey28 => ?_)
        exact hk39 y27 y28
      · refine Ep_lt (fun y29 ey29 => ?_)
        refine Ep_lt (fun y30 ey30 => ?_)
        exact hk39 y29 y30
set_option maxHeartbeats 1000000 in
set_option maxRecDepth 100000 in
theorem imL_X8_turns_L39 {S0 : Tr} (k17 : Int32 → Int32 → Tr → Option (Int32 × Tr)) (S : Tr) (x1 : Int32) (x2 : Int32) (x3 : Int32) (x4 : Int32) (x5 : Int32) (x6 : Int32) (hS : imF S0 S) (hk17 : ∀ (x4 : Int32) (x5 : Int32) (S : Tr), imF S0 S → Ep (k17 x4 x5 S) (fun q => imF S0 q.2))  (x7 : Int32) (x8 : Int32)  : Ep (fL_X8_turns_L39 k17 S x1 x2 x3 x4 x5 x6 x7 x8) (fun q => imF S0 q.2) := by
  unfold fL_X8_turns_L39
  exact imB_X8_turns_L39 k17 S x1 x2 x3 x4 x5 x6 hS hk17 2000 x7 x8
set_option maxHeartbeats 1000000 in
set_option maxRecDepth 100000 in
theorem imB_X8_turns_L17 {S0 : Tr} (x1 : Int32) (x2 : Int32) (x3 : Int32)    (N : Nat) : ∀ (x4 : Int32) (x5 : Int32) (S : Tr), imF S0 S → Ep (lpF (fun _ _ _ => none) (fB_X8_turns_L17 x1 x2 x3) N x4 x5 S) (fun q => imF S0 q.2) := by
  induction N with
  | zero => intro x4 x5 S _; exact Ep_none
  | succ N ih =>
    intro x4 x5 S hS
    show Ep (fB_X8_turns_L17 x1 x2 x3 (lpF (fun _ _ _ => none) (fB_X8_turns_L17 x1 x2 x3) N) x4 x5 S) _
    have hk17 := ih
    clear ih
    generalize lpF (fun _ _ _ => none) (fB_X8_turns_L17 x1 x2 x3) N = k17 at hk17 ⊢
    unfold fB_X8_turns_L17
    refine Ep_ite (fun _ => ?_) (fun _ => ?_)
    · exact imL_X8_turns_L113 x1 x2 x3 x4 0 S hS
    · refine Ep_any (fun r9 => ?_)
      exact imL_X8_turns_L39 k17 S x1 x2 x3 x4 x5 r9 hS hk17 0 0
set_option maxHeartbeats 1000000 in
set_option maxRecDepth 100000 in
theorem imL_X8_turns_L17 {S0 : Tr} (x1 : Int32) (x2 : Int32) (x3 : Int32)    (x4 : Int32) (x5 : Int32) (S : Tr) (hS : imF S0 S) : Ep (fL_X8_turns_L17 x1 x2 x3 x4 x5 S) (fun q => imF S0 q.2) := by
  unfold fL_X8_turns_L17
  exact imB_X8_turns_L17 x1 x2 x3 2000 x4 x5 S hS
set_option maxHeartbeats 1000000 in
set_option maxRecDepth 100000 in
theorem im_X8_turns {S0 : Tr} (S : Tr) (x1 : Int32) (x2 : Int32) (hS : imF S0 S)   : Ep (f_X8_turns S x1 x2) (fun q => imF S0 q.2) := by
  unfold f_X8_turns
  refine Ep_ck ?_
  refine Ep_lt (fun y2 ey2 => ?_)
  exact imL_X8_turns_L17 x1 x2 y2 0 0 S hS
set_option maxHeartbeats 1000000 in
set_option maxRecDepth 100000 in
theorem im_X8_turn {S0 : Tr} (S : Tr) (x1 : Int32) (hS : imF S0 S)   : Ep (f_X8_turn S x1) (fun q => imF S0 q.2) := by
  unfold f_X8_turn
  refine Ep_lt (fun S_1 eS_1 => ?_)
  have hS_1 : imF S0 S_1 := by rw [eS_1]; exact imF_s hS (by omega)
  refine Ep_any (fun r2 => ?_)
  refine Ep_ite (fun _ => ?_) (fun _ => ?_)
  · exact Ep_some hS_1
  · refine Ep_bd (im_X8_layTried S_1 hS_1) (fun S_6 hS_6 => ?_)
    refine Ep_bd (im_X8_turns S_6 (1 : Int32) x1 hS_6) (fun q hq => ?_)
    refine Ep_lt (fun r9 er9 => ?_)
    refine Ep_lt (fun S_10 eS_10 => ?_)
    have hS_10 : imF S0 S_10 := by rw [eS_10]; exact hq
    refine Ep_ite (fun _ => ?_) (fun _ => ?_)
    · exact Ep_some hS_10
    · refine Ep_bd (im_X8_remember S_10 hS_10) (fun S_14 hS_14 => ?_)
      refine Ep_bd (im_X8_turns S_14 (0 : Int32) x1 hS_14) (fun q hq => ?_)
      refine Ep_lt (fun r17 er17 => ?_)
      refine Ep_lt (fun S_18 eS_18 => ?_)
      have hS_18 : imF S0 S_18 := by rw [eS_18]; exact hq
      exact Ep_some hS_18
set_option maxHeartbeats 1000000 in
set_option maxRecDepth 100000 in
theorem im_X8_help {S0 : Tr} (S : Tr) (x1 : Int32) (x2 : Int32) (hS : imF S0 S)   : Ep (f_X8_help S x1 x2) (fun q => imF S0 q.2) := by
  unfold f_X8_help
  refine Ep_lt (fun S_1 eS_1 => ?_)
  have hS_1 : imF S0 S_1 := by rw [eS_1]; exact imF_s hS (by omega)
  refine Ep_any (fun r2 => ?_)
  refine Ep_ite (fun _ => ?_) (fun _ => ?_)
  · exact Ep_some hS_1
  · refine Ep_any (fun r6 => ?_)
    refine Ep_ite (fun _ => ?_) (fun _ => ?_)
    · exact Ep_some hS_1
    · refine Ep_ck ?_
      refine Ep_ite (fun _ => ?_) (fun _ => ?_)
      · exact Ep_some hS_1
      · refine Ep_bd (im_X8_remember S_1 hS_1) (fun S_12 hS_12 => ?_)
        refine Ep_lt (fun S_15 eS_15 => ?_)
        have hS_15 : imF S0 S_15 := by rw [eS_15]; exact imF_s hS_12 (by omega)
        exact Ep_some hS_15
set_option maxHeartbeats 1000000 in
set_option maxRecDepth 100000 in
theorem imB_X8_take_84_L103 {S0 : Tr}     (N : Nat) : ∀ (x3 : Int32) (S : Tr), imF S0 S → Ep (lpF (fun _ _ => none) (fB_X8_take_84_L103) N x3 S) (fun q => imF S0 q) := by
  induction N with
  | zero => intro x3 S _; exact Ep_none
  | succ N ih =>
    intro x3 S hS
    show Ep (fB_X8_take_84_L103 (lpF (fun _ _ => none) (fB_X8_take_84_L103) N) x3 S) _
    have hk103 := ih
    clear ih
    generalize lpF (fun _ _ => none) (fB_X8_take_84_L103) N = k103 at hk103 ⊢
    unfold fB_X8_take_84_L103
    refine Ep_ite (fun _ => ?_) (fun _ => ?_)
    · exact Ep_some hS
    · refine Ep_ck ?_
      refine Ep_ite (fun _ => ?_) (fun _ => ?_)
      · refine Ep_lt (fun y8 ey8 => ?_)
        exact hk103 y8 S hS
      · refine Ep_ck ?_
        refine Ep_ck ?_
        refine Ep_lt (fun S_11 eS_11 => ?_)
        have hS_11 : imF S0 S_11 := by rw [eS_11]; exact imF_s hS (by omega)
        refine Ep_lt (fun y12 ey12 => ?_)
        exact hk103 y12 S_11 hS_11
set_option maxHeartbeats 1000000 in
set_option maxRecDepth 100000 in
theorem imL_X8_take_84_L103 {S0 : Tr}     (x3 : Int32) (S : Tr) (hS : imF S0 S) : Ep (fL_X8_take_84_L103 x3 S) (fun q => imF S0 q) := by
  unfold fL_X8_take_84_L103
  exact imB_X8_take_84_L103 2000 x3 S hS
set_option maxHeartbeats 1000000 in
set_option maxRecDepth 100000 in
theorem imB_X8_take_84_L82 {S0 : Tr}     (N : Nat) : ∀ (x3 : Int32) (S : Tr), imF S0 S → Ep (lpF (fun _ _ => none) (fB_X8_take_84_L82) N x3 S) (fun q => imF S0 q) := by
  induction N with
  | zero => intro x3 S _; exact Ep_none
  | succ N ih =>
    intro x3 S hS
    show Ep (fB_X8_take_84_L82 (lpF (fun _ _ => none) (fB_X8_take_84_L82) N) x3 S) _
    have hk82 := ih
    clear ih
    generalize lpF (fun _ _ => none) (fB_X8_take_84_L82) N = k82 at hk82 ⊢
    unfold fB_X8_take_84_L82
    refine Ep_ite (fun _ => ?_) (fun _ => ?_)
    · exact imL_X8_take_84_L103 0 S hS
    · refine Ep_ck ?_
      refine Ep_lt (fun S_14 eS_14 => ?_)
      have hS_14 : imF S0 S_14 := by rw [eS_14]; exact imF_s hS (by omega)
      refine Ep_lt (fun y15 ey15 => ?_)
      exact hk82 y15 S_14 hS_14
set_option maxHeartbeats 1000000 in
set_option maxRecDepth 100000 in
theorem imL_X8_take_84_L82 {S0 : Tr}     (x3 : Int32) (S : Tr) (hS : imF S0 S) : Ep (fL_X8_take_84_L82 x3 S) (fun q => imF S0 q) := by
  unfold fL_X8_take_84_L82
  exact imB_X8_take_84_L82 2000 x3 S hS
set_option maxHeartbeats 1000000 in
set_option maxRecDepth 100000 in
theorem imB_X8_take_84_L54 {S0 : Tr} (x2 : Int32)    (N : Nat) : ∀ (x3 : Int32) (S : Tr), imF S0 S → Ep (lpF (fun _ _ => none) (fB_X8_take_84_L54 x2) N x3 S) (fun q => imF S0 q) := by
  induction N with
  | zero => intro x3 S _; exact Ep_none
  | succ N ih =>
    intro x3 S hS
    show Ep (fB_X8_take_84_L54 x2 (lpF (fun _ _ => none) (fB_X8_take_84_L54 x2) N) x3 S) _
    have hk54 := ih
    clear ih
    generalize lpF (fun _ _ => none) (fB_X8_take_84_L54 x2) N = k54 at hk54 ⊢
    unfold fB_X8_take_84_L54
    refine Ep_ite (fun _ => ?_) (fun _ => ?_)
    · exact imL_X8_take_84_L82 0 S hS
    · refine Ep_ck ?_
      refine Ep_ck ?_
      refine Ep_lt (fun S_18 eS_18 => ?_)
      have hS_18 : imF S0 S_18 := by rw [eS_18]; exact imF_s hS (by omega)
      refine Ep_lt (fun y19 ey19 => ?_)
      exact hk54 y19 S_18 hS_18
set_option maxHeartbeats 1000000 in
set_option maxRecDepth 100000 in
theorem imL_X8_take_84_L54 {S0 : Tr} (x2 : Int32)    (x3 : Int32) (S : Tr) (hS : imF S0 S) : Ep (fL_X8_take_84_L54 x2 x3 S) (fun q => imF S0 q) := by
  unfold fL_X8_take_84_L54
  exact imB_X8_take_84_L54 x2 2000 x3 S hS
set_option maxHeartbeats 1000000 in
set_option maxRecDepth 100000 in
theorem imB_X8_take_84_L27 {S0 : Tr} (x2 : Int32)    (N : Nat) : ∀ (x3 : Int32) (S : Tr), imF S0 S → Ep (lpF (fun _ _ => none) (fB_X8_take_84_L27 x2) N x3 S) (fun q => imF S0 q) := by
  induction N with
  | zero => intro x3 S _; exact Ep_none
  | succ N ih =>
    intro x3 S hS
    show Ep (fB_X8_take_84_L27 x2 (lpF (fun _ _ => none) (fB_X8_take_84_L27 x2) N) x3 S) _
    have hk27 := ih
    clear ih
    generalize lpF (fun _ _ => none) (fB_X8_take_84_L27 x2) N = k27 at hk27 ⊢
    unfold fB_X8_take_84_L27
    refine Ep_ite (fun _ => ?_) (fun _ => ?_)
    · exact imL_X8_take_84_L54 x2 0 S hS
    · refine Ep_ck ?_
      refine Ep_ck ?_
      refine Ep_lt (fun S_22 eS_22 => ?_)
      have hS_22 : imF S0 S_22 := by rw [eS_22]; exact imF_s hS (by omega)
      refine Ep_lt (fun y23 ey23 => ?_)
      exact hk27 y23 S_22 hS_22
set_option maxHeartbeats 1000000 in
set_option maxRecDepth 100000 in
theorem imL_X8_take_84_L27 {S0 : Tr} (x2 : Int32)    (x3 : Int32) (S : Tr) (hS : imF S0 S) : Ep (fL_X8_take_84_L27 x2 x3 S) (fun q => imF S0 q) := by
  unfold fL_X8_take_84_L27
  exact imB_X8_take_84_L27 x2 2000 x3 S hS
set_option maxHeartbeats 1000000 in
set_option maxRecDepth 100000 in
theorem imB_X8_take_84_L2 {S0 : Tr} (x2 : Int32)    (N : Nat) : ∀ (x3 : Int32) (S : Tr), imF S0 S → Ep (lpF (fun _ _ => none) (fB_X8_take_84_L2 x2) N x3 S) (fun q => imF S0 q) := by
  induction N with
  | zero => intro x3 S _; exact Ep_none
  | succ N ih =>
    intro x3 S hS
    show Ep (fB_X8_take_84_L2 x2 (lpF (fun _ _ => none) (fB_X8_take_84_L2 x2) N) x3 S) _
    have hk2 := ih
    clear ih
    generalize lpF (fun _ _ => none) (fB_X8_take_84_L2 x2) N = k2 at hk2 ⊢
    unfold fB_X8_take_84_L2
    refine Ep_ite (fun _ => ?_) (fun _ => ?_)
    · exact imL_X8_take_84_L27 x2 0 S hS
    · refine Ep_ck ?_
      refine Ep_ck ?_
      refine Ep_lt (fun S_26 eS_26 => ?_)
      have hS_26 : imF S0 S_26 := by rw [eS_26]; exact imF_s hS (by omega)
      refine Ep_lt (fun y27 ey27 => ?_)
      exact hk2 y27 S_26 hS_26
set_option maxHeartbeats 1000000 in
set_option maxRecDepth 100000 in
theorem imL_X8_take_84_L2 {S0 : Tr} (x2 : Int32)    (x3 : Int32) (S : Tr) (hS : imF S0 S) : Ep (fL_X8_take_84_L2 x2 x3 S) (fun q => imF S0 q) := by
  unfold fL_X8_take_84_L2
  exact imB_X8_take_84_L2 x2 2000 x3 S hS
set_option maxHeartbeats 1000000 in
set_option maxRecDepth 100000 in
theorem im_X8_take_84 {S0 : Tr} (S : Tr) (x2 : Int32) (hS : imF S0 S)   : Ep (f_X8_take_84 S x2) (fun q => imF S0 q) := by
  unfold f_X8_take_84
  exact imL_X8_take_84_L2 x2 0 S hS
set_option maxHeartbeats 1000000 in
set_option maxRecDepth 100000 in
theorem im_X8_undo {S0 : Tr} (S : Tr) (hS : imF S0 S)   : Ep (f_X8_undo S) (fun q => imF S0 q.2) := by
  unfold f_X8_undo
  refine Ep_lt (fun S_1 eS_1 => ?_)
  have hS_1 : imF S0 S_1 := by rw [eS_1]; exact imF_s hS (by omega)
  refine Ep_ite (fun _ => ?_) (fun _ => ?_)
  · exact Ep_some hS_1
  · refine Ep_lt (fun S_3 eS_3 => ?_)
    have hS_3 : imF S0 S_3 := by rw [eS_3]; exact imF_s hS_1 (by omega)
    refine Ep_bd (im_X8_take_84 S_3 ((61 : Int32) * (S_3 0 82)) hS_3) (fun S_4 hS_4 => ?_)
    exact Ep_some hS_4
set_option maxHeartbeats 1000000 in
set_option maxRecDepth 100000 in
theorem t5B_X8_put_84_L54 {S0 : Tr} (x2 : Int32)    (N : Nat) : ∀ (x3 : Int32) (S : Tr), t57 S0 S → Ep (lpF (fun _ _ => none) (fB_X8_put_84_L54 x2) N x3 S) (fun q => t57 S0 q) := by
  induction N with
  | zero => intro x3 S _; exact Ep_none
  | succ N ih =>
    intro x3 S hS
    show Ep (fB_X8_put_84_L54 x2 (lpF (fun _ _ => none) (fB_X8_put_84_L54 x2) N) x3 S) _
    have hk54 := ih
    clear ih
    generalize lpF (fun _ _ => none) (fB_X8_put_84_L54 x2) N = k54 at hk54 ⊢
    unfold fB_X8_put_84_L54
    refine Ep_ite (fun _ => ?_) (fun _ => ?_)
    · exact Ep_some hS
    · refine Ep_ck ?_
      refine Ep_ck ?_
      refine Ep_lt (fun S_6 eS_6 => ?_)
      have hS_6 : t57 S0 S_6 := by rw [eS_6]; exact t57_s hS (by omega)
      refine Ep_lt (fun y7 ey7 => ?_)
      exact hk54 y7 S_6 hS_6
set_option maxHeartbeats 1000000 in
set_option maxRecDepth 100000 in
theorem t5L_X8_put_84_L54 {S0 : Tr} (x2 : Int32)    (x3 : Int32) (S : Tr) (hS : t57 S0 S) : Ep (fL_X8_put_84_L54 x2 x3 S) (fun q => t57 S0 q) := by
  unfold fL_X8_put_84_L54
  exact t5B_X8_put_84_L54 x2 2000 x3 S hS
set_option maxHeartbeats 1000000 in
set_option maxRecDepth 100000 in
theorem t5B_X8_put_84_L27 {S0 : Tr} (x2 : Int32)    (N : Nat) : ∀ (x3 : Int32) (S : Tr), t57 S0 S → Ep (lpF (fun _ _ => none) (fB_X8_put_84_L27 x2) N x3 S) (fun q => t57 S0 q) := by
  induction N with
  | zero => intro x3 S _; exact Ep_none
  | succ N ih =>
    intro x3 S hS
    show Ep (fB_X8_put_84_L27 x2 (lpF (fun _ _ => none) (fB_X8_put_84_L27 x2) N) x3 S) _
    have hk27 := ih
    clear ih
    generalize lpF (fun _ _ => none) (fB_X8_put_84_L27 x2) N = k27 at hk27 ⊢
    unfold fB_X8_put_84_L27
    refine Ep_ite (fun _ => ?_) (fun _ => ?_)
    · exact t5L_X8_put_84_L54 x2 0 S hS
    · refine Ep_ck ?_
      refine Ep_ck ?_
      refine Ep_lt (fun S_10 eS_10 => ?_)
      have hS_10 : t57 S0 S_10 := by rw [eS_10]; exact t57_s hS (by omega)
      refine Ep_lt (fun y11 ey11 => ?_)
      exact hk27 y11 S_10 hS_10
set_option maxHeartbeats 1000000 in
set_option maxRecDepth 100000 in
theorem t5L_X8_put_84_L27 {S0 : Tr} (x2 : Int32)    (x3 : Int32) (S : Tr) (hS : t57 S0 S) : Ep (fL_X8_put_84_L27 x2 x3 S) (fun q => t57 S0 q) := by
  unfold fL_X8_put_84_L27
  exact t5B_X8_put_84_L27 x2 2000 x3 S hS
set_option maxHeartbeats 1000000 in
set_option maxRecDepth 100000 in
theorem t5B_X8_put_84_L2 {S0 : Tr} (x2 : Int32)    (N : Nat) : ∀ (x3 : Int32) (S : Tr), t57 S0 S → Ep (lpF (fun _ _ => none) (fB_X8_put_84_L2 x2) N x3 S) (fun q => t57 S0 q) := by
  induction N with
  | zero => intro x3 S _; exact Ep_none
  | succ N ih =>
    intro x3 S hS
    show Ep (fB_X8_put_84_L2 x2 (lpF (fun _ _ => none) (fB_X8_put_84_L2 x2) N) x3 S) _
    have hk2 := ih
    clear ih
    generalize lpF (fun _ _ => none) (fB_X8_put_84_L2 x2) N = k2 at hk2 ⊢
    unfold fB_X8_put_84_L2
    refine Ep_ite (fun _ => ?_) (fun _ => ?_)
    · exact t5L_X8_put_84_L27 x2 0 S hS
    · refine Ep_ck ?_
      refine Ep_ck ?_
      refine Ep_lt (fun S_14 eS_14 => ?_)
      have hS_14 : t57 S0 S_14 := by rw [eS_14]; exact t57_s hS (by omega)
      refine Ep_lt (fun y15 ey15 => ?_)
      exact hk2 y15 S_14 hS_14
set_option maxHeartbeats 1000000 in
set_option maxRecDepth 100000 in
theorem t5L_X8_put_84_L2 {S0 : Tr} (x2 : Int32)    (x3 : Int32) (S : Tr) (hS : t57 S0 S) : Ep (fL_X8_put_84_L2 x2 x3 S) (fun q => t57 S0 q) := by
  unfold fL_X8_put_84_L2
  exact t5B_X8_put_84_L2 x2 2000 x3 S hS
set_option maxHeartbeats 1000000 in
set_option maxRecDepth 100000 in
theorem t5_X8_put_84 {S0 : Tr} (S : Tr) (x2 : Int32) (hS : t57 S0 S)   : Ep (f_X8_put_84 S x2) (fun q => t57 S0 q) := by
  unfold f_X8_put_84
  exact t5L_X8_put_84_L2 x2 0 S hS
set_option maxHeartbeats 1000000 in
set_option maxRecDepth 100000 in
theorem t5J_X8_remember_J49 {S0 : Tr} (S : Tr) (hS : t57 S0 S)   : Ep (fJ_X8_remember_J49 S) (fun q => t57 S0 q) := by
  unfold fJ_X8_remember_J49
  refine Ep_bd (t5_X8_put_84 S ((61 : Int32) * (S 0 82)) hS) (fun S_2 hS_2 => ?_)
  refine Ep_lt (fun S_5 eS_5 => ?_)
  have hS_5 : t57 S0 S_5 := by rw [eS_5]; exact t57_s hS_2 (by omega)
  exact Ep_some hS_5
set_option maxHeartbeats 1000000 in
set_option maxRecDepth 100000 in
theorem t5J_X8_remember_J39 {S0 : Tr} (S : Tr) (hS : t57 S0 S)   : Ep (fJ_X8_remember_J39 S) (fun q => t57 S0 q) := by
  unfold fJ_X8_remember_J39
  refine Ep_lt (fun S_7 eS_7 => ?_)
  have hS_7 : t57 S0 S_7 := by rw [eS_7]; exact t57_s hS (by omega)
  exact t5J_X8_remember_J49 S_7 hS_7
set_option maxHeartbeats 1000000 in
set_option maxRecDepth 100000 in
theorem t5B_X8_remember_L11 {S0 : Tr}     (N : Nat) : ∀ (x1 : Int32) (S : Tr), t57 S0 S → Ep (lpF (fun _ _ => none) (fB_X8_remember_L11) N x1 S) (fun q => t57 S0 q) := by
  induction N with
  | zero => intro x1 S _; exact Ep_none
  | succ N ih =>
    intro x1 S hS
    show Ep (fB_X8_remember_L11 (lpF (fun _ _ => none) (fB_X8_remember_L11) N) x1 S) _
    have hk11 := ih
    clear ih
    generalize lpF (fun _ _ => none) (fB_X8_remember_L11) N = k11 at hk11 ⊢
    unfold fB_X8_remember_L11
    refine Ep_ite (fun _ => ?_) (fun _ => ?_)
    · exact t5J_X8_remember_J39 S hS
    · refine Ep_ck ?_
      refine Ep_ck ?_
      refine Ep_lt (fun S_10 eS_10 => ?_)
      have hS_10 : t57 S0 S_10 := by rw [eS_10]; exact t57_s hS (by omega)
      refine Ep_lt (fun y11 ey11 => ?_)
      exact hk11 y11 S_10 hS_10
set_option maxHeartbeats 1000000 in
set_option maxRecDepth 100000 in
theorem t5L_X8_remember_L11 {S0 : Tr}     (x1 : Int32) (S : Tr) (hS : t57 S0 S) : Ep (fL_X8_remember_L11 x1 S) (fun q => t57 S0 q) := by
  unfold fL_X8_remember_L11
  exact t5B_X8_remember_L11 2000 x1 S hS
set_option maxHeartbeats 1000000 in
set_option maxRecDepth 100000 in
theorem t5_X8_remember {S0 : Tr} (S : Tr) (hS : t57 S0 S)   : Ep (f_X8_remember S) (fun q => t57 S0 q) := by
  unfold f_X8_remember
  refine Ep_ite (fun _ => ?_) (fun _ => ?_)
  · exact t5L_X8_remember_L11 0 S hS
  · exact t5J_X8_remember_J49 S hS
set_option maxHeartbeats 1000000 in
set_option maxRecDepth 100000 in
theorem t5J_X8_takes_J96 {S0 : Tr} (x1 : Int32) (x2 : Int32) (x3 : Int32) (S : Tr) (hS : t57 S0 S)   : Ep (fJ_X8_takes_J96 x1 x2 x3 S) (fun q => t57 S0 q) := by
  unfold fJ_X8_takes_J96
  refine Ep_ck ?_
  refine Ep_lt (fun S_11 eS_11 => ?_)
  have hS_11 : t57 S0 S_11 := by rw [eS_11]; exact t57_s hS (by omega)
  refine Ep_lt (fun S_12 eS_12 => ?_)
  have hS_12 : t57 S0 S_12 := by rw [eS_12]; exact t57_s hS_11 (by omega)
  exact Ep_some hS_12
set_option maxHeartbeats 1000000 in
set_option maxRecDepth 100000 in
theorem t5B_X8_takes_L36 {S0 : Tr} (x1 : Int32) (x2 : Int32) (x3 : Int32) (x4 : Int32)    (N : Nat) : ∀ (x5 : Int32) (S : Tr), t57 S0 S → Ep (lpF (fun _ _ => none) (fB_X8_takes_L36 x1 x2 x3 x4) N x5 S) (fun q => t57 S0 q) := by
  induction N with
  | zero => intro x5 S _; exact Ep_none
  | succ N ih =>
    intro x5 S hS
    show Ep (fB_X8_takes_L36 x1 x2 x3 x4 (lpF (fun _ _ => none) (fB_X8_takes_L36 x1 x2 x3 x4) N) x5 S) _
    have hk36 := ih
    clear ih
    generalize lpF (fun _ _ => none) (fB_X8_takes_L36 x1 x2 x3 x4) N = k36 at hk36 ⊢
    unfold fB_X8_takes_L36
    refine Ep_ck ?_
    refine Ep_ite (fun _ => ?_) (fun _ => ?_)
    · exact t5J_X8_takes_J96 x1 x2 x3 S hS
    · refine Ep_ck ?_
      refine Ep_ck ?_
      refine Ep_lt (fun S_15 eS_15 => ?_)
      have hS_15 : t57 S0 S_15 := by rw [eS_15]; exact t57_s hS (by omega)
      refine Ep_lt (fun y16 ey16 => ?_)
      exact hk36 y16 S_15 hS_15
set_option maxHeartbeats 1000000 in
set_option maxRecDepth 100000 in
theorem t5L_X8_takes_L36 {S0 : Tr} (x1 : Int32) (x2 : Int32) (x3 : Int32) (x4 : Int32)    (x5 : Int32) (S : Tr) (hS : t57 S0 S) : Ep (fL_X8_takes_L36 x1 x2 x3 x4 x5 S) (fun q => t57 S0 q) := by
  unfold fL_X8_takes_L36
  exact t5B_X8_takes_L36 x1 x2 x3 x4 2000 x5 S hS
set_option maxHeartbeats 1000000 in
set_option maxRecDepth 100000 in
theorem t5_X8_takes {S0 : Tr} (S : Tr) (x1 : Int32) (x2 : Int32) (x3 : Int32) (hS : t57 S0 S)   : Ep (f_X8_takes S x1 x2 x3) (fun q => t57 S0 q) := by
  unfold f_X8_takes
  refine Ep_ck ?_
  refine Ep_lt (fun y2 ey2 => ?_)
  refine Ep_any (fun r3 => ?_)
  refine Ep_ck ?_
  refine Ep_lt (fun S_7 eS_7 => ?_)
  have hS_7 : t57 S0 S_7 := by rw [eS_7]; exact t57_s hS (by omega)
  exact t5L_X8_takes_L36 x1 x2 x3 y2 r3 S_7 hS_7
set_option maxHeartbeats 1000000 in
set_option maxRecDepth 100000 in
theorem t5_X8_lays {S0 : Tr} (S : Tr) (x1 : Int32) (x2 : Int32) (x3 : Int32) (hS : t57 S0 S)   : Ep (f_X8_lays S x1 x2 x3) (fun q => t57 S0 q) := by
  unfold f_X8_lays
  refine Ep_ck ?_
  refine Ep_ck ?_
  refine Ep_lt (fun S_3 eS_3 => ?_)
  have hS_3 : t57 S0 S_3 := by rw [eS_3]; exact t57_s hS (by omega)
  refine Ep_lt (fun S_4 eS_4 => ?_)
  have hS_4 : t57 S0 S_4 := by rw [eS_4]; exact t57_s hS_3 (by omega)
  refine Ep_ck ?_
  refine Ep_lt (fun S_6 eS_6 => ?_)
  have hS_6 : t57 S0 S_6 := by rw [eS_6]; exact t57_s hS_4 (by omega)
  refine Ep_lt (fun S_7 eS_7 => ?_)
  have hS_7 : t57 S0 S_7 := by rw [eS_7]; exact t57_s hS_6 (by omega)
  exact Ep_some hS_7
set_option maxHeartbeats 1000000 in
set_option maxRecDepth 100000 in
theorem t5J_X8_move_J67 {S0 : Tr} (x1 : Int32) (x2 : Int32) (S : Tr) (hS : t57 S0 S)   : Ep (fJ_X8_move_J67 x1 x2 S) (fun q => t57 S0 q.2) := by
  unfold fJ_X8_move_J67
  refine Ep_bd (t5_X8_remember S hS) (fun S_17 hS_17 => ?_)
  refine Ep_bd (t5_X8_takes S_17 (0 : Int32) x1 (1 : Int32) hS_17) (fun S_20 hS_20 => ?_)
  refine Ep_bd (t5_X8_lays S_20 (0 : Int32) x2 x1 hS_20) (fun S_23 hS_23 => ?_)
  exact Ep_some hS_23
set_option maxHeartbeats 1000000 in
set_option maxRecDepth 100000 in
theorem t5_X8_move {S0 : Tr} (S : Tr) (x1 : Int32) (x2 : Int32) (hS : t57 S0 S)   : Ep (f_X8_move S x1 x2) (fun q => t57 S0 q.2) := by
  unfold f_X8_move
  refine Ep_lt (fun S_1 eS_1 => ?_)
  have hS_1 : t57 S0 S_1 := by rw [eS_1]; exact t57_s hS (by omega)
  refine Ep_any (fun r2 => ?_)
  refine Ep_ite (fun _ => ?_) (fun _ => ?_)
  · exact Ep_some hS_1
  · refine Ep_any (fun r6 => ?_)
    refine Ep_ite (fun _ => ?_) (fun _ => ?_)
    · exact Ep_some hS_1
    · refine Ep_ck ?_
      refine Ep_ite (fun _ => ?_) (fun _ => ?_)
      · refine Ep_ite (fun _ => ?_) (fun _ => ?_)
        · refine Ep_any (fun r26 => ?_)
          refine Ep_ite (fun _ => ?_) (fun _ => ?_)
          · exact Ep_some hS_1
          · exact t5J_X8_move_J67 x1 x2 S_1 hS_1
        · refine Ep_any (fun r13 => ?_)
          refine Ep_ite (fun _ => ?_) (fun _ => ?_)
          · exact Ep_some hS_1
          · exact t5J_X8_move_J67 x1 x2 S_1 hS_1
      · exact Ep_some hS_1
set_option maxHeartbeats 1000000 in
set_option maxRecDepth 100000 in
theorem t5_X8_help {S0 : Tr} (S : Tr) (x1 : Int32) (x2 : Int32) (hS : t57 S0 S)   : Ep (f_X8_help S x1 x2) (fun q => t57 S0 q.2) := by
  unfold f_X8_help
  refine Ep_lt (fun S_1 eS_1 => ?_)
  have hS_1 : t57 S0 S_1 := by rw [eS_1]; exact t57_s hS (by omega)
  refine Ep_any (fun r2 => ?_)
  refine Ep_ite (fun _ => ?_) (fun _ => ?_)
  · exact Ep_some hS_1
  · refine Ep_any (fun r6 => ?_)
    refine Ep_ite (fun _ => ?_) (fun _ => ?_)
    · exact Ep_some hS_1
    · refine Ep_ck ?_
      refine Ep_ite (fun _ => ?_) (fun _ => ?_)
      · exact Ep_some hS_1
      · refine Ep_bd (t5_X8_remember S_1 hS_1) (fun S_12 hS_12 => ?_)
        refine Ep_lt (fun S_15 eS_15 => ?_)
        have hS_15 : t57 S0 S_15 := by rw [eS_15]; exact t57_s hS_12 (by omega)
        exact Ep_some hS_15
set_option maxHeartbeats 1000000 in
set_option maxRecDepth 100000 in
theorem t5B_X8_take_84_L103 {S0 : Tr}     (N : Nat) : ∀ (x3 : Int32) (S : Tr), t57 S0 S → Ep (lpF (fun _ _ => none) (fB_X8_take_84_L103) N x3 S) (fun q => t57 S0 q) := by
  induction N with
  | zero => intro x3 S _; exact Ep_none
  | succ N ih =>
    intro x3 S hS
    show Ep (fB_X8_take_84_L103 (lpF (fun _ _ => none) (fB_X8_take_84_L103) N) x3 S) _
    have hk103 := ih
    clear ih
    generalize lpF (fun _ _ => none) (fB_X8_take_84_L103) N = k103 at hk103 ⊢
    unfold fB_X8_take_84_L103
    refine Ep_ite (fun _ => ?_) (fun _ => ?_)
    · exact Ep_some hS
    · refine Ep_ck ?_
      refine Ep_ite (fun _ => ?_) (fun _ => ?_)
      · refine Ep_lt (fun y8 ey8 => ?_)
        exact hk103 y8 S hS
      · refine Ep_ck ?_
        refine Ep_ck ?_
        refine Ep_lt (fun S_11 eS_11 => ?_)
        have hS_11 : t57 S0 S_11 := by rw [eS_11]; exact t57_s hS (by omega)
        refine Ep_lt (fun y12 ey12 => ?_)
        exact hk103 y12 S_11 hS_11
set_option maxHeartbeats 1000000 in
set_option maxRecDepth 100000 in
theorem t5L_X8_take_84_L103 {S0 : Tr}     (x3 : Int32) (S : Tr) (hS : t57 S0 S) : Ep (fL_X8_take_84_L103 x3 S) (fun q => t57 S0 q) := by
  unfold fL_X8_take_84_L103
  exact t5B_X8_take_84_L103 2000 x3 S hS
set_option maxHeartbeats 1000000 in
set_option maxRecDepth 100000 in
theorem t5B_X8_take_84_L82 {S0 : Tr}     (N : Nat) : ∀ (x3 : Int32) (S : Tr), t57 S0 S → Ep (lpF (fun _ _ => none) (fB_X8_take_84_L82) N x3 S) (fun q => t57 S0 q) := by
  induction N with
  | zero => intro x3 S _; exact Ep_none
  | succ N ih =>
    intro x3 S hS
    show Ep (fB_X8_take_84_L82 (lpF (fun _ _ => none) (fB_X8_take_84_L82) N) x3 S) _
    have hk82 := ih
    clear ih
    generalize lpF (fun _ _ => none) (fB_X8_take_84_L82) N = k82 at hk82 ⊢
    unfold fB_X8_take_84_L82
    refine Ep_ite (fun _ => ?_) (fun _ => ?_)
    · exact t5L_X8_take_84_L103 0 S hS
    · refine Ep_ck ?_
      refine Ep_lt (fun S_14 eS_14 => ?_)
      have hS_14 : t57 S0 S_14 := by rw [eS_14]; exact t57_s hS (by omega)
      refine Ep_lt (fun y15 ey15 => ?_)
      exact hk82 y15 S_14 hS_14
set_option maxHeartbeats 1000000 in
set_option maxRecDepth 100000 in
theorem t5L_X8_take_84_L82 {S0 : Tr}     (x3 : Int32) (S : Tr) (hS : t57 S0 S) : Ep (fL_X8_take_84_L82 x3 S) (fun q => t57 S0 q) := by
  unfold fL_X8_take_84_L82
  exact t5B_X8_take_84_L82 2000 x3 S hS
set_option maxHeartbeats 1000000 in
set_option maxRecDepth 100000 in
theorem t5B_X8_take_84_L54 {S0 : Tr} (x2 : Int32)    (N : Nat) : ∀ (x3 : Int32) (S : Tr), t57 S0 S → Ep (lpF (fun _ _ => none) (fB_X8_take_84_L54 x2) N x3 S) (fun q => t57 S0 q) := by
  induction N with
  | zero => intro x3 S _; exact Ep_none
  | succ N ih =>
    intro x3 S hS
    show Ep (fB_X8_take_84_L54 x2 (lpF (fun _ _ => none) (fB_X8_take_84_L54 x2) N) x3 S) _
    have hk54 := ih
    clear ih
    generalize lpF (fun _ _ => none) (fB_X8_take_84_L54 x2) N = k54 at hk54 ⊢
    unfold fB_X8_take_84_L54
    refine Ep_ite (fun _ => ?_) (fun _ => ?_)
    · exact t5L_X8_take_84_L82 0 S hS
    · refine Ep_ck ?_
      refine Ep_ck ?_
      refine Ep_lt (fun S_18 eS_18 => ?_)
      have hS_18 : t57 S0 S_18 := by rw [eS_18]; exact t57_s hS (by omega)
      refine Ep_lt (fun y19 ey19 => ?_)
      exact hk54 y19 S_18 hS_18
set_option maxHeartbeats 1000000 in
set_option maxRecDepth 100000 in
theorem t5L_X8_take_84_L54 {S0 : Tr} (x2 : Int32)    (x3 : Int32) (S : Tr) (hS : t57 S0 S) : Ep (fL_X8_take_84_L54 x2 x3 S) (fun q => t57 S0 q) := by
  unfold fL_X8_take_84_L54
  exact t5B_X8_take_84_L54 x2 2000 x3 S hS
set_option maxHeartbeats 1000000 in
set_option maxRecDepth 100000 in
theorem t5B_X8_take_84_L27 {S0 : Tr} (x2 : Int32)    (N : Nat) : ∀ (x3 : Int32) (S : Tr), t57 S0 S → Ep (lpF (fun _ _ => none) (fB_X8_take_84_L27 x2) N x3 S) (fun q => t57 S0 q) := by
  induction N with
  | zero => intro x3 S _; exact Ep_none
  | succ N ih =>
    intro x3 S hS
    show Ep (fB_X8_take_84_L27 x2 (lpF (fun _ _ => none) (fB_X8_take_84_L27 x2) N) x3 S) _
    have hk27 := ih
    clear ih
    generalize lpF (fun _ _ => none) (fB_X8_take_84_L27 x2) N = k27 at hk27 ⊢
    unfold fB_X8_take_84_L27
    refine Ep_ite (fun _ => ?_) (fun _ => ?_)
    · exact t5L_X8_take_84_L54 x2 0 S hS
    · refine Ep_ck ?_
      refine Ep_ck ?_
      refine Ep_lt (fun S_22 eS_22 => ?_)
      have hS_22 : t57 S0 S_22 := by rw [eS_22]; exact t57_s hS (by omega)
      refine Ep_lt (fun y23 ey23 => ?_)
      exact hk27 y23 S_22 hS_22
set_option maxHeartbeats 1000000 in
set_option maxRecDepth 100000 in
theorem t5L_X8_take_84_L27 {S0 : Tr} (x2 : Int32)    (x3 : Int32) (S : Tr) (hS : t57 S0 S) : Ep (fL_X8_take_84_L27 x2 x3 S) (fun q => t57 S0 q) := by
  unfold fL_X8_take_84_L27
  exact t5B_X8_take_84_L27 x2 2000 x3 S hS
set_option maxHeartbeats 1000000 in
set_option maxRecDepth 100000 in
theorem t5B_X8_take_84_L2 {S0 : Tr} (x2 : Int32)    (N : Nat) : ∀ (x3 : Int32) (S : Tr), t57 S0 S → Ep (lpF (fun _ _ => none) (fB_X8_take_84_L2 x2) N x3 S) (fun q => t57 S0 q) := by
  induction N with
  | zero => intro x3 S _; exact Ep_none
  | succ N ih =>
    intro x3 S hS
    show Ep (fB_X8_take_84_L2 x2 (lpF (fun _ _ => none) (fB_X8_take_84_L2 x2) N) x3 S) _
    have hk2 := ih
    clear ih
    generalize lpF (fun _ _ => none) (fB_X8_take_84_L2 x2) N = k2 at hk2 ⊢
    unfold fB_X8_take_84_L2
    refine Ep_ite (fun _ => ?_) (fun _ => ?_)
    · exact t5L_X8_take_84_L27 x2 0 S hS
    · refine Ep_ck ?_
      refine Ep_ck ?_
      refine Ep_lt (fun S_26 eS_26 => ?_)
      have hS_26 : t57 S0 S_26 := by rw [eS_26]; exact t57_s hS (by omega)
      refine Ep_lt (fun y27 ey27 => ?_)
      exact hk2 y27 S_26 hS_26
set_option maxHeartbeats 1000000 in
set_option maxRecDepth 100000 in
theorem t5L_X8_take_84_L2 {S0 : Tr} (x2 : Int32)    (x3 : Int32) (S : Tr) (hS : t57 S0 S) : Ep (fL_X8_take_84_L2 x2 x3 S) (fun q => t57 S0 q) := by
  unfold fL_X8_take_84_L2
  exact t5B_X8_take_84_L2 x2 2000 x3 S hS
set_option maxHeartbeats 1000000 in
set_option maxRecDepth 100000 in
theorem t5_X8_take_84 {S0 : Tr} (S : Tr) (x2 : Int32) (hS : t57 S0 S)   : Ep (f_X8_take_84 S x2) (fun q => t57 S0 q) := by
  unfold f_X8_take_84
  exact t5L_X8_take_84_L2 x2 0 S hS
set_option maxHeartbeats 1000000 in
set_option maxRecDepth 100000 in
theorem t5_X8_undo {S0 : Tr} (S : Tr) (hS : t57 S0 S)   : Ep (f_X8_undo S) (fun q => t57 S0 q.2) := by
  unfold f_X8_undo
  refine Ep_lt (fun S_1 eS_1 => ?_)
  have hS_1 : t57 S0 S_1 := by rw [eS_1]; exact t57_s hS (by omega)
  refine Ep_ite (fun _ => ?_) (fun _ => ?_)
  · exact Ep_some hS_1
  · refine Ep_lt (fun S_3 eS_3 => ?_)
    have hS_3 : t57 S0 S_3 := by rw [eS_3]; exact t57_s hS_1 (by omega)
    refine Ep_bd (t5_X8_take_84 S_3 ((61 : Int32) * (S_3 0 82)) hS_3) (fun S_4 hS_4 => ?_)
    exact Ep_some hS_4
set_option maxHeartbeats 1000000 in
set_option maxRecDepth 100000 in
theorem t5B_X8_turns_L113 {S0 : Tr} (x1 : Int32) (x2 : Int32) (x3 : Int32) (x4 : Int32)    (N : Nat) : ∀ (x5 : Int32) (S : Tr), t57 S0 S → Ep (lpF (fun _ _ => none) (fB_X8_turns_L113 x1 x2 x3 x4) N x5 S) (fun q => t57 S0 q.2) := by
  induction N with
  | zero => intro x5 S _; exact Ep_none
  | succ N ih =>
    intro x5 S hS
    show Ep (fB_X8_turns_L113 x1 x2 x3 x4 (lpF (fun _ _ => none) (fB_X8_turns_L113 x1 x2 x3 x4) N) x5 S) _
    have hk113 := ih
    clear ih
    generalize lpF (fun _ _ => none) (fB_X8_turns_L113 x1 x2 x3 x4) N = k113 at hk113 ⊢
    unfold fB_X8_turns_L113
    refine Ep_ite (fun _ => ?_) (fun _ => ?_)
    · exact Ep_some hS
    · refine Ep_ck ?_
      refine Ep_ck ?_
      refine Ep_lt (fun S_7 eS_7 => ?_)
      have hS_7 : t57 S0 S_7 := by rw [eS_7]; exact t57_s hS (by omega)
      refine Ep_lt (fun y8 ey8 => ?_)
      exact hk113 y8 S_7 hS_7
set_option maxHeartbeats 1000000 in
set_option maxRecDepth 100000 in
theorem t5L_X8_turns_L113 {S0 : Tr} (x1 : Int32) (x2 : Int32) (x3 : Int32) (x4 : Int32)    (x5 : Int32) (S : Tr) (hS : t57 S0 S) : Ep (fL_X8_turns_L113 x1 x2 x3 x4 x5 S) (fun q => t57 S0 q.2) := by
  unfold fL_X8_turns_L113
  exact t5B_X8_turns_L113 x1 x2 x3 x4 2000 x5 S hS
set_option maxHeartbeats 1000000 in
set_option maxRecDepth 100000 in
theorem t5J_X8_turns_J78 {S0 : Tr} (k17 : Int32 → Int32 → Tr → Option (Int32 × Tr)) (x1 : Int32) (x2 : Int32) (x3 : Int32) (x4 : Int32) (x5 : Int32) (x6 : Int32) (x7 : Int32) (S : Tr) (hS : t57 S0 S) (hk17 : ∀ (x4 : Int32) (x5 : Int32) (S : Tr), t57 S0 S → Ep (k17 x4 x5 S) (fun q => t57 S0 q.2))  : Ep (fJ_X8_turns_J78 k17 x1 x2 x3 x4 x5 x6 x7 S) (fun q => t57 S0 q.2) := by
  unfold fJ_X8_turns_J78
  refine Ep_ck ?_
  refine Ep_lt (fun S_14 eS_14 => ?_)
  have hS_14 : t57 S0 S_14 := by rw [eS_14]; exact t57_s hS (by omega)
  refine Ep_ite (fun _ => ?_) (fun _ => ?_)
  · refine Ep_lt (fun y18 ey18 => ?_)
    refine Ep_lt (fun y19 ey19 => ?_)
    exact hk17 y18 y19 S_14 hS_14
  · refine Ep_lt (fun y16 ey16 => ?_)
    refine Ep_lt (fun y17 ey17 => ?_)
    exact hk17 y16 y17 S_14 hS_14
set_option maxHeartbeats 1000000 in
set_option maxRecDepth 100000 in
theorem t5B_X8_turns_L39 {S0 : Tr} (k17 : Int32 → Int32 → Tr → Option (Int32 × Tr)) (S : Tr) (x1 : Int32) (x2 : Int32) (x3 : Int32) (x4 : Int32) (x5 : Int32) (x6 : Int32) (hS : t57 S0 S) (hk17 : ∀ (x4 : Int32) (x5 : Int32) (S : Tr), t57 S0 S → Ep (k17 x4 x5 S) (fun q => t57 S0 q.2))  (N : Nat) : ∀ (x7 : Int32) (x8 : Int32), Ep (lpF (fun _ _ => none) (fB_X8_turns_L39 k17 S x1 x2 x3 x4 x5 x6) N x7 x8) (fun q => t57 S0 q.2) := by
  induction N with
  | zero => intro x7 x8; exact Ep_none
  | succ N ih =>
    intro x7 x8
    show Ep (fB_X8_turns_L39 k17 S x1 x2 x3 x4 x5 x6 (lpF (fun _ _ => none) (fB_X8_turns_L39 k17 S x1 x2 x3 x4 x5 x6) N) x7 x8) _
    have hk39 := ih
    clear ih
    generalize lpF (fun _ _ => none) (fB_X8_turns_L39 k17 S x1 x2 x3 x4 x5 x6) N = k39 at hk39 ⊢
    unfold fB_X8_turns_L39
    refine Ep_ite (fun _ => ?_) (fun _ => ?_)
    · exact t5J_X8_turns_J78 k17 x1 x2 x3 x4 x5 x6 x7 S hS hk17
    · refine Ep_any (fun r20 => ?_)
      refine Ep_any (fun r23 => ?_)
      refine Ep_ite (fun _ => ?_) (fun _ => ?_)
      · refine Ep_lt (fun y27 ey27 => ?_)
        refine Ep_lt (fun y28 ey28 => ?_)
        exact hk39 y27 y28
      · refine Ep_lt (fun y29 ey29 => ?_)
        refine Ep_lt (fun y30 ey30 => ?_)
        exact hk39 y29 y30
set_option maxHeartbeats 1000000 in
set_option maxRecDepth 100000 in
theorem t5L_X8_turns_L39 {S0 : Tr} (k17 : Int32 → Int32 → Tr → Option (Int32 × Tr)) (S : Tr) (x1 : Int32) (x2 : Int32) (x3 : Int32) (x4 : Int32) (x5 : Int32) (x6 : Int32) (hS : t57 S0 S) (hk17 : ∀ (x4 : Int32) (x5 : Int32) (S : Tr), t57 S0 S → Ep (k17 x4 x5 S) (fun q => t57 S0 q.2))  (x7 : Int32) (x8 : Int32)  : Ep (fL_X8_turns_L39 k17 S x1 x2 x3 x4 x5 x6 x7 x8) (fun q => t57 S0 q.2) := by
  unfold fL_X8_turns_L39
  exact t5B_X8_turns_L39 k17 S x1 x2 x3 x4 x5 x6 hS hk17 2000 x7 x8
set_option maxHeartbeats 1000000 in
set_option maxRecDepth 100000 in
theorem t5B_X8_turns_L17 {S0 : Tr} (x1 : Int32) (x2 : Int32) (x3 : Int32)    (N : Nat) : ∀ (x4 : Int32) (x5 : Int32) (S : Tr), t57 S0 S → Ep (lpF (fun _ _ _ => none) (fB_X8_turns_L17 x1 x2 x3) N x4 x5 S) (fun q => t57 S0 q.2) := by
  induction N with
  | zero => intro x4 x5 S _; exact Ep_none
  | succ N ih =>
    intro x4 x5 S hS
    show Ep (fB_X8_turns_L17 x1 x2 x3 (lpF (fun _ _ _ => none) (fB_X8_turns_L17 x1 x2 x3) N) x4 x5 S) _
    have hk17 := ih
    clear ih
    generalize lpF (fun _ _ _ => none) (fB_X8_turns_L17 x1 x2 x3) N = k17 at hk17 ⊢
    unfold fB_X8_turns_L17
    refine Ep_ite (fun _ => ?_) (fun _ => ?_)
    · exact t5L_X8_turns_L113 x1 x2 x3 x4 0 S hS
    · refine Ep_any (fun r9 => ?_)
      exact t5L_X8_turns_L39 k17 S x1 x2 x3 x4 x5 r9 hS hk17 0 0
set_option maxHeartbeats 1000000 in
set_option maxRecDepth 100000 in
theorem t5L_X8_turns_L17 {S0 : Tr} (x1 : Int32) (x2 : Int32) (x3 : Int32)    (x4 : Int32) (x5 : Int32) (S : Tr) (hS : t57 S0 S) : Ep (fL_X8_turns_L17 x1 x2 x3 x4 x5 S) (fun q => t57 S0 q.2) := by
  unfold fL_X8_turns_L17
  exact t5B_X8_turns_L17 x1 x2 x3 2000 x4 x5 S hS
set_option maxHeartbeats 1000000 in
set_option maxRecDepth 100000 in
theorem t5_X8_turns {S0 : Tr} (S : Tr) (x1 : Int32) (x2 : Int32) (hS : t57 S0 S)   : Ep (f_X8_turns S x1 x2) (fun q => t57 S0 q.2) := by
  unfold f_X8_turns
  refine Ep_ck ?_
  refine Ep_lt (fun y2 ey2 => ?_)
  exact t5L_X8_turns_L17 x1 x2 y2 0 0 S hS
set_option maxHeartbeats 1000000 in
set_option maxRecDepth 100000 in
theorem ihB_X8_plainTried_L42 {S0 : Tr}     (N : Nat) : ∀ (x1 : Int32) (S : Tr), ihF S0 S → Ep (lpF (fun _ _ => none) (fB_X8_plainTried_L42) N x1 S) (fun q => ihF S0 q) := by
  induction N with
  | zero => intro x1 S _; exact Ep_none
  | succ N ih =>
    intro x1 S hS
    show Ep (fB_X8_plainTried_L42 (lpF (fun _ _ => none) (fB_X8_plainTried_L42) N) x1 S) _
    have hk42 := ih
    clear ih
    generalize lpF (fun _ _ => none) (fB_X8_plainTried_L42) N = k42 at hk42 ⊢
    unfold fB_X8_plainTried_L42
    refine Ep_ite (fun _ => ?_) (fun _ => ?_)
    · exact Ep_some hS
    · refine Ep_ck ?_
      refine Ep_lt (fun S_10 eS_10 => ?_)
      have hS_10 : ihF S0 S_10 := by rw [eS_10]; exact ihF_s hS (by omega)
      refine Ep_lt (fun y11 ey11 => ?_)
      exact hk42 y11 S_10 hS_10
set_option maxHeartbeats 1000000 in
set_option maxRecDepth 100000 in
theorem ihL_X8_plainTried_L42 {S0 : Tr}     (x1 : Int32) (S : Tr) (hS : ihF S0 S) : Ep (fL_X8_plainTried_L42 x1 S) (fun q => ihF S0 q) := by
  unfold fL_X8_plainTried_L42
  exact ihB_X8_plainTried_L42 2000 x1 S hS
set_option maxHeartbeats 1000000 in
set_option maxRecDepth 100000 in
theorem ih_X8_plainTried {S0 : Tr} (S : Tr) (hS : ihF S0 S)   : Ep (f_X8_plainTried S) (fun q => ihF S0 q) := by
  unfold f_X8_plainTried
  refine Ep_lt (fun S_1 eS_1 => ?_)
  have hS_1 : ihF S0 S_1 := by rw [eS_1]; exact ihF_s hS (by omega)
  refine Ep_lt (fun S_2 eS_2 => ?_)
  have hS_2 : ihF S0 S_2 := by rw [eS_2]; exact ihF_s hS_1 (by omega)
  refine Ep_lt (fun S_3 eS_3 => ?_)
  have hS_3 : ihF S0 S_3 := by rw [eS_3]; exact ihF_s hS_2 (by omega)
  refine Ep_lt (fun S_4 eS_4 => ?_)
  have hS_4 : ihF S0 S_4 := by rw [eS_4]; exact ihF_s hS_3 (by omega)
  refine Ep_lt (fun S_5 eS_5 => ?_)
  have hS_5 : ihF S0 S_5 := by rw [eS_5]; exact ihF_s hS_4 (by omega)
  refine Ep_lt (fun S_6 eS_6 => ?_)
  have hS_6 : ihF S0 S_6 := by rw [eS_6]; exact ihF_s hS_5 (by omega)
  refine Ep_lt (fun S_7 eS_7 => ?_)
  have hS_7 : ihF S0 S_7 := by rw [eS_7]; exact ihF_s hS_6 (by omega)
  exact ihL_X8_plainTried_L42 0 S_7 hS_7
set_option maxHeartbeats 1000000 in
set_option maxRecDepth 100000 in
theorem ihJ_X8_go_J75 {S0 : Tr} (s0 : Int32) (S : Tr) (L : Lo) (hS : ihF S0 S)   : Ep (fJ_X8_go_J75 s0 S L) (fun q => ihF S0 q.2.1) := by
  unfold fJ_X8_go_J75
  refine Ep_lt (fun S_14 eS_14 => ?_)
  have hS_14 : ihF S0 S_14 := by rw [eS_14]; exact ihF_s hS (by omega)
  exact Ep_some hS_14
set_option maxHeartbeats 1000000 in
set_option maxRecDepth 100000 in
theorem ihJ_X8_go_J57 {S0 : Tr} (x1 : Int32) (S : Tr) (L : Lo) (hS : ihF S0 S)   : Ep (fJ_X8_go_J57 x1 S L) (fun q => ihF S0 q.2.1) := by
  unfold fJ_X8_go_J57
  refine Ep_lt (fun S_12 eS_12 => ?_)
  have hS_12 : ihF S0 S_12 := by rw [eS_12]; exact ihF_s hS (by omega)
  refine Ep_ite (fun _ => ?_) (fun _ => ?_)
  · exact ihJ_X8_go_J75 (S_12 0 82) S_12 L hS_12
  · exact ihJ_X8_go_J75 0 S_12 L hS_12
set_option maxHeartbeats 1000000 in
set_option maxRecDepth 100000 in
theorem ihB_X8_outs_L261 {S0 : Tr} (L : Lo) (x1 : Int32)    (N : Nat) : ∀ (x3 : Int32) (S : Tr), ihF S0 S → Ep (lpF (fun _ _ => none) (fB_X8_outs_L261 L x1) N x3 S) (fun q => ihF S0 q.1) := by
  induction N with
  | zero => intro x3 S _; exact Ep_none
  | succ N ih =>
    intro x3 S hS
    show Ep (fB_X8_outs_L261 L x1 (lpF (fun _ _ => none) (fB_X8_outs_L261 L x1) N) x3 S) _
    have hk261 := ih
    clear ih
    generalize lpF (fun _ _ => none) (fB_X8_outs_L261 L x1) N = k261 at hk261 ⊢
    unfold fB_X8_outs_L261
    refine Ep_ite (fun _ => ?_) (fun _ => ?_)
    · exact Ep_some hS
    · refine Ep_ck ?_
      refine Ep_ite (fun _ => ?_) (fun _ => ?_)
      · refine Ep_lt (fun S_10 eS_10 => ?_)
        have hS_10 : ihF S0 S_10 := by rw [eS_10]; exact ihF_s hS (by omega)
        refine Ep_lt (fun y11 ey11 => ?_)
        exact hk261 y11 S_10 hS_10
      · refine Ep_lt (fun y9 ey9 => ?_)
        exact hk261 y9 S hS
set_option maxHeartbeats 1000000 in
set_option maxRecDepth 100000 in
theorem ihL_X8_outs_L261 {S0 : Tr} (L : Lo) (x1 : Int32)    (x3 : Int32) (S : Tr) (hS : ihF S0 S) : Ep (fL_X8_outs_L261 L x1 x3 S) (fun q => ihF S0 q.1) := by
  unfold fL_X8_outs_L261
  exact ihB_X8_outs_L261 L x1 2000 x3 S hS
set_option maxHeartbeats 1000000 in
set_option maxRecDepth 100000 in
theorem ihJ_X8_takes_J96 {S0 : Tr} (x1 : Int32) (x2 : Int32) (x3 : Int32) (S : Tr) (hS : ihF S0 S)   : Ep (fJ_X8_takes_J96 x1 x2 x3 S) (fun q => ihF S0 q) := by
  unfold fJ_X8_takes_J96
  refine Ep_ck ?_
  refine Ep_lt (fun S_11 eS_11 => ?_)
  have hS_11 : ihF S0 S_11 := by rw [eS_11]; exact ihF_s hS (by omega)
  refine Ep_lt (fun S_12 eS_12 => ?_)
  have hS_12 : ihF S0 S_12 := by rw [eS_12]; exact ihF_s hS_11 (by omega)
  exact Ep_some hS_12
set_option maxHeartbeats 1000000 in
set_option maxRecDepth 100000 in
theorem ihB_X8_takes_L36 {S0 : Tr} (x1 : Int32) (x2 : Int32) (x3 : Int32) (x4 : Int32)    (N : Nat) : ∀ (x5 : Int32) (S : Tr), ihF S0 S → Ep (lpF (fun _ _ => none) (fB_X8_takes_L36 x1 x2 x3 x4) N x5 S) (fun q => ihF S0 q) := by
  induction N with
  | zero => intro x5 S _; exact Ep_none
  | succ N ih =>
    intro x5 S hS
    show Ep (fB_X8_takes_L36 x1 x2 x3 x4 (lpF (fun _ _ => none) (fB_X8_takes_L36 x1 x2 x3 x4) N) x5 S) _
    have hk36 := ih
    clear ih
    generalize lpF (fun _ _ => none) (fB_X8_takes_L36 x1 x2 x3 x4) N = k36 at hk36 ⊢
    unfold fB_X8_takes_L36
    refine Ep_ck ?_
    refine Ep_ite (fun _ => ?_) (fun _ => ?_)
    · exact ihJ_X8_takes_J96 x1 x2 x3 S hS
    · refine Ep_ck ?_
      refine Ep_ck ?_
      refine Ep_lt (fun S_15 eS_15 => ?_)
      have hS_15 : ihF S0 S_15 := by rw [eS_15]; exact ihF_s hS (by omega)
      refine Ep_lt (fun y16 ey16 => ?_)
      exact hk36 y16 S_15 hS_15
set_option maxHeartbeats 1000000 in
set_option maxRecDepth 100000 in
theorem ihL_X8_takes_L36 {S0 : Tr} (x1 : Int32) (x2 : Int32) (x3 : Int32) (x4 : Int32)    (x5 : Int32) (S : Tr) (hS : ihF S0 S) : Ep (fL_X8_takes_L36 x1 x2 x3 x4 x5 S) (fun q => ihF S0 q) := by
  unfold fL_X8_takes_L36
  exact ihB_X8_takes_L36 x1 x2 x3 x4 2000 x5 S hS
set_option maxHeartbeats 1000000 in
set_option maxRecDepth 100000 in
theorem ih_X8_takes {S0 : Tr} (S : Tr) (x1 : Int32) (x2 : Int32) (x3 : Int32) (hS : ihF S0 S)   : Ep (f_X8_takes S x1 x2 x3) (fun q => ihF S0 q) := by
  unfold f_X8_takes
  refine Ep_ck ?_
  refine Ep_lt (fun y2 ey2 => ?_)
  refine Ep_any (fun r3 => ?_)
  refine Ep_ck ?_
  refine Ep_lt (fun S_7 eS_7 => ?_)
  have hS_7 : ihF S0 S_7 := by rw [eS_7]; exact ihF_s hS (by omega)
  exact ihL_X8_takes_L36 x1 x2 x3 y2 r3 S_7 hS_7
set_option maxHeartbeats 1000000 in
set_option maxRecDepth 100000 in
theorem ihB_X8_outs_L223 {S0 : Tr} (L : Lo) (x1 : Int32)    (N : Nat) : ∀ (x3 : Int32) (S : Tr), ihF S0 S → Ep (lpF (fun _ _ => none) (fB_X8_outs_L223 L x1) N x3 S) (fun q => ihF S0 q.1) := by
  induction N with
  | zero => intro x3 S _; exact Ep_none
  | succ N ih =>
    intro x3 S hS
    show Ep (fB_X8_outs_L223 L x1 (lpF (fun _ _ => none) (fB_X8_outs_L223 L x1) N) x3 S) _
    have hk223 := ih
    clear ih
    generalize lpF (fun _ _ => none) (fB_X8_outs_L223 L x1) N = k223 at hk223 ⊢
    unfold fB_X8_outs_L223
    refine Ep_ite (fun _ => ?_) (fun _ => ?_)
    · exact ihL_X8_outs_L261 L x1 0 S hS
    · refine Ep_ck ?_
      refine Ep_ite (fun _ => ?_) (fun _ => ?_)
      · refine Ep_bd (ih_X8_takes S x1 x3 (5 : Int32) hS) (fun S_15 hS_15 => ?_)
        refine Ep_lt (fun y18 ey18 => ?_)
        exact hk223 y18 S_15 hS_15
      · refine Ep_lt (fun y14 ey14 => ?_)
        exact hk223 y14 S hS
set_option maxHeartbeats 1000000 in
set_option maxRecDepth 100000 in
theorem ihL_X8_outs_L223 {S0 : Tr} (L : Lo) (x1 : Int32)    (x3 : Int32) (S : Tr) (hS : ihF S0 S) : Ep (fL_X8_outs_L223 L x1 x3 S) (fun q => ihF S0 q.1) := by
  unfold fL_X8_outs_L223
  exact ihB_X8_outs_L223 L x1 2000 x3 S hS
set_option maxHeartbeats 1000000 in
set_option maxRecDepth 100000 in
theorem ihJ_X8_outs_J209 {S0 : Tr} (x1 : Int32) (S : Tr) (L : Lo) (hS : ihF S0 S)   : Ep (fJ_X8_outs_J209 x1 S L) (fun q => ihF S0 q.1) := by
  unfold fJ_X8_outs_J209
  refine Ep_ck ?_
  refine Ep_ite (fun _ => ?_) (fun _ => ?_)
  · exact ihL_X8_outs_L223 L x1 0 S hS
  · exact Ep_some hS
set_option maxHeartbeats 1000000 in
set_option maxRecDepth 100000 in
theorem ihJ_X8_outs_J182 {S0 : Tr} (k9 : Int32 → Int32 → Tr → Lo → Option (Tr × Lo)) (x1 : Int32) (x2 : Int32) (x3 : Int32) (S : Tr) (L : Lo) (hS : ihF S0 S) (hk9 : ∀ (x2 : Int32) (x3 : Int32) (S : Tr) (L : Lo), ihF S0 S → Ep (k9 x2 x3 S L) (fun q => ihF S0 q.1))  : Ep (fJ_X8_outs_J182 k9 x1 x2 x3 S L) (fun q => ihF S0 q.1) := by
  unfold fJ_X8_outs_J182
  refine Ep_any (fun r24 => ?_)
  refine Ep_ite (fun _ => ?_) (fun _ => ?_)
  · refine Ep_ck ?_
    refine Ep_lt (fun S_30 eS_30 => ?_)
    have hS_30 : ihF S0 S_30 := by rw [eS_30]; exact ihF_s hS (by omega)
    refine Ep_lt (fun y31 ey31 => ?_)
    exact hk9 x2 y31 S_30 L hS_30
  · refine Ep_lt (fun y28 ey28 => ?_)
    exact hk9 x2 y28 S L hS
set_option maxHeartbeats 1000000 in
set_option maxRecDepth 100000 in
theorem ihJ_X8_lawOf_J39 {S0 : Tr} (x1 : Int32) (S : Tr) (L : Lo) (hS : ihF S0 S)   : Ep (fJ_X8_lawOf_J39 x1 S L) (fun q => ihF S0 q.2.1) := by
  unfold fJ_X8_lawOf_J39
  refine Ep_ite (fun _ => ?_) (fun _ => ?_)
  · refine Ep_ck ?_
    refine Ep_ck ?_
    exact Ep_some hS
  · exact Ep_some hS
set_option maxHeartbeats 1000000 in
set_option maxRecDepth 100000 in
theorem ihJ_X8_bounded_J29 {S0 : Tr} (x1 : Int64) (s0 : Int32) (S : Tr) (hS : ihF S0 S)   : Ep (fJ_X8_bounded_J29 x1 s0 S) (fun q => ihF S0 q.2) := by
  unfold fJ_X8_bounded_J29
  refine Ep_ck ?_
  refine Ep_lt (fun S_3 eS_3 => ?_)
  have hS_3 : ihF S0 S_3 := by rw [eS_3]; exact ihF_s hS (by omega)
  refine Ep_ite (fun _ => ?_) (fun _ => ?_)
  · exact Ep_some hS_3
  · exact Ep_some hS_3
set_option maxHeartbeats 1000000 in
set_option maxRecDepth 100000 in
theorem ihJ_X8_bounded_J24 {S0 : Tr} (x1 : Int64) (S : Tr) (hS : ihF S0 S)   : Ep (fJ_X8_bounded_J24 x1 S) (fun q => ihF S0 q.2) := by
  unfold fJ_X8_bounded_J24
  exact ihJ_X8_bounded_J29 x1 1 S hS
set_option maxHeartbeats 1000000 in
set_option maxRecDepth 100000 in
theorem ih_X8_bounded {S0 : Tr} (S : Tr) (x1 : Int64) (hS : ihF S0 S)   : Ep (f_X8_bounded S x1) (fun q => ihF S0 q.2) := by
  unfold f_X8_bounded
  refine Ep_ite (fun _ => ?_) (fun _ => ?_)
  · refine Ep_ite (fun _ => ?_) (fun _ => ?_)
    · exact ihJ_X8_bounded_J24 x1 S hS
    · refine Ep_ite (fun _ => ?_) (fun _ => ?_)
      · exact ihJ_X8_bounded_J29 x1 0 S hS
      · exact ihJ_X8_bounded_J24 x1 S hS
  · exact ihJ_X8_bounded_J24 x1 S hS
set_option maxHeartbeats 1000000 in
set_option maxRecDepth 100000 in
theorem ihJ_X8_times_J69 {S0 : Tr} (x1 : Int64) (x3 : Int64) (s0 : Int32) (S : Tr) (hS : ihF S0 S)   : Ep (fJ_X8_times_J69 x1 x3 s0 S) (fun q => ihF S0 q.2) := by
  unfold fJ_X8_times_J69
  refine Ep_ck ?_
  refine Ep_lt (fun S_4 eS_4 => ?_)
  have hS_4 : ihF S0 S_4 := by rw [eS_4]; exact ihF_s hS (by omega)
  refine Ep_ite (fun _ => ?_) (fun _ => ?_)
  · exact Ep_some hS_4
  · exact Ep_some hS_4
set_option maxHeartbeats 1000000 in
set_option maxRecDepth 100000 in
theorem ihJ_X8_times_J64 {S0 : Tr} (x1 : Int64) (x3 : Int64) (S : Tr) (hS : ihF S0 S)   : Ep (fJ_X8_times_J64 x1 x3 S) (fun q => ihF S0 q.2) := by
  unfold fJ_X8_times_J64
  exact ihJ_X8_times_J69 x1 x3 1 S hS
set_option maxHeartbeats 1000000 in
set_option maxRecDepth 100000 in
theorem ihJ_X8_times_J49 {S0 : Tr} (x1 : Int64) (x3 : Int64) (s0 : Int32) (S : Tr) (hS : ihF S0 S)   : Ep (fJ_X8_times_J49 x1 x3 s0 S) (fun q => ihF S0 q.2) := by
  unfold fJ_X8_times_J49
  refine Ep_ite (fun _ => ?_) (fun _ => ?_)
  · refine Ep_ite (fun _ => ?_) (fun _ => ?_)
    · exact ihJ_X8_times_J69 x1 x3 0 S hS
    · exact ihJ_X8_times_J64 x1 x3 S hS
  · exact ihJ_X8_times_J64 x1 x3 S hS
set_option maxHeartbeats 1000000 in
set_option maxRecDepth 100000 in
theorem ihJ_X8_times_J48 {S0 : Tr} (x1 : Int64) (x3 : Int64) (S : Tr) (hS : ihF S0 S)   : Ep (fJ_X8_times_J48 x1 x3 S) (fun q => ihF S0 q.2) := by
  unfold fJ_X8_times_J48
  exact ihJ_X8_times_J49 x1 x3 0 S hS
set_option maxHeartbeats 1000000 in
set_option maxRecDepth 100000 in
theorem ihJ_X8_times_J39 {S0 : Tr} (x1 : Int64) (x3 : Int64) (s0 : Int64) (s1 : Int64) (s2 : Int64) (S : Tr) (hS : ihF S0 S)   : Ep (fJ_X8_times_J39 x1 x3 s0 s1 s2 S) (fun q => ihF S0 q.2) := by
  unfold fJ_X8_times_J39
  refine Ep_ck ?_
  refine Ep_ite (fun _ => ?_) (fun _ => ?_)
  · exact ihJ_X8_times_J48 x1 x3 S hS
  · exact ihJ_X8_times_J49 x1 x3 1 S hS
set_option maxHeartbeats 1000000 in
set_option maxRecDepth 100000 in
theorem ihJ_X8_times_J24 {S0 : Tr} (x1 : Int64) (x3 : Int64) (s0 : Int64) (S : Tr) (hS : ihF S0 S)   : Ep (fJ_X8_times_J24 x1 x3 s0 S) (fun q => ihF S0 q.2) := by
  unfold fJ_X8_times_J24
  refine Ep_ite (fun _ => ?_) (fun _ => ?_)
  · exact ihJ_X8_times_J39 x1 x3 x1 1000000000000 s0 S hS
  · exact ihJ_X8_times_J39 x1 x3 (-x1) 1000000000000 s0 S hS
set_option maxHeartbeats 1000000 in
set_option maxRecDepth 100000 in
theorem ih_X8_times {S0 : Tr} (S : Tr) (x1 : Int64) (x3 : Int64) (hS : ihF S0 S)   : Ep (f_X8_times S x1 x3) (fun q => ihF S0 q.2) := by
  unfold f_X8_times
  refine Ep_ite (fun _ => ?_) (fun _ => ?_)
  · exact ihJ_X8_times_J48 x1 x3 S hS
  · refine Ep_ite (fun _ => ?_) (fun _ => ?_)
    · exact ihJ_X8_times_J48 x1 x3 S hS
    · refine Ep_ite (fun _ => ?_) (fun _ => ?_)
      · exact ihJ_X8_times_J24 x1 x3 x3 S hS
      · exact ihJ_X8_times_J24 x1 x3 (-x3) S hS
set_option maxHeartbeats 1000000 in
set_option maxRecDepth 100000 in
theorem ihJ_X8_valueOf_J240 {S0 : Tr} (L : Lo) (x2 : Int64) (x4 : Int64) (s0 : Int32) (S : Tr) (hS : ihF S0 S)   : Ep (fJ_X8_valueOf_J240 L x2 x4 s0 S) (fun q => ihF S0 q.2) := by
  unfold fJ_X8_valueOf_J240
  refine Ep_ck ?_
  refine Ep_lt (fun S_34 eS_34 => ?_)
  have hS_34 : ihF S0 S_34 := by rw [eS_34]; exact ihF_s hS (by omega)
  refine Ep_ite (fun _ => ?_) (fun _ => ?_)
  · refine Ep_ck ?_
    exact Ep_some hS_34
  · exact Ep_some hS_34
set_option maxHeartbeats 1000000 in
set_option maxRecDepth 100000 in
theorem ihJ_X8_valueOf_J235 {S0 : Tr} (L : Lo) (x2 : Int64) (x4 : Int64) (S : Tr) (hS : ihF S0 S)   : Ep (fJ_X8_valueOf_J235 L x2 x4 S) (fun q => ihF S0 q.2) := by
  unfold fJ_X8_valueOf_J235
  exact ihJ_X8_valueOf_J240 L x2 x4 1 S hS
set_option maxHeartbeats 1000000 in
set_option maxRecDepth 100000 in
theorem ih_X8_valueOf {S0 : Tr} (S : Tr) (L : Lo) (x1 : Int32) (hS : ihF S0 S)   : Ep (f_X8_valueOf S L x1) (fun q => ihF S0 q.2) := by
  unfold f_X8_valueOf
  refine Ep_ck ?_
  refine Ep_ite (fun _ => ?_) (fun _ => ?_)
  · exact Ep_some hS
  · refine Ep_ite (fun _ => ?_) (fun _ => ?_)
    · refine Ep_ck ?_
      exact Ep_some hS
    · refine Ep_ck ?_
      refine Ep_lt (fun y5 ey5 => ?_)
      refine Ep_ite (fun _ => ?_) (fun _ => ?_)
      · refine Ep_ite (fun _ => ?_) (fun _ => ?_)
        · exact Ep_some hS
        · exact Ep_some hS
      · refine Ep_ck ?_
        refine Ep_lt (fun y8 ey8 => ?_)
        refine Ep_lt (fun y9 ey9 => ?_)
        refine Ep_ite (fun _ => ?_) (fun _ => ?_)
        · refine Ep_ite (fun _ => ?_) (fun _ => ?_)
          · exact Ep_some hS
          · refine Ep_ite (fun _ => ?_) (fun _ => ?_)
            · exact Ep_some hS
            · exact Ep_some hS
        · refine Ep_ite (fun _ => ?_) (fun _ => ?_)
          · refine Ep_ite (fun _ => ?_) (fun _ => ?_)
            · refine Ep_ite (fun _ => ?_) (fun _ => ?_)
              · exact Ep_some hS
              · exact Ep_some hS
            · exact Ep_some hS
          · refine Ep_ite (fun _ => ?_) (fun _ => ?_)
            · refine Ep_bd (ih_X8_bounded S (y5 + y8) hS) (fun q hq => ?_)
              refine Ep_lt (fun r17 er17 => ?_)
              refine Ep_lt (fun S_18 eS_18 => ?_)
              have hS_18 : ihF S0 S_18 := by rw [eS_18]; exact hq
              exact Ep_some hS_18
            · refine Ep_ite (fun _ => ?_) (fun _ => ?_)
              · refine Ep_bd (ih_X8_bounded S (y5 - y8) hS) (fun q hq => ?_)
                refine Ep_lt (fun r22 er22 => ?_)
                refine Ep_lt (fun S_23 eS_23 => ?_)
                have hS_23 : ihF S0 S_23 := by rw [eS_23]; exact hq
                exact Ep_some hS_23
              · refine Ep_ite (fun _ => ?_) (fun _ => ?_)
                · refine Ep_bd (ih_X8_times S y5 y8 hS) (fun q hq => ?_)
                  refine Ep_lt (fun r27 er27 => ?_)
                  refine Ep_lt (fun S_28 eS_28 => ?_)
                  have hS_28 : ihF S0 S_28 := by rw [eS_28]; exact hq
                  exact Ep_some hS_28
                · refine Ep_ite (fun _ => ?_) (fun _ => ?_)
                  · refine Ep_ite (fun _ => ?_) (fun _ => ?_)
                    · refine Ep_ite (fun _ => ?_) (fun _ => ?_)
                      · exact ihJ_X8_valueOf_J235 L y5 y8 S hS
                      · exact ihJ_X8_valueOf_J240 L y5 y8 0 S hS
                    · exact ihJ_X8_valueOf_J235 L y5 y8 S hS
                  · refine Ep_any (fun r38 => ?_)
                    refine Ep_ite (fun _ => ?_) (fun _ => ?_)
                    · exact Ep_some hS
                    · exact Ep_some hS
set_option maxHeartbeats 1000000 in
set_option maxRecDepth 100000 in
theorem ihB_X8_lawOf_L12 {S0 : Tr} (x1 : Int32)    (N : Nat) : ∀ (x2 : Int32) (S : Tr) (L : Lo), ihF S0 S → Ep (lpF (fun _ _ _ => none) (fB_X8_lawOf_L12 x1) N x2 S L) (fun q => ihF S0 q.2.1) := by
  induction N with
  | zero => intro x2 S L _; exact Ep_none
  | succ N ih =>
    intro x2 S L hS
    show Ep (fB_X8_lawOf_L12 x1 (lpF (fun _ _ _ => none) (fB_X8_lawOf_L12 x1) N) x2 S L) _
    have hk12 := ih
    clear ih
    generalize lpF (fun _ _ _ => none) (fB_X8_lawOf_L12 x1) N = k12 at hk12 ⊢
    unfold fB_X8_lawOf_L12
    refine Ep_ck ?_
    refine Ep_ite (fun _ => ?_) (fun _ => ?_)
    · exact ihJ_X8_lawOf_J39 x1 S L hS
    · refine Ep_bd (ih_X8_valueOf S L x2 hS) (fun q hq => ?_)
      refine Ep_lt (fun r9 er9 => ?_)
      refine Ep_lt (fun S_10 eS_10 => ?_)
      have hS_10 : ihF S0 S_10 := by rw [eS_10]; exact hq
      refine Ep_ck ?_
      refine Ep_lt (fun L_14 eL_14 => ?_)
      refine Ep_lt (fun y15 ey15 => ?_)
      exact hk12 y15 S_10 L_14 hS_10
set_option maxHeartbeats 1000000 in
set_option maxRecDepth 100000 in
theorem ihL_X8_lawOf_L12 {S0 : Tr} (x1 : Int32)    (x2 : Int32) (S : Tr) (L : Lo) (hS : ihF S0 S) : Ep (fL_X8_lawOf_L12 x1 x2 S L) (fun q => ihF S0 q.2.1) := by
  unfold fL_X8_lawOf_L12
  exact ihB_X8_lawOf_L12 x1 2000 x2 S L hS
set_option maxHeartbeats 1000000 in
set_option maxRecDepth 100000 in
theorem ih_X8_lawOf {S0 : Tr} (S : Tr) (L : Lo) (x1 : Int32) (hS : ihF S0 S)   : Ep (f_X8_lawOf S L x1) (fun q => ihF S0 q.2.1) := by
  unfold f_X8_lawOf
  refine Ep_lt (fun S_1 eS_1 => ?_)
  have hS_1 : ihF S0 S_1 := by rw [eS_1]; exact ihF_s hS (by omega)
  refine Ep_ck ?_
  refine Ep_lt (fun y3 ey3 => ?_)
  exact ihL_X8_lawOf_L12 x1 y3 S_1 L hS_1
set_option maxHeartbeats 1000000 in
set_option maxRecDepth 100000 in
theorem ih_X8_boundLaw {S0 : Tr} (S : Tr) (L : Lo) (x1 : Int32) (x2 : Int32) (x3 : Int32) (hS : ihF S0 S)   : Ep (f_X8_boundLaw S L x1 x2 x3) (fun q => ihF S0 q.2.1) := by
  unfold f_X8_boundLaw
  refine Ep_ck ?_
  refine Ep_ite (fun _ => ?_) (fun _ => ?_)
  · exact Ep_some hS
  · refine Ep_bd (ih_X8_lawOf S L x1 hS) (fun q hq => ?_)
    refine Ep_lt (fun r3 er3 => ?_)
    refine Ep_lt (fun S_4 eS_4 => ?_)
    have hS_4 : ihF S0 S_4 := by rw [eS_4]; exact hq
    refine Ep_lt (fun L_5 eL_5 => ?_)
    refine Ep_ite (fun _ => ?_) (fun _ => ?_)
    · refine Ep_ite (fun _ => ?_) (fun _ => ?_)
      · refine Ep_ite (fun _ => ?_) (fun _ => ?_)
        · exact Ep_some hS_4
        · exact Ep_some hS_4
      · exact Ep_some hS_4
    · exact Ep_some hS_4
set_option maxHeartbeats 1000000 in
set_option maxRecDepth 100000 in
theorem ih_X8_liftOf {S0 : Tr} (S : Tr) (L : Lo) (x1 : Int32) (x2 : Int32) (x3 : Int32) (hS : ihF S0 S)   : Ep (f_X8_liftOf S L x1 x2 x3) (fun q => ihF S0 q.2.1) := by
  unfold f_X8_liftOf
  refine Ep_any (fun L_1 => ?_)
  refine Ep_ck ?_
  refine Ep_any (fun r5 => ?_)
  refine Ep_ck ?_
  refine Ep_bd (ih_X8_boundLaw S L_1 (0 : Int32) (((S 31 x2.toNatClampNeg) / r5) + 1) (99 : Int32) hS) (fun q hq => ?_)
  refine Ep_lt (fun r9 er9 => ?_)
  refine Ep_lt (fun S_10 eS_10 => ?_)
  have hS_10 : ihF S0 S_10 := by rw [eS_10]; exact hq
  refine Ep_lt (fun L_11 eL_11 => ?_)
  exact Ep_some hS_10
set_option maxHeartbeats 1000000 in
set_option maxRecDepth 100000 in
theorem ihB_X8_secondsOf_L23 {S0 : Tr} (x1 : Int32) (x2 : Int32) (x3 : Int32)    (N : Nat) : ∀ (x4 : Int32) (x5 : Int32) (S : Tr) (L : Lo), ihF S0 S → Ep (lpF (fun _ _ _ _ => none) (fB_X8_secondsOf_L23 x1 x2 x3) N x4 x5 S L) (fun q => ihF S0 q.2.1) := by
  induction N with
  | zero => intro x4 x5 S L _; exact Ep_none
  | succ N ih =>
    intro x4 x5 S L hS
    show Ep (fB_X8_secondsOf_L23 x1 x2 x3 (lpF (fun _ _ _ _ => none) (fB_X8_secondsOf_L23 x1 x2 x3) N) x4 x5 S L) _
    have hk23 := ih
    clear ih
    generalize lpF (fun _ _ _ _ => none) (fB_X8_secondsOf_L23 x1 x2 x3) N = k23 at hk23 ⊢
    unfold fB_X8_secondsOf_L23
    refine Ep_ck ?_
    refine Ep_ite (fun _ => ?_) (fun _ => ?_)
    · exact Ep_some hS
    · refine Ep_any (fun r8 => ?_)
      refine Ep_ck ?_
      refine Ep_bd (ih_X8_liftOf S L x1 r8 (S 30 x2.toNatClampNeg) hS) (fun q hq => ?_)
      refine Ep_lt (fun r12 er12 => ?_)
      refine Ep_lt (fun S_13 eS_13 => ?_)
      have hS_13 : ihF S0 S_13 := by rw [eS_13]; exact hq
      refine Ep_lt (fun L_14 eL_14 => ?_)
      refine Ep_lt (fun y17 ey17 => ?_)
      refine Ep_lt (fun y18 ey18 => ?_)
      exact hk23 y17 y18 S_13 L_14 hS_13
set_option maxHeartbeats 1000000 in
set_option maxRecDepth 100000 in
theorem ihL_X8_secondsOf_L23 {S0 : Tr} (x1 : Int32) (x2 : Int32) (x3 : Int32)    (x4 : Int32) (x5 : Int32) (S : Tr) (L : Lo) (hS : ihF S0 S) : Ep (fL_X8_secondsOf_L23 x1 x2 x3 x4 x5 S L) (fun q => ihF S0 q.2.1) := by
  unfold fL_X8_secondsOf_L23
  exact ihB_X8_secondsOf_L23 x1 x2 x3 2000 x4 x5 S L hS
set_option maxHeartbeats 1000000 in
set_option maxRecDepth 100000 in
theorem ih_X8_secondsOf {S0 : Tr} (S : Tr) (L : Lo) (x1 : Int32) (x2 : Int32) (hS : ihF S0 S)   : Ep (f_X8_secondsOf S L x1 x2) (fun q => ihF S0 q.2.1) := by
  unfold f_X8_secondsOf
  refine Ep_ck ?_
  refine Ep_lt (fun y2 ey2 => ?_)
  refine Ep_any (fun r3 => ?_)
  exact ihL_X8_secondsOf_L23 x1 x2 y2 0 r3 S L hS
set_option maxHeartbeats 1000000 in
set_option maxRecDepth 100000 in
theorem ihJ_X8_outs_J117 {S0 : Tr} (k9 : Int32 → Int32 → Tr → Lo → Option (Tr × Lo)) (k32 : Int32 → Int32 → Tr → Lo → Option (Tr × Lo)) (x1 : Int32) (x3 : Int32) (x4 : Int32) (x5 : Int32) (s0 : Int32) (S : Tr) (L : Lo) (hS : ihF S0 S) (hk9 : ∀ (x2 : Int32) (x3 : Int32) (S : Tr) (L : Lo), ihF S0 S → Ep (k9 x2 x3 S L) (fun q => ihF S0 q.1)) (hk32 : ∀ (x2 : Int32) (x4 : Int32) (S : Tr) (L : Lo), ihF S0 S → Ep (k32 x2 x4 S L) (fun q => ihF S0 q.1))  : Ep (fJ_X8_outs_J117 k9 k32 x1 x3 x4 x5 s0 S L) (fun q => ihF S0 q.1) := by
  unfold fJ_X8_outs_J117
  refine Ep_ite (fun _ => ?_) (fun _ => ?_)
  · refine Ep_lt (fun y56 ey56 => ?_)
    exact hk32 s0 y56 S L hS
  · refine Ep_lt (fun S_44 eS_44 => ?_)
    have hS_44 : ihF S0 S_44 := by rw [eS_44]; exact ihF_s hS (by omega)
    refine Ep_ck ?_
    refine Ep_lt (fun S_46 eS_46 => ?_)
    have hS_46 : ihF S0 S_46 := by rw [eS_46]; exact ihF_s hS_44 (by omega)
    refine Ep_ck ?_
    refine Ep_any (fun r48 => ?_)
    refine Ep_lt (fun S_51 eS_51 => ?_)
    have hS_51 : ihF S0 S_51 := by rw [eS_51]; exact ihF_s hS_46 (by omega)
    refine Ep_bd (ih_X8_takes S_51 x1 x4 (2 : Int32) hS_51) (fun S_52 hS_52 => ?_)
    refine Ep_lt (fun y55 ey55 => ?_)
    exact hk32 s0 y55 S_52 L hS_52
set_option maxHeartbeats 1000000 in
set_option maxRecDepth 100000 in
theorem ihJ_X8_outs_J116 {S0 : Tr} (k9 : Int32 → Int32 → Tr → Lo → Option (Tr × Lo)) (k32 : Int32 → Int32 → Tr → Lo → Option (Tr × Lo)) (x1 : Int32) (x3 : Int32) (x4 : Int32) (x5 : Int32) (S : Tr) (L : Lo) (hS : ihF S0 S) (hk9 : ∀ (x2 : Int32) (x3 : Int32) (S : Tr) (L : Lo), ihF S0 S → Ep (k9 x2 x3 S L) (fun q => ihF S0 q.1)) (hk32 : ∀ (x2 : Int32) (x4 : Int32) (S : Tr) (L : Lo), ihF S0 S → Ep (k32 x2 x4 S L) (fun q => ihF S0 q.1))  : Ep (fJ_X8_outs_J116 k9 k32 x1 x3 x4 x5 S L) (fun q => ihF S0 q.1) := by
  unfold fJ_X8_outs_J116
  exact ihJ_X8_outs_J117 k9 k32 x1 x3 x4 x5 0 S L hS hk9 hk32
set_option maxHeartbeats 1000000 in
set_option maxRecDepth 100000 in
theorem ihJ_X8_outs_J112 {S0 : Tr} (k9 : Int32 → Int32 → Tr → Lo → Option (Tr × Lo)) (k32 : Int32 → Int32 → Tr → Lo → Option (Tr × Lo)) (x1 : Int32) (x3 : Int32) (x4 : Int32) (x5 : Int32) (S : Tr) (L : Lo) (hS : ihF S0 S) (hk9 : ∀ (x2 : Int32) (x3 : Int32) (S : Tr) (L : Lo), ihF S0 S → Ep (k9 x2 x3 S L) (fun q => ihF S0 q.1)) (hk32 : ∀ (x2 : Int32) (x4 : Int32) (S : Tr) (L : Lo), ihF S0 S → Ep (k32 x2 x4 S L) (fun q => ihF S0 q.1))  : Ep (fJ_X8_outs_J112 k9 k32 x1 x3 x4 x5 S L) (fun q => ihF S0 q.1) := by
  unfold fJ_X8_outs_J112
  exact ihJ_X8_outs_J117 k9 k32 x1 x3 x4 x5 1 S L hS hk9 hk32
set_option maxHeartbeats 1000000 in
set_option maxRecDepth 100000 in
theorem ihB_X8_outs_L32 {S0 : Tr} (k9 : Int32 → Int32 → Tr → Lo → Option (Tr × Lo)) (x1 : Int32) (x3 : Int32)  (hk9 : ∀ (x2 : Int32) (x3 : Int32) (S : Tr) (L : Lo), ihF S0 S → Ep (k9 x2 x3 S L) (fun q => ihF S0 q.1))  (N : Nat) : ∀ (x2 : Int32) (x4 : Int32) (S : Tr) (L : Lo), ihF S0 S → Ep (lpF (fun _ _ _ _ => none) (fB_X8_outs_L32 k9 x1 x3) N x2 x4 S L) (fun q => ihF S0 q.1) := by
  induction N with
  | zero => intro x2 x4 S L _; exact Ep_none
  | succ N ih =>
    intro x2 x4 S L hS
    show Ep (fB_X8_outs_L32 k9 x1 x3 (lpF (fun _ _ _ _ => none) (fB_X8_outs_L32 k9 x1 x3) N) x2 x4 S L) _
    have hk32 := ih
    clear ih
    generalize lpF (fun _ _ _ _ => none) (fB_X8_outs_L32 k9 x1 x3) N = k32 at hk32 ⊢
    unfold fB_X8_outs_L32
    refine Ep_ite (fun _ => ?_) (fun _ => ?_)
    · exact ihJ_X8_outs_J182 k9 x1 x2 x3 S L hS hk9
    · refine Ep_ck ?_
      refine Ep_ite (fun _ => ?_) (fun _ => ?_)
      · refine Ep_ck ?_
        refine Ep_ite (fun _ => ?_) (fun _ => ?_)
        · refine Ep_bd (ih_X8_secondsOf S L x1 x4 hS) (fun q hq => ?_)
          refine Ep_lt (fun r37 er37 => ?_)
          refine Ep_lt (fun S_38 eS_38 => ?_)
          have hS_38 : ihF S0 S_38 := by rw [eS_38]; exact hq
          refine Ep_lt (fun L_39 eL_39 => ?_)
          refine Ep_ite (fun _ => ?_) (fun _ => ?_)
          · exact ihJ_X8_outs_J116 k9 k32 x1 x3 x4 r37 S_38 L_39 hS_38 hk9 hk32
          · refine Ep_ite (fun _ => ?_) (fun _ => ?_)
            · refine Ep_ck ?_
              refine Ep_ck ?_
              refine Ep_ite (fun _ => ?_) (fun _ => ?_)
              · exact ihJ_X8_outs_J116 k9 k32 x1 x3 x4 r37 S_38 L_39 hS_38 hk9 hk32
              · exact ihJ_X8_outs_J112 k9 k32 x1 x3 x4 r37 S_38 L_39 hS_38 hk9 hk32
            · exact ihJ_X8_outs_J112 k9 k32 x1 x3 x4 r37 S_38 L_39 hS_38 hk9 hk32
        · refine Ep_lt (fun y61 ey61 => ?_)
          exact hk32 x2 y61 S L hS
      · refine Ep_lt (fun y34 ey34 => ?_)
        exact hk32 x2 y34 S L hS
set_option maxHeartbeats 1000000 in
set_option maxRecDepth 100000 in
theorem ihL_X8_outs_L32 {S0 : Tr} (k9 : Int32 → Int32 → Tr → Lo → Option (Tr × Lo)) (x1 : Int32) (x3 : Int32)  (hk9 : ∀ (x2 : Int32) (x3 : Int32) (S : Tr) (L : Lo), ihF S0 S → Ep (k9 x2 x3 S L) (fun q => ihF S0 q.1))  (x2 : Int32) (x4 : Int32) (S : Tr) (L : Lo) (hS : ihF S0 S) : Ep (fL_X8_outs_L32 k9 x1 x3 x2 x4 S L) (fun q => ihF S0 q.1) := by
  unfold fL_X8_outs_L32
  exact ihB_X8_outs_L32 k9 x1 x3 hk9 2000 x2 x4 S L hS
set_option maxHeartbeats 1000000 in
set_option maxRecDepth 100000 in
theorem ihB_X8_outs_L9 {S0 : Tr} (x1 : Int32)    (N : Nat) : ∀ (x2 : Int32) (x3 : Int32) (S : Tr) (L : Lo), ihF S0 S → Ep (lpF (fun _ _ _ _ => none) (fB_X8_outs_L9 x1) N x2 x3 S L) (fun q => ihF S0 q.1) := by
  induction N with
  | zero => intro x2 x3 S L _; exact Ep_none
  | succ N ih =>
    intro x2 x3 S L hS
    show Ep (fB_X8_outs_L9 x1 (lpF (fun _ _ _ _ => none) (fB_X8_outs_L9 x1) N) x2 x3 S L) _
    have hk9 := ih
    clear ih
    generalize lpF (fun _ _ _ _ => none) (fB_X8_outs_L9 x1) N = k9 at hk9 ⊢
    unfold fB_X8_outs_L9
    refine Ep_ite (fun _ => ?_) (fun _ => ?_)
    · exact ihJ_X8_outs_J209 x1 S L hS
    · refine Ep_any (fun r19 => ?_)
      refine Ep_ite (fun _ => ?_) (fun _ => ?_)
      · refine Ep_lt (fun y62 ey62 => ?_)
        exact hk9 x2 y62 S L hS
      · exact ihL_X8_outs_L32 k9 x1 x3 hk9 x2 0 S L hS
set_option maxHeartbeats 1000000 in
set_option maxRecDepth 100000 in
theorem ihL_X8_outs_L9 {S0 : Tr} (x1 : Int32)    (x2 : Int32) (x3 : Int32) (S : Tr) (L : Lo) (hS : ihF S0 S) : Ep (fL_X8_outs_L9 x1 x2 x3 S L) (fun q => ihF S0 q.1) := by
  unfold fL_X8_outs_L9
  exact ihB_X8_outs_L9 x1 2000 x2 x3 S L hS
set_option maxHeartbeats 1000000 in
set_option maxRecDepth 100000 in
theorem ih_X8_outs {S0 : Tr} (S : Tr) (L : Lo) (x1 : Int32) (hS : ihF S0 S)   : Ep (f_X8_outs S L x1) (fun q => ihF S0 q.1) := by
  unfold f_X8_outs
  refine Ep_lt (fun S_1 eS_1 => ?_)
  have hS_1 : ihF S0 S_1 := by rw [eS_1]; exact ihF_s hS (by omega)
  exact ihL_X8_outs_L9 x1 1 0 S_1 L hS_1
set_option maxHeartbeats 1000000 in
set_option maxRecDepth 100000 in
theorem ihJ_X8_ins_J185 {S0 : Tr} (k146 : Int32 → Tr → Option (Tr)) (x1 : Int32) (x2 : Int32) (s0 : Int32) (s1 : Int32) (s2 : Int32) (S : Tr) (hS : ihF S0 S) (hk146 : ∀ (x2 : Int32) (S : Tr), ihF S0 S → Ep (k146 x2 S) (fun q => ihF S0 q))  : Ep (fJ_X8_ins_J185 k146 x1 x2 s0 s1 s2 S) (fun q => ihF S0 q) := by
  unfold fJ_X8_ins_J185
  refine Ep_ck ?_
  refine Ep_lt (fun S_7 eS_7 => ?_)
  have hS_7 : ihF S0 S_7 := by rw [eS_7]; exact ihF_s hS (by omega)
  refine Ep_lt (fun y8 ey8 => ?_)
  exact hk146 y8 S_7 hS_7
set_option maxHeartbeats 1000000 in
set_option maxRecDepth 100000 in
theorem ihB_X8_ins_L146 {S0 : Tr} (x1 : Int32)    (N : Nat) : ∀ (x2 : Int32) (S : Tr), ihF S0 S → Ep (lpF (fun _ _ => none) (fB_X8_ins_L146 x1) N x2 S) (fun q => ihF S0 q) := by
  induction N with
  | zero => intro x2 S _; exact Ep_none
  | succ N ih =>
    intro x2 S hS
    show Ep (fB_X8_ins_L146 x1 (lpF (fun _ _ => none) (fB_X8_ins_L146 x1) N) x2 S) _
    have hk146 := ih
    clear ih
    generalize lpF (fun _ _ => none) (fB_X8_ins_L146 x1) N = k146 at hk146 ⊢
    unfold fB_X8_ins_L146
    refine Ep_ite (fun _ => ?_) (fun _ => ?_)
    · exact Ep_some hS
    · refine Ep_ck ?_
      refine Ep_ck ?_
      refine Ep_ite (fun _ => ?_) (fun _ => ?_)
      · refine Ep_ck ?_
        exact ihJ_X8_ins_J185 k146 x1 x2 (S 56 (((5 : Int32) * x1) + x2).toNatClampNeg) (S 63 x1.toNatClampNeg) x1 S hS hk146
      · exact ihJ_X8_ins_J185 k146 x1 x2 0 (S 63 x1.toNatClampNeg) x1 S hS hk146
set_option maxHeartbeats 1000000 in
set_option maxRecDepth 100000 in
theorem ihL_X8_ins_L146 {S0 : Tr} (x1 : Int32)    (x2 : Int32) (S : Tr) (hS : ihF S0 S) : Ep (fL_X8_ins_L146 x1 x2 S) (fun q => ihF S0 q) := by
  unfold fL_X8_ins_L146
  exact ihB_X8_ins_L146 x1 2000 x2 S hS
set_option maxHeartbeats 1000000 in
set_option maxRecDepth 100000 in
theorem ih_X8_lays {S0 : Tr} (S : Tr) (x1 : Int32) (x2 : Int32) (x3 : Int32) (hS : ihF S0 S)   : Ep (f_X8_lays S x1 x2 x3) (fun q => ihF S0 q) := by
  unfold f_X8_lays
  refine Ep_ck ?_
  refine Ep_ck ?_
  refine Ep_lt (fun S_3 eS_3 => ?_)
  have hS_3 : ihF S0 S_3 := by rw [eS_3]; exact ihF_s hS (by omega)
  refine Ep_lt (fun S_4 eS_4 => ?_)
  have hS_4 : ihF S0 S_4 := by rw [eS_4]; exact ihF_s hS_3 (by omega)
  refine Ep_ck ?_
  refine Ep_lt (fun S_6 eS_6 => ?_)
  have hS_6 : ihF S0 S_6 := by rw [eS_6]; exact ihF_s hS_4 (by omega)
  refine Ep_lt (fun S_7 eS_7 => ?_)
  have hS_7 : ihF S0 S_7 := by rw [eS_7]; exact ihF_s hS_6 (by omega)
  exact Ep_some hS_7
set_option maxHeartbeats 1000000 in
set_option maxRecDepth 100000 in
theorem ihB_X8_ins_L61 {S0 : Tr} (k2 : Int32 → Tr → Option (Tr)) (x1 : Int32) (x2 : Int32)  (hk2 : ∀ (x2 : Int32) (S : Tr), ihF S0 S → Ep (k2 x2 S) (fun q => ihF S0 q))  (N : Nat) : ∀ (x3 : Int32) (S : Tr), ihF S0 S → Ep (lpF (fun _ _ => none) (fB_X8_ins_L61 k2 x1 x2) N x3 S) (fun q => ihF S0 q) := by
  induction N with
  | zero => intro x3 S _; exact Ep_none
  | succ N ih =>
    intro x3 S hS
    show Ep (fB_X8_ins_L61 k2 x1 x2 (lpF (fun _ _ => none) (fB_X8_ins_L61 k2 x1 x2) N) x3 S) _
    have hk61 := ih
    clear ih
    generalize lpF (fun _ _ => none) (fB_X8_ins_L61 k2 x1 x2) N = k61 at hk61 ⊢
    unfold fB_X8_ins_L61
    refine Ep_ite (fun _ => ?_) (fun _ => ?_)
    · refine Ep_lt (fun y17 ey17 => ?_)
      exact hk2 y17 S hS
    · refine Ep_ck ?_
      refine Ep_ite (fun _ => ?_) (fun _ => ?_)
      · refine Ep_ck ?_
        refine Ep_ite (fun _ => ?_) (fun _ => ?_)
        · refine Ep_any (fun r23 => ?_)
          refine Ep_ite (fun _ => ?_) (fun _ => ?_)
          · refine Ep_bd (ih_X8_lays S x1 r23 x3 hS) (fun S_27 hS_27 => ?_)
            refine Ep_lt (fun y30 ey30 => ?_)
            exact hk61 y30 S_27 hS_27
          · refine Ep_lt (fun S_31 eS_31 => ?_)
            have hS_31 : ihF S0 S_31 := by rw [eS_31]; exact ihF_s hS (by omega)
            refine Ep_lt (fun y32 ey32 => ?_)
            exact hk61 y32 S_31 hS_31
        · refine Ep_lt (fun y33 ey33 => ?_)
          exact hk61 y33 S hS
      · refine Ep_lt (fun y20 ey20 => ?_)
        exact hk61 y20 S hS
set_option maxHeartbeats 1000000 in
set_option maxRecDepth 100000 in
theorem ihL_X8_ins_L61 {S0 : Tr} (k2 : Int32 → Tr → Option (Tr)) (x1 : Int32) (x2 : Int32)  (hk2 : ∀ (x2 : Int32) (S : Tr), ihF S0 S → Ep (k2 x2 S) (fun q => ihF S0 q))  (x3 : Int32) (S : Tr) (hS : ihF S0 S) : Ep (fL_X8_ins_L61 k2 x1 x2 x3 S) (fun q => ihF S0 q) := by
  unfold fL_X8_ins_L61
  exact ihB_X8_ins_L61 k2 x1 x2 hk2 2000 x3 S hS
set_option maxHeartbeats 1000000 in
set_option maxRecDepth 100000 in
theorem ihB_X8_ins_L2 {S0 : Tr} (x1 : Int32)    (N : Nat) : ∀ (x2 : Int32) (S : Tr), ihF S0 S → Ep (lpF (fun _ _ => none) (fB_X8_ins_L2 x1) N x2 S) (fun q => ihF S0 q) := by
  induction N with
  | zero => intro x2 S _; exact Ep_none
  | succ N ih =>
    intro x2 S hS
    show Ep (fB_X8_ins_L2 x1 (lpF (fun _ _ => none) (fB_X8_ins_L2 x1) N) x2 S) _
    have hk2 := ih
    clear ih
    generalize lpF (fun _ _ => none) (fB_X8_ins_L2 x1) N = k2 at hk2 ⊢
    unfold fB_X8_ins_L2
    refine Ep_ite (fun _ => ?_) (fun _ => ?_)
    · exact ihL_X8_ins_L146 x1 0 S hS
    · refine Ep_ck ?_
      refine Ep_ck ?_
      refine Ep_ite (fun _ => ?_) (fun _ => ?_)
      · refine Ep_ite (fun _ => ?_) (fun _ => ?_)
        · refine Ep_lt (fun S_15 eS_15 => ?_)
          have hS_15 : ihF S0 S_15 := by rw [eS_15]; exact ihF_s hS (by omega)
          exact ihL_X8_ins_L61 k2 x1 x2 hk2 0 S_15 hS_15
        · refine Ep_lt (fun y34 ey34 => ?_)
          exact hk2 y34 S hS
      · refine Ep_lt (fun y13 ey13 => ?_)
        exact hk2 y13 S hS
set_option maxHeartbeats 1000000 in
set_option maxRecDepth 100000 in
theorem ihL_X8_ins_L2 {S0 : Tr} (x1 : Int32)    (x2 : Int32) (S : Tr) (hS : ihF S0 S) : Ep (fL_X8_ins_L2 x1 x2 S) (fun q => ihF S0 q) := by
  unfold fL_X8_ins_L2
  exact ihB_X8_ins_L2 x1 2000 x2 S hS
set_option maxHeartbeats 1000000 in
set_option maxRecDepth 100000 in
theorem ih_X8_ins {S0 : Tr} (S : Tr) (x1 : Int32) (hS : ihF S0 S)   : Ep (f_X8_ins S x1) (fun q => ihF S0 q) := by
  unfold f_X8_ins
  exact ihL_X8_ins_L2 x1 0 S hS
set_option maxHeartbeats 1000000 in
set_option maxRecDepth 100000 in
theorem ihJ_X8_goOn_J26 {S0 : Tr} (x1 : Int32) (S : Tr) (L : Lo) (hS : ihF S0 S)   : Ep (fJ_X8_goOn_J26 x1 S L) (fun q => ihF S0 q.1) := by
  unfold fJ_X8_goOn_J26
  refine Ep_ck ?_
  refine Ep_lt (fun S_11 eS_11 => ?_)
  have hS_11 : ihF S0 S_11 := by rw [eS_11]; exact ihF_s hS (by omega)
  exact Ep_some hS_11
set_option maxHeartbeats 1000000 in
set_option maxRecDepth 100000 in
theorem ihB_X8_onTheWay_L90 {S0 : Tr} (x1 : Int32)    (N : Nat) : ∀ (x2 : Int32) (S : Tr) (L : Lo), ihF S0 S → Ep (lpF (fun _ _ _ => none) (fB_X8_onTheWay_L90 x1) N x2 S L) (fun q => ihF S0 q.1) := by
  induction N with
  | zero => intro x2 S L _; exact Ep_none
  | succ N ih =>
    intro x2 S L hS
    show Ep (fB_X8_onTheWay_L90 x1 (lpF (fun _ _ _ => none) (fB_X8_onTheWay_L90 x1) N) x2 S L) _
    have hk90 := ih
    clear ih
    generalize lpF (fun _ _ _ => none) (fB_X8_onTheWay_L90 x1) N = k90 at hk90 ⊢
    unfold fB_X8_onTheWay_L90
    refine Ep_ite (fun _ => ?_) (fun _ => ?_)
    · exact Ep_some hS
    · refine Ep_ite (fun _ => ?_) (fun _ => ?_)
      · refine Ep_ck ?_
        refine Ep_ite (fun _ => ?_) (fun _ => ?_)
        · refine Ep_ck ?_
          refine Ep_ite (fun _ => ?_) (fun _ => ?_)
          · refine Ep_ck ?_
            refine Ep_any (fun L_10 => ?_)
            refine Ep_bd (ih_X8_boundLaw S L_10 (2 : Int32) (10 : Int32) (100 : Int32) hS) (fun q hq => ?_)
            refine Ep_lt (fun r13 er13 => ?_)
            refine Ep_lt (fun S_14 eS_14 => ?_)
            have hS_14 : ihF S0 S_14 := by rw [eS_14]; exact hq
            refine Ep_lt (fun L_15 eL_15 => ?_)
            refine Ep_any (fun q => ?_)
            refine Ep_lt (fun r18 er18 => ?_)
            refine Ep_lt (fun L_19 eL_19 => ?_)
            refine Ep_ite (fun _ => ?_) (fun _ => ?_)
            · refine Ep_lt (fun y23 ey23 => ?_)
              exact hk90 y23 S_14 L_19 hS_14
            · refine Ep_bd (ih_X8_takes S_14 x1 x2 (4 : Int32) hS_14) (fun S_24 hS_24 => ?_)
              refine Ep_lt (fun y27 ey27 => ?_)
              exact hk90 y27 S_24 L_19 hS_24
          · refine Ep_lt (fun y28 ey28 => ?_)
            exact hk90 y28 S L hS
        · refine Ep_lt (fun y6 ey6 => ?_)
          exact hk90 y6 S L hS
      · exact Ep_some hS
set_option maxHeartbeats 1000000 in
set_option maxRecDepth 100000 in
theorem ihL_X8_onTheWay_L90 {S0 : Tr} (x1 : Int32)    (x2 : Int32) (S : Tr) (L : Lo) (hS : ihF S0 S) : Ep (fL_X8_onTheWay_L90 x1 x2 S L) (fun q => ihF S0 q.1) := by
  unfold fL_X8_onTheWay_L90
  exact ihB_X8_onTheWay_L90 x1 2000 x2 S L hS
set_option maxHeartbeats 1000000 in
set_option maxRecDepth 100000 in
theorem ihJ_X8_fallOf_J58 {S0 : Tr} (s0 : Int32) (s1 : Int32) (S : Tr) (L : Lo) (hS : ihF S0 S)   : Ep (fJ_X8_fallOf_J58 s0 s1 S L) (fun q => ihF S0 q.2.1) := by
  unfold fJ_X8_fallOf_J58
  refine Ep_bd (ih_X8_boundLaw S L s1 s0 (100 : Int32) hS) (fun q hq => ?_)
  refine Ep_lt (fun r11 er11 => ?_)
  refine Ep_lt (fun S_12 eS_12 => ?_)
  have hS_12 : ihF S0 S_12 := by rw [eS_12]; exact hq
  refine Ep_lt (fun L_13 eL_13 => ?_)
  exact Ep_some hS_12
set_option maxHeartbeats 1000000 in
set_option maxRecDepth 100000 in
theorem ihJ_X8_fallOf_J17 {S0 : Tr} (x1 : Int32) (x2 : Int32) (s0 : Int32) (S : Tr) (L : Lo) (hS : ihF S0 S)   : Ep (fJ_X8_fallOf_J17 x1 x2 s0 S L) (fun q => ihF S0 q.2.1) := by
  unfold fJ_X8_fallOf_J17
  refine Ep_any (fun r2 => ?_)
  refine Ep_ck ?_
  refine Ep_lt (fun y6 ey6 => ?_)
  refine Ep_any (fun L_7 => ?_)
  refine Ep_ite (fun _ => ?_) (fun _ => ?_)
  · exact ihJ_X8_fallOf_J58 y6 1 S L_7 hS
  · exact ihJ_X8_fallOf_J58 0 1 S L_7 hS
set_option maxHeartbeats 1000000 in
set_option maxRecDepth 100000 in
theorem ih_X8_fallOf {S0 : Tr} (S : Tr) (L : Lo) (x1 : Int32) (x2 : Int32) (hS : ihF S0 S)   : Ep (f_X8_fallOf S L x1 x2) (fun q => ihF S0 q.2.1) := by
  unfold f_X8_fallOf
  refine Ep_ite (fun _ => ?_) (fun _ => ?_)
  · exact ihJ_X8_fallOf_J17 x1 x2 (S 23 1) S L hS
  · exact ihJ_X8_fallOf_J17 x1 x2 0 S L hS
set_option maxHeartbeats 1000000 in
set_option maxRecDepth 100000 in
theorem ihB_X8_onTheWay_L2 {S0 : Tr} (x1 : Int32)    (N : Nat) : ∀ (x2 : Int32) (S : Tr) (L : Lo), ihF S0 S → Ep (lpF (fun _ _ _ => none) (fB_X8_onTheWay_L2 x1) N x2 S L) (fun q => ihF S0 q.1) := by
  induction N with
  | zero => intro x2 S L _; exact Ep_none
  | succ N ih =>
    intro x2 S L hS
    show Ep (fB_X8_onTheWay_L2 x1 (lpF (fun _ _ _ => none) (fB_X8_onTheWay_L2 x1) N) x2 S L) _
    have hk2 := ih
    clear ih
    generalize lpF (fun _ _ _ => none) (fB_X8_onTheWay_L2 x1) N = k2 at hk2 ⊢
    unfold fB_X8_onTheWay_L2
    refine Ep_ite (fun _ => ?_) (fun _ => ?_)
    · exact ihL_X8_onTheWay_L90 x1 0 S L hS
    · refine Ep_ite (fun _ => ?_) (fun _ => ?_)
      · refine Ep_ck ?_
        refine Ep_ite (fun _ => ?_) (fun _ => ?_)
        · refine Ep_lt (fun y32 ey32 => ?_)
          exact hk2 y32 S L hS
        · refine Ep_ck ?_
          refine Ep_ite (fun _ => ?_) (fun _ => ?_)
          · refine Ep_lt (fun y53 ey53 => ?_)
            exact hk2 y53 S L hS
          · refine Ep_any (fun r35 => ?_)
            refine Ep_bd (ih_X8_fallOf S L x1 r35 hS) (fun q hq => ?_)
            refine Ep_lt (fun r38 er38 => ?_)
            refine Ep_lt (fun S_39 eS_39 => ?_)
            have hS_39 : ihF S0 S_39 := by rw [eS_39]; exact hq
            refine Ep_lt (fun L_40 eL_40 => ?_)
            refine Ep_any (fun q => ?_)
            refine Ep_lt (fun r43 er43 => ?_)
            refine Ep_lt (fun L_44 eL_44 => ?_)
            refine Ep_ite (fun _ => ?_) (fun _ => ?_)
            · refine Ep_lt (fun y48 ey48 => ?_)
              exact hk2 y48 S_39 L_44 hS_39
            · refine Ep_bd (ih_X8_takes S_39 x1 r35 (3 : Int32) hS_39) (fun S_49 hS_49 => ?_)
              refine Ep_lt (fun y52 ey52 => ?_)
              exact hk2 y52 S_49 L_44 hS_49
      · exact ihL_X8_onTheWay_L90 x1 0 S L hS
set_option maxHeartbeats 1000000 in
set_option maxRecDepth 100000 in
theorem ihL_X8_onTheWay_L2 {S0 : Tr} (x1 : Int32)    (x2 : Int32) (S : Tr) (L : Lo) (hS : ihF S0 S) : Ep (fL_X8_onTheWay_L2 x1 x2 S L) (fun q => ihF S0 q.1) := by
  unfold fL_X8_onTheWay_L2
  exact ihB_X8_onTheWay_L2 x1 2000 x2 S L hS
set_option maxHeartbeats 1000000 in
set_option maxRecDepth 100000 in
theorem ih_X8_onTheWay {S0 : Tr} (S : Tr) (L : Lo) (x1 : Int32) (hS : ihF S0 S)   : Ep (f_X8_onTheWay S L x1) (fun q => ihF S0 q.1) := by
  unfold f_X8_onTheWay
  exact ihL_X8_onTheWay_L2 x1 0 S L hS
set_option maxHeartbeats 1000000 in
set_option maxRecDepth 100000 in
theorem ih_X8_goOn {S0 : Tr} (S : Tr) (L : Lo) (x1 : Int32) (hS : ihF S0 S)   : Ep (f_X8_goOn S L x1) (fun q => ihF S0 q.1) := by
  unfold f_X8_goOn
  refine Ep_bd (ih_X8_outs S L x1 hS) (fun q hq => ?_)
  refine Ep_lt (fun S_1 eS_1 => ?_)
  have hS_1 : ihF S0 S_1 := by rw [eS_1]; exact hq
  refine Ep_lt (fun L_2 eL_2 => ?_)
  refine Ep_bd (ih_X8_ins S_1 x1 hS_1) (fun S_5 hS_5 => ?_)
  refine Ep_ck ?_
  refine Ep_ite (fun _ => ?_) (fun _ => ?_)
  · exact ihJ_X8_goOn_J26 x1 S_5 L_2 hS_5
  · refine Ep_bd (ih_X8_onTheWay S_5 L_2 x1 hS_5) (fun q hq => ?_)
    refine Ep_lt (fun S_12 eS_12 => ?_)
    have hS_12 : ihF S0 S_12 := by rw [eS_12]; exact hq
    refine Ep_lt (fun L_13 eL_13 => ?_)
    exact ihJ_X8_goOn_J26 x1 S_12 L_13 hS_12
set_option maxHeartbeats 1000000 in
set_option maxRecDepth 100000 in
theorem ihB_X8_go_L41 {S0 : Tr} (x1 : Int32)    (N : Nat) : ∀ (x2 : Int32) (S : Tr) (L : Lo), ihF S0 S → Ep (lpF (fun _ _ _ => none) (fB_X8_go_L41 x1) N x2 S L) (fun q => ihF S0 q.2.1) := by
  induction N with
  | zero => intro x2 S L _; exact Ep_none
  | succ N ih =>
    intro x2 S L hS
    show Ep (fB_X8_go_L41 x1 (lpF (fun _ _ _ => none) (fB_X8_go_L41 x1) N) x2 S L) _
    have hk41 := ih
    clear ih
    generalize lpF (fun _ _ _ => none) (fB_X8_go_L41 x1) N = k41 at hk41 ⊢
    unfold fB_X8_go_L41
    refine Ep_ite (fun _ => ?_) (fun _ => ?_)
    · exact ihJ_X8_go_J57 x1 S L hS
    · refine Ep_bd (ih_X8_goOn S L (0 : Int32) hS) (fun q hq => ?_)
      refine Ep_lt (fun S_15 eS_15 => ?_)
      have hS_15 : ihF S0 S_15 := by rw [eS_15]; exact hq
      refine Ep_lt (fun L_16 eL_16 => ?_)
      refine Ep_lt (fun y19 ey19 => ?_)
      exact hk41 y19 S_15 L_16 hS_15
set_option maxHeartbeats 1000000 in
set_option maxRecDepth 100000 in
theorem ihL_X8_go_L41 {S0 : Tr} (x1 : Int32)    (x2 : Int32) (S : Tr) (L : Lo) (hS : ihF S0 S) : Ep (fL_X8_go_L41 x1 x2 S L) (fun q => ihF S0 q.2.1) := by
  unfold fL_X8_go_L41
  exact ihB_X8_go_L41 x1 2000 x2 S L hS
set_option maxHeartbeats 1000000 in
set_option maxRecDepth 100000 in
theorem ih_X8_go {S0 : Tr} (S : Tr) (L : Lo) (x1 : Int32) (hS : ihF S0 S)   : Ep (f_X8_go S L x1) (fun q => ihF S0 q.2.1) := by
  unfold f_X8_go
  refine Ep_lt (fun S_1 eS_1 => ?_)
  have hS_1 : ihF S0 S_1 := by rw [eS_1]; exact ihF_s hS (by omega)
  refine Ep_any (fun r2 => ?_)
  refine Ep_ite (fun _ => ?_) (fun _ => ?_)
  · exact Ep_some hS_1
  · refine Ep_ite (fun _ => ?_) (fun _ => ?_)
    · refine Ep_bd (ih_X8_plainTried S_1 hS_1) (fun S_7 hS_7 => ?_)
      refine Ep_lt (fun S_10 eS_10 => ?_)
      have hS_10 : ihF S0 S_10 := by rw [eS_10]; exact ihF_s hS_7 (by omega)
      exact ihL_X8_go_L41 x1 0 S_10 L hS_10
    · exact Ep_some hS_1
set_option maxHeartbeats 1000000 in
set_option maxRecDepth 100000 in
theorem l9J_X8_go_J75 {v90 : Int64} (s0 : Int32) (S : Tr) (L : Lo) (hL : L 0 90 = v90)   : Ep (fJ_X8_go_J75 s0 S L) (fun q => q.2.2 0 90 = v90) := by
  unfold fJ_X8_go_J75
  refine Ep_lt (fun S_14 eS_14 => ?_)
  exact Ep_some hL
set_option maxHeartbeats 1000000 in
set_option maxRecDepth 100000 in
theorem l9J_X8_go_J57 {v90 : Int64} (x1 : Int32) (S : Tr) (L : Lo) (hL : L 0 90 = v90)   : Ep (fJ_X8_go_J57 x1 S L) (fun q => q.2.2 0 90 = v90) := by
  unfold fJ_X8_go_J57
  refine Ep_lt (fun S_12 eS_12 => ?_)
  refine Ep_ite (fun _ => ?_) (fun _ => ?_)
  · exact l9J_X8_go_J75 (S_12 0 82) S_12 L hL
  · exact l9J_X8_go_J75 0 S_12 L hL
set_option maxHeartbeats 1000000 in
set_option maxRecDepth 100000 in
theorem l9B_X8_outs_L261 {v90 : Int64} (L : Lo) (x1 : Int32) (hL : L 0 90 = v90)   (N : Nat) : ∀ (x3 : Int32) (S : Tr), Ep (lpF (fun _ _ => none) (fB_X8_outs_L261 L x1) N x3 S) (fun q => q.2 0 90 = v90) := by
  induction N with
  | zero => intro x3 S; exact Ep_none
  | succ N ih =>
    intro x3 S
    show Ep (fB_X8_outs_L261 L x1 (lpF (fun _ _ => none) (fB_X8_outs_L261 L x1) N) x3 S) _
    have hk261 := ih
    clear ih
    generalize lpF (fun _ _ => none) (fB_X8_outs_L261 L x1) N = k261 at hk261 ⊢
    unfold fB_X8_outs_L261
    refine Ep_ite (fun _ => ?_) (fun _ => ?_)
    · exact Ep_some hL
    · refine Ep_ck ?_
      refine Ep_ite (fun _ => ?_) (fun _ => ?_)
      · refine Ep_lt (fun S_10 eS_10 => ?_)
        refine Ep_lt (fun y11 ey11 => ?_)
        exact hk261 y11 S_10
      · refine Ep_lt (fun y9 ey9 => ?_)
        exact hk261 y9 S
set_option maxHeartbeats 1000000 in
set_option maxRecDepth 100000 in
theorem l9L_X8_outs_L261 {v90 : Int64} (L : Lo) (x1 : Int32) (hL : L 0 90 = v90)   (x3 : Int32) (S : Tr)  : Ep (fL_X8_outs_L261 L x1 x3 S) (fun q => q.2 0 90 = v90) := by
  unfold fL_X8_outs_L261
  exact l9B_X8_outs_L261 L x1 hL 2000 x3 S
set_option maxHeartbeats 1000000 in
set_option maxRecDepth 100000 in
theorem l9B_X8_outs_L223 {v90 : Int64} (L : Lo) (x1 : Int32) (hL : L 0 90 = v90)   (N : Nat) : ∀ (x3 : Int32) (S : Tr), Ep (lpF (fun _ _ => none) (fB_X8_outs_L223 L x1) N x3 S) (fun q => q.2 0 90 = v90) := by
  induction N with
  | zero => intro x3 S; exact Ep_none
  | succ N ih =>
    intro x3 S
    show Ep (fB_X8_outs_L223 L x1 (lpF (fun _ _ => none) (fB_X8_outs_L223 L x1) N) x3 S) _
    have hk223 := ih
    clear ih
    generalize lpF (fun _ _ => none) (fB_X8_outs_L223 L x1) N = k223 at hk223 ⊢
    unfold fB_X8_outs_L223
    refine Ep_ite (fun _ => ?_) (fun _ => ?_)
    · exact l9L_X8_outs_L261 L x1 hL 0 S
    · refine Ep_ck ?_
      refine Ep_ite (fun _ => ?_) (fun _ => ?_)
      · refine Ep_any (fun S_15 => ?_)
        refine Ep_lt (fun y18 ey18 => ?_)
        exact hk223 y18 S_15
      · refine Ep_lt (fun y14 ey14 => ?_)
        exact hk223 y14 S
set_option maxHeartbeats 1000000 in
set_option maxRecDepth 100000 in
theorem l9L_X8_outs_L223 {v90 : Int64} (L : Lo) (x1 : Int32) (hL : L 0 90 = v90)   (x3 : Int32) (S : Tr)  : Ep (fL_X8_outs_L223 L x1 x3 S) (fun q => q.2 0 90 = v90) := by
  unfold fL_X8_outs_L223
  exact l9B_X8_outs_L223 L x1 hL 2000 x3 S
set_option maxHeartbeats 1000000 in
set_option maxRecDepth 100000 in
theorem l9J_X8_outs_J209 {v90 : Int64} (x1 : Int32) (S : Tr) (L : Lo) (hL : L 0 90 = v90)   : Ep (fJ_X8_outs_J209 x1 S L) (fun q => q.2 0 90 = v90) := by
  unfold fJ_X8_outs_J209
  refine Ep_ck ?_
  refine Ep_ite (fun _ => ?_) (fun _ => ?_)
  · exact l9L_X8_outs_L223 L x1 hL 0 S
  · exact Ep_some hL
set_option maxHeartbeats 1000000 in
set_option maxRecDepth 100000 in
theorem l9J_X8_outs_J182 {v90 : Int64} (k9 : Int32 → Int32 → Tr → Lo → Option (Tr × Lo)) (x1 : Int32) (x2 : Int32) (x3 : Int32) (S : Tr) (L : Lo) (hL : L 0 90 = v90) (hk9 : ∀ (x2 : Int32) (x3 : Int32) (S : Tr) (L : Lo), L 0 90 = v90 → Ep (k9 x2 x3 S L) (fun q => q.2 0 90 = v90))  : Ep (fJ_X8_outs_J182 k9 x1 x2 x3 S L) (fun q => q.2 0 90 = v90) := by
  unfold fJ_X8_outs_J182
  refine Ep_any (fun r24 => ?_)
  refine Ep_ite (fun _ => ?_) (fun _ => ?_)
  · refine Ep_ck ?_
    refine Ep_lt (fun S_30 eS_30 => ?_)
    refine Ep_lt (fun y31 ey31 => ?_)
    exact hk9 x2 y31 S_30 L hL
  · refine Ep_lt (fun y28 ey28 => ?_)
    exact hk9 x2 y28 S L hL
set_option maxHeartbeats 1000000 in
set_option maxRecDepth 100000 in
theorem l9_X8_layNames {v90 : Int64} (S : Tr) (L : Lo) (x1 : Int32) (x2 : Int32) (x3 : Int32) (hL : L 0 90 = v90)   : Ep (f_X8_layNames S L x1 x2 x3) (fun q => q 0 90 = v90) := by
  unfold f_X8_layNames
  refine Ep_ck ?_
  refine Ep_lt (fun y2 ey2 => ?_)
  refine Ep_ck ?_
  refine Ep_lt (fun L_4 eL_4 => ?_)
  have hL_4 : L_4 0 90 = v90 := by rw [eL_4]; exact l90_s hL (by omega)
  refine Ep_lt (fun L_5 eL_5 => ?_)
  have hL_5 : L_5 0 90 = v90 := by rw [eL_5]; exact l90_s hL_4 (by omega)
  refine Ep_any (fun r6 => ?_)
  refine Ep_lt (fun L_9 eL_9 => ?_)
  have hL_9 : L_9 0 90 = v90 := by rw [eL_9]; exact l90_s hL_5 (by omega)
  refine Ep_ck ?_
  refine Ep_lt (fun L_11 eL_11 => ?_)
  have hL_11 : L_11 0 90 = v90 := by rw [eL_11]; exact l90_s hL_9 (by omega)
  refine Ep_any (fun r12 => ?_)
  refine Ep_lt (fun L_15 eL_15 => ?_)
  have hL_15 : L_15 0 90 = v90 := by rw [eL_15]; exact l90_s hL_11 (by omega)
  refine Ep_ck ?_
  refine Ep_lt (fun L_17 eL_17 => ?_)
  have hL_17 : L_17 0 90 = v90 := by rw [eL_17]; exact l90_s hL_15 (by omega)
  refine Ep_any (fun r18 => ?_)
  refine Ep_lt (fun L_21 eL_21 => ?_)
  have hL_21 : L_21 0 90 = v90 := by rw [eL_21]; exact l90_s hL_17 (by omega)
  exact Ep_some hL_21
set_option maxHeartbeats 1000000 in
set_option maxRecDepth 100000 in
theorem l9J_X8_lawOf_J39 {v90 : Int64} (x1 : Int32) (S : Tr) (L : Lo) (hL : L 0 90 = v90)   : Ep (fJ_X8_lawOf_J39 x1 S L) (fun q => q.2.2 0 90 = v90) := by
  unfold fJ_X8_lawOf_J39
  refine Ep_ite (fun _ => ?_) (fun _ => ?_)
  · refine Ep_ck ?_
    refine Ep_ck ?_
    exact Ep_some hL
  · exact Ep_some hL
set_option maxHeartbeats 1000000 in
set_option maxRecDepth 100000 in
theorem l9B_X8_lawOf_L12 {v90 : Int64} (x1 : Int32)    (N : Nat) : ∀ (x2 : Int32) (S : Tr) (L : Lo), L 0 90 = v90 → Ep (lpF (fun _ _ _ => none) (fB_X8_lawOf_L12 x1) N x2 S L) (fun q => q.2.2 0 90 = v90) := by
  induction N with
  | zero => intro x2 S L _; exact Ep_none
  | succ N ih =>
    intro x2 S L hL
    show Ep (fB_X8_lawOf_L12 x1 (lpF (fun _ _ _ => none) (fB_X8_lawOf_L12 x1) N) x2 S L) _
    have hk12 := ih
    clear ih
    generalize lpF (fun _ _ _ => none) (fB_X8_lawOf_L12 x1) N = k12 at hk12 ⊢
    unfold fB_X8_lawOf_L12
    refine Ep_ck ?_
    refine Ep_ite (fun _ => ?_) (fun _ => ?_)
    · exact l9J_X8_lawOf_J39 x1 S L hL
    · refine Ep_any (fun q => ?_)
      refine Ep_lt (fun r9 er9 => ?_)
      refine Ep_lt (fun S_10 eS_10 => ?_)
      refine Ep_ck ?_
      refine Ep_lt (fun L_14 eL_14 => ?_)
      have hL_14 : L_14 0 90 = v90 := by rw [eL_14]; exact l90_s hL (by omega)
      refine Ep_lt (fun y15 ey15 => ?_)
      exact hk12 y15 S_10 L_14 hL_14
set_option maxHeartbeats 1000000 in
set_option maxRecDepth 100000 in
theorem l9L_X8_lawOf_L12 {v90 : Int64} (x1 : Int32)    (x2 : Int32) (S : Tr) (L : Lo) (hL : L 0 90 = v90) : Ep (fL_X8_lawOf_L12 x1 x2 S L) (fun q => q.2.2 0 90 = v90) := by
  unfold fL_X8_lawOf_L12
  exact l9B_X8_lawOf_L12 x1 2000 x2 S L hL
set_option maxHeartbeats 1000000 in
set_option maxRecDepth 100000 in
theorem l9_X8_lawOf {v90 : Int64} (S : Tr) (L : Lo) (x1 : Int32) (hL : L 0 90 = v90)   : Ep (f_X8_lawOf S L x1) (fun q => q.2.2 0 90 = v90) := by
  unfold f_X8_lawOf
  refine Ep_lt (fun S_1 eS_1 => ?_)
  refine Ep_ck ?_
  refine Ep_lt (fun y3 ey3 => ?_)
  exact l9L_X8_lawOf_L12 x1 y3 S_1 L hL
set_option maxHeartbeats 1000000 in
set_option maxRecDepth 100000 in
theorem l9_X8_boundLaw {v90 : Int64} (S : Tr) (L : Lo) (x1 : Int32) (x2 : Int32) (x3 : Int32) (hL : L 0 90 = v90)   : Ep (f_X8_boundLaw S L x1 x2 x3) (fun q => q.2.2 0 90 = v90) := by
  unfold f_X8_boundLaw
  refine Ep_ck ?_
  refine Ep_ite (fun _ => ?_) (fun _ => ?_)
  · exact Ep_some hL
  · refine Ep_bd (l9_X8_lawOf S L x1 hL) (fun q hq => ?_)
    refine Ep_lt (fun r3 er3 => ?_)
    refine Ep_lt (fun S_4 eS_4 => ?_)
    refine Ep_lt (fun L_5 eL_5 => ?_)
    have hL_5 : L_5 0 90 = v90 := by rw [eL_5]; exact hq
    refine Ep_ite (fun _ => ?_) (fun _ => ?_)
    · refine Ep_ite (fun _ => ?_) (fun _ => ?_)
      · refine Ep_ite (fun _ => ?_) (fun _ => ?_)
        · exact Ep_some hL_5
        · exact Ep_some hL_5
      · exact Ep_some hL_5
    · exact Ep_some hL_5
set_option maxHeartbeats 1000000 in
set_option maxRecDepth 100000 in
theorem l9_X8_liftOf {v90 : Int64} (S : Tr) (L : Lo) (x1 : Int32) (x2 : Int32) (x3 : Int32) (hL : L 0 90 = v90)   : Ep (f_X8_liftOf S L x1 x2 x3) (fun q => q.2.2 0 90 = v90) := by
  unfold f_X8_liftOf
  refine Ep_bd (l9_X8_layNames S L x1 x2 x3 hL) (fun L_1 hL_1 => ?_)
  refine Ep_ck ?_
  refine Ep_any (fun r5 => ?_)
  refine Ep_ck ?_
  refine Ep_bd (l9_X8_boundLaw S L_1 (0 : Int32) (((S 31 x2.toNatClampNeg) / r5) + 1) (99 : Int32) hL_1) (fun q hq => ?_)
  refine Ep_lt (fun r9 er9 => ?_)
  refine Ep_lt (fun S_10 eS_10 => ?_)
  refine Ep_lt (fun L_11 eL_11 => ?_)
  have hL_11 : L_11 0 90 = v90 := by rw [eL_11]; exact hq
  exact Ep_some hL_11
set_option maxHeartbeats 1000000 in
set_option maxRecDepth 100000 in
theorem l9B_X8_secondsOf_L23 {v90 : Int64} (x1 : Int32) (x2 : Int32) (x3 : Int32)    (N : Nat) : ∀ (x4 : Int32) (x5 : Int32) (S : Tr) (L : Lo), L 0 90 = v90 → Ep (lpF (fun _ _ _ _ => none) (fB_X8_secondsOf_L23 x1 x2 x3) N x4 x5 S L) (fun q => q.2.2 0 90 = v90) := by
  induction N with
  | zero => intro x4 x5 S L _; exact Ep_none
  | succ N ih =>
    intro x4 x5 S L hL
    show Ep (fB_X8_secondsOf_L23 x1 x2 x3 (lpF (fun _ _ _ _ => none) (fB_X8_secondsOf_L23 x1 x2 x3) N) x4 x5 S L) _
    have hk23 := ih
    clear ih
    generalize lpF (fun _ _ _ _ => none) (fB_X8_secondsOf_L23 x1 x2 x3) N = k23 at hk23 ⊢
    unfold fB_X8_secondsOf_L23
    refine Ep_ck ?_
    refine Ep_ite (fun _ => ?_) (fun _ => ?_)
    · exact Ep_some hL
    · refine Ep_any (fun r8 => ?_)
      refine Ep_ck ?_
      refine Ep_bd (l9_X8_liftOf S L x1 r8 (S 30 x2.toNatClampNeg) hL) (fun q hq => ?_)
      refine Ep_lt (fun r12 er12 => ?_)
      refine Ep_lt (fun S_13 eS_13 => ?_)
      refine Ep_lt (fun L_14 eL_14 => ?_)
      have hL_14 : L_14 0 90 = v90 := by rw [eL_14]; exact hq
      refine Ep_lt (fun y17 ey17 => ?_)
      refine Ep_lt (fun y18 ey18 => ?_)
      exact hk23 y17 y18 S_13 L_14 hL_14
set_option maxHeartbeats 1000000 in
set_option maxRecDepth 100000 in
theorem l9L_X8_secondsOf_L23 {v90 : Int64} (x1 : Int32) (x2 : Int32) (x3 : Int32)    (x4 : Int32) (x5 : Int32) (S : Tr) (L : Lo) (hL : L 0 90 = v90) : Ep (fL_X8_secondsOf_L23 x1 x2 x3 x4 x5 S L) (fun q => q.2.2 0 90 = v90) := by
  unfold fL_X8_secondsOf_L23
  exact l9B_X8_secondsOf_L23 x1 x2 x3 2000 x4 x5 S L hL
set_option maxHeartbeats 1000000 in
set_option maxRecDepth 100000 in
theorem l9_X8_secondsOf {v90 : Int64} (S : Tr) (L : Lo) (x1 : Int32) (x2 : Int32) (hL : L 0 90 = v90)   : Ep (f_X8_secondsOf S L x1 x2) (fun q => q.2.2 0 90 = v90) := by
  unfold f_X8_secondsOf
  refine Ep_ck ?_
  refine Ep_lt (fun y2 ey2 => ?_)
  refine Ep_any (fun r3 => ?_)
  exact l9L_X8_secondsOf_L23 x1 x2 y2 0 r3 S L hL
set_option maxHeartbeats 1000000 in
set_option maxRecDepth 100000 in
theorem l9J_X8_outs_J117 {v90 : Int64} (k9 : Int32 → Int32 → Tr → Lo → Option (Tr × Lo)) (k32 : Int32 → Int32 → Tr → Lo → Option (Tr × Lo)) (x1 : Int32) (x3 : Int32) (x4 : Int32) (x5 : Int32) (s0 : Int32) (S : Tr) (L : Lo) (hL : L 0 90 = v90) (hk9 : ∀ (x2 : Int32) (x3 : Int32) (S : Tr) (L : Lo), L 0 90 = v90 → Ep (k9 x2 x3 S L) (fun q => q.2 0 90 = v90)) (hk32 : ∀ (x2 : Int32) (x4 : Int32) (S : Tr) (L : Lo), L 0 90 = v90 → Ep (k32 x2 x4 S L) (fun q => q.2 0 90 = v90))  : Ep (fJ_X8_outs_J117 k9 k32 x1 x3 x4 x5 s0 S L) (fun q => q.2 0 90 = v90) := by
  unfold fJ_X8_outs_J117
  refine Ep_ite (fun _ => ?_) (fun _ => ?_)
  · refine Ep_lt (fun y56 ey56 => ?_)
    exact hk32 s0 y56 S L hL
  · refine Ep_lt (fun S_44 eS_44 => ?_)
    refine Ep_ck ?_
    refine Ep_lt (fun S_46 eS_46 => ?_)
    refine Ep_ck ?_
    refine Ep_any (fun r48 => ?_)
    refine Ep_lt (fun S_51 eS_51 => ?_)
    refine Ep_any (fun S_52 => ?_)
    refine Ep_lt (fun y55 ey55 => ?_)
    exact hk32 s0 y55 S_52 L hL
set_option maxHeartbeats 1000000 in
set_option maxRecDepth 100000 in
theorem l9J_X8_outs_J116 {v90 : Int64} (k9 : Int32 → Int32 → Tr → Lo → Option (Tr × Lo)) (k32 : Int32 → Int32 → Tr → Lo → Option (Tr × Lo)) (x1 : Int32) (x3 : Int32) (x4 : Int32) (x5 : Int32) (S : Tr) (L : Lo) (hL : L 0 90 = v90) (hk9 : ∀ (x2 : Int32) (x3 : Int32) (S : Tr) (L : Lo), L 0 90 = v90 → Ep (k9 x2 x3 S L) (fun q => q.2 0 90 = v90)) (hk32 : ∀ (x2 : Int32) (x4 : Int32) (S : Tr) (L : Lo), L 0 90 = v90 → Ep (k32 x2 x4 S L) (fun q => q.2 0 90 = v90))  : Ep (fJ_X8_outs_J116 k9 k32 x1 x3 x4 x5 S L) (fun q => q.2 0 90 = v90) := by
  unfold fJ_X8_outs_J116
  exact l9J_X8_outs_J117 k9 k32 x1 x3 x4 x5 0 S L hL hk9 hk32
set_option maxHeartbeats 1000000 in
set_option maxRecDepth 100000 in
theorem l9J_X8_outs_J112 {v90 : Int64} (k9 : Int32 → Int32 → Tr → Lo → Option (Tr × Lo)) (k32 : Int32 → Int32 → Tr → Lo → Option (Tr × Lo)) (x1 : Int32) (x3 : Int32) (x4 : Int32) (x5 : Int32) (S : Tr) (L : Lo) (hL : L 0 90 = v90) (hk9 : ∀ (x2 : Int32) (x3 : Int32) (S : Tr) (L : Lo), L 0 90 = v90 → Ep (k9 x2 x3 S L) (fun q => q.2 0 90 = v90)) (hk32 : ∀ (x2 : Int32) (x4 : Int32) (S : Tr) (L : Lo), L 0 90 = v90 → Ep (k32 x2 x4 S L) (fun q => q.2 0 90 = v90))  : Ep (fJ_X8_outs_J112 k9 k32 x1 x3 x4 x5 S L) (fun q => q.2 0 90 = v90) := by
  unfold fJ_X8_outs_J112
  exact l9J_X8_outs_J117 k9 k32 x1 x3 x4 x5 1 S L hL hk9 hk32
set_option maxHeartbeats 1000000 in
set_option maxRecDepth 100000 in
theorem l9B_X8_outs_L32 {v90 : Int64} (k9 : Int32 → Int32 → Tr → Lo → Option (Tr × Lo)) (x1 : Int32) (x3 : Int32)  (hk9 : ∀ (x2 : Int32) (x3 : Int32) (S : Tr) (L : Lo), L 0 90 = v90 → Ep (k9 x2 x3 S L) (fun q => q.2 0 90 = v90))  (N : Nat) : ∀ (x2 : Int32) (x4 : Int32) (S : Tr) (L : Lo), L 0 90 = v90 → Ep (lpF (fun _ _ _ _ => none) (fB_X8_outs_L32 k9 x1 x3) N x2 x4 S L) (fun q => q.2 0 90 = v90) := by
  induction N with
  | zero => intro x2 x4 S L _; exact Ep_none
  | succ N ih =>
    intro x2 x4 S L hL
    show Ep (fB_X8_outs_L32 k9 x1 x3 (lpF (fun _ _ _ _ => none) (fB_X8_outs_L32 k9 x1 x3) N) x2 x4 S L) _
    have hk32 := ih
    clear ih
    generalize lpF (fun _ _ _ _ => none) (fB_X8_outs_L32 k9 x1 x3) N = k32 at hk32 ⊢
    unfold fB_X8_outs_L32
    refine Ep_ite (fun _ => ?_) (fun _ => ?_)
    · exact l9J_X8_outs_J182 k9 x1 x2 x3 S L hL hk9
    · refine Ep_ck ?_
      refine Ep_ite (fun _ => ?_) (fun _ => ?_)
      · refine Ep_ck ?_
        refine Ep_ite (fun _ => ?_) (fun _ => ?_)
        · refine Ep_bd (l9_X8_secondsOf S L x1 x4 hL) (fun q hq => ?_)
          refine Ep_lt (fun r37 er37 => ?_)
          refine Ep_lt (fun S_38 eS_38 => ?_)
          refine Ep_lt (fun L_39 eL_39 => ?_)
          have hL_39 : L_39 0 90 = v90 := by rw [eL_39]; exact hq
          refine Ep_ite (fun _ => ?_) (fun _ => ?_)
          · exact l9J_X8_outs_J116 k9 k32 x1 x3 x4 r37 S_38 L_39 hL_39 hk9 hk32
          · refine Ep_ite (fun _ => ?_) (fun _ => ?_)
            · refine Ep_ck ?_
              refine Ep_ck ?_
              refine Ep_ite (fun _ => ?_) (fun _ => ?_)
              · exact l9J_X8_outs_J116 k9 k32 x1 x3 x4 r37 S_38 L_39 hL_39 hk9 hk32
              · exact l9J_X8_outs_J112 k9 k32 x1 x3 x4 r37 S_38 L_39 hL_39 hk9 hk32
            · exact l9J_X8_outs_J112 k9 k32 x1 x3 x4 r37 S_38 L_39 hL_39 hk9 hk32
        · refine Ep_lt (fun y61 ey61 => ?_)
          exact hk32 x2 y61 S L hL
      · refine Ep_lt (fun y34 ey34 => ?_)
        exact hk32 x2 y34 S L hL
set_option maxHeartbeats 1000000 in
set_option maxRecDepth 100000 in
theorem l9L_X8_outs_L32 {v90 : Int64} (k9 : Int32 → Int32 → Tr → Lo → Option (Tr × Lo)) (x1 : Int32) (x3 : Int32)  (hk9 : ∀ (x2 : Int32) (x3 : Int32) (S : Tr) (L : Lo), L 0 90 = v90 → Ep (k9 x2 x3 S L) (fun q => q.2 0 90 = v90))  (x2 : Int32) (x4 : Int32) (S : Tr) (L : Lo) (hL : L 0 90 = v90) : Ep (fL_X8_outs_L32 k9 x1 x3 x2 x4 S L) (fun q => q.2 0 90 = v90) := by
  unfold fL_X8_outs_L32
  exact l9B_X8_outs_L32 k9 x1 x3 hk9 2000 x2 x4 S L hL
set_option maxHeartbeats 1000000 in
set_option maxRecDepth 100000 in
theorem l9B_X8_outs_L9 {v90 : Int64} (x1 : Int32)    (N : Nat) : ∀ (x2 : Int32) (x3 : Int32) (S : Tr) (L : Lo), L 0 90 = v90 → Ep (lpF (fun _ _ _ _ => none) (fB_X8_outs_L9 x1) N x2 x3 S L) (fun q => q.2 0 90 = v90) := by
  induction N with
  | zero => intro x2 x3 S L _; exact Ep_none
  | succ N ih =>
    intro x2 x3 S L hL
    show Ep (fB_X8_outs_L9 x1 (lpF (fun _ _ _ _ => none) (fB_X8_outs_L9 x1) N) x2 x3 S L) _
    have hk9 := ih
    clear ih
    generalize lpF (fun _ _ _ _ => none) (fB_X8_outs_L9 x1) N = k9 at hk9 ⊢
    unfold fB_X8_outs_L9
    refine Ep_ite (fun _ => ?_) (fun _ => ?_)
    · exact l9J_X8_outs_J209 x1 S L hL
    · refine Ep_any (fun r19 => ?_)
      refine Ep_ite (fun _ => ?_) (fun _ => ?_)
      · refine Ep_lt (fun y62 ey62 => ?_)
        exact hk9 x2 y62 S L hL
      · exact l9L_X8_outs_L32 k9 x1 x3 hk9 x2 0 S L hL
set_option maxHeartbeats 1000000 in
set_option maxRecDepth 100000 in
theorem l9L_X8_outs_L9 {v90 : Int64} (x1 : Int32)    (x2 : Int32) (x3 : Int32) (S : Tr) (L : Lo) (hL : L 0 90 = v90) : Ep (fL_X8_outs_L9 x1 x2 x3 S L) (fun q => q.2 0 90 = v90) := by
  unfold fL_X8_outs_L9
  exact l9B_X8_outs_L9 x1 2000 x2 x3 S L hL
set_option maxHeartbeats 1000000 in
set_option maxRecDepth 100000 in
theorem l9_X8_outs {v90 : Int64} (S : Tr) (L : Lo) (x1 : Int32) (hL : L 0 90 = v90)   : Ep (f_X8_outs S L x1) (fun q => q.2 0 90 = v90) := by
  unfold f_X8_outs
  refine Ep_lt (fun S_1 eS_1 => ?_)
  exact l9L_X8_outs_L9 x1 1 0 S_1 L hL
set_option maxHeartbeats 1000000 in
set_option maxRecDepth 100000 in
theorem l9J_X8_goOn_J26 {v90 : Int64} (x1 : Int32) (S : Tr) (L : Lo) (hL : L 0 90 = v90)   : Ep (fJ_X8_goOn_J26 x1 S L) (fun q => q.2 0 90 = v90) := by
  unfold fJ_X8_goOn_J26
  refine Ep_ck ?_
  refine Ep_lt (fun S_11 eS_11 => ?_)
  exact Ep_some hL
set_option maxHeartbeats 1000000 in
set_option maxRecDepth 100000 in
theorem l9_X8_number1 {v90 : Int64} (L : Lo) (x1 : Int32) (hL : L 0 90 = v90)   : Ep (f_X8_number1 L x1) (fun q => q.2 0 90 = v90) := by
  unfold f_X8_number1
  refine Ep_lt (fun L_1 eL_1 => ?_)
  have hL_1 : L_1 0 90 = v90 := by rw [eL_1]; exact l90_s hL (by omega)
  refine Ep_ck ?_
  exact Ep_some hL_1
set_option maxHeartbeats 1000000 in
set_option maxRecDepth 100000 in
theorem l9_X8_isDrawn {v90 : Int64} (S : Tr) (L : Lo) (x1 : Int32) (hL : L 0 90 = v90)   : Ep (f_X8_isDrawn S L x1) (fun q => q.2 0 90 = v90) := by
  unfold f_X8_isDrawn
  refine Ep_ite (fun _ => ?_) (fun _ => ?_)
  · refine Ep_ite (fun _ => ?_) (fun _ => ?_)
    · exact Ep_some hL
    · exact Ep_some hL
  · refine Ep_bd (l9_X8_number1 L (100 : Int32) hL) (fun q hq => ?_)
    refine Ep_lt (fun r3 er3 => ?_)
    refine Ep_lt (fun L_4 eL_4 => ?_)
    have hL_4 : L_4 0 90 = v90 := by rw [eL_4]; exact hq
    refine Ep_ite (fun _ => ?_) (fun _ => ?_)
    · exact Ep_some hL_4
    · exact Ep_some hL_4
set_option maxHeartbeats 1000000 in
set_option maxRecDepth 100000 in
theorem l9B_X8_onTheWay_L90 {v90 : Int64} (x1 : Int32)    (N : Nat) : ∀ (x2 : Int32) (S : Tr) (L : Lo), L 0 90 = v90 → Ep (lpF (fun _ _ _ => none) (fB_X8_onTheWay_L90 x1) N x2 S L) (fun q => q.2 0 90 = v90) := by
  induction N with
  | zero => intro x2 S L _; exact Ep_none
  | succ N ih =>
    intro x2 S L hL
    show Ep (fB_X8_onTheWay_L90 x1 (lpF (fun _ _ _ => none) (fB_X8_onTheWay_L90 x1) N) x2 S L) _
    have hk90 := ih
    clear ih
    generalize lpF (fun _ _ _ => none) (fB_X8_onTheWay_L90 x1) N = k90 at hk90 ⊢
    unfold fB_X8_onTheWay_L90
    refine Ep_ite (fun _ => ?_) (fun _ => ?_)
    · exact Ep_some hL
    · refine Ep_ite (fun _ => ?_) (fun _ => ?_)
      · refine Ep_ck ?_
        refine Ep_ite (fun _ => ?_) (fun _ => ?_)
        · refine Ep_ck ?_
          refine Ep_ite (fun _ => ?_) (fun _ => ?_)
          · refine Ep_ck ?_
            refine Ep_bd (l9_X8_layNames S L x1 x2 (S 30 x2.toNatClampNeg) hL) (fun L_10 hL_10 => ?_)
            refine Ep_bd (l9_X8_boundLaw S L_10 (2 : Int32) (10 : Int32) (100 : Int32) hL_10) (fun q hq => ?_)
            refine Ep_lt (fun r13 er13 => ?_)
            refine Ep_lt (fun S_14 eS_14 => ?_)
            refine Ep_lt (fun L_15 eL_15 => ?_)
            have hL_15 : L_15 0 90 = v90 := by rw [eL_15]; exact hq
            refine Ep_bd (l9_X8_isDrawn S_14 L_15 r13 hL_15) (fun q hq => ?_)
            refine Ep_lt (fun r18 er18 => ?_)
            refine Ep_lt (fun L_19 eL_19 => ?_)
            have hL_19 : L_19 0 90 = v90 := by rw [eL_19]; exact hq
            refine Ep_ite (fun _ => ?_) (fun _ => ?_)
            · refine Ep_lt (fun y23 ey23 => ?_)
              exact hk90 y23 S_14 L_19 hL_19
            · refine Ep_any (fun S_24 => ?_)
              refine Ep_lt (fun y27 ey27 => ?_)
              exact hk90 y27 S_24 L_19 hL_19
          · refine Ep_lt (fun y28 ey28 => ?_)
            exact hk90 y28 S L hL
        · refine Ep_lt (fun y6 ey6 => ?_)
          exact hk90 y6 S L hL
      · exact Ep_some hL
set_option maxHeartbeats 1000000 in
set_option maxRecDepth 100000 in
theorem l9L_X8_onTheWay_L90 {v90 : Int64} (x1 : Int32)    (x2 : Int32) (S : Tr) (L : Lo) (hL : L 0 90 = v90) : Ep (fL_X8_onTheWay_L90 x1 x2 S L) (fun q => q.2 0 90 = v90) := by
  unfold fL_X8_onTheWay_L90
  exact l9B_X8_onTheWay_L90 x1 2000 x2 S L hL
set_option maxHeartbeats 1000000 in
set_option maxRecDepth 100000 in
theorem l9J_X8_fallOf_J58 {v90 : Int64} (s0 : Int32) (s1 : Int32) (S : Tr) (L : Lo) (hL : L 0 90 = v90)   : Ep (fJ_X8_fallOf_J58 s0 s1 S L) (fun q => q.2.2 0 90 = v90) := by
  unfold fJ_X8_fallOf_J58
  refine Ep_bd (l9_X8_boundLaw S L s1 s0 (100 : Int32) hL) (fun q hq => ?_)
  refine Ep_lt (fun r11 er11 => ?_)
  refine Ep_lt (fun S_12 eS_12 => ?_)
  refine Ep_lt (fun L_13 eL_13 => ?_)
  have hL_13 : L_13 0 90 = v90 := by rw [eL_13]; exact hq
  exact Ep_some hL_13
set_option maxHeartbeats 1000000 in
set_option maxRecDepth 100000 in
theorem l9J_X8_fallOf_J17 {v90 : Int64} (x1 : Int32) (x2 : Int32) (s0 : Int32) (S : Tr) (L : Lo) (hL : L 0 90 = v90)   : Ep (fJ_X8_fallOf_J17 x1 x2 s0 S L) (fun q => q.2.2 0 90 = v90) := by
  unfold fJ_X8_fallOf_J17
  refine Ep_any (fun r2 => ?_)
  refine Ep_ck ?_
  refine Ep_lt (fun y6 ey6 => ?_)
  refine Ep_bd (l9_X8_layNames S L x1 x2 (S 30 x2.toNatClampNeg) hL) (fun L_7 hL_7 => ?_)
  refine Ep_ite (fun _ => ?_) (fun _ => ?_)
  · exact l9J_X8_fallOf_J58 y6 1 S L_7 hL_7
  · exact l9J_X8_fallOf_J58 0 1 S L_7 hL_7
set_option maxHeartbeats 1000000 in
set_option maxRecDepth 100000 in
theorem l9_X8_fallOf {v90 : Int64} (S : Tr) (L : Lo) (x1 : Int32) (x2 : Int32) (hL : L 0 90 = v90)   : Ep (f_X8_fallOf S L x1 x2) (fun q => q.2.2 0 90 = v90) := by
  unfold f_X8_fallOf
  refine Ep_ite (fun _ => ?_) (fun _ => ?_)
  · exact l9J_X8_fallOf_J17 x1 x2 (S 23 1) S L hL
  · exact l9J_X8_fallOf_J17 x1 x2 0 S L hL
set_option maxHeartbeats 1000000 in
set_option maxRecDepth 100000 in
theorem l9B_X8_onTheWay_L2 {v90 : Int64} (x1 : Int32)    (N : Nat) : ∀ (x2 : Int32) (S : Tr) (L : Lo), L 0 90 = v90 → Ep (lpF (fun _ _ _ => none) (fB_X8_onTheWay_L2 x1) N x2 S L) (fun q => q.2 0 90 = v90) := by
  induction N with
  | zero => intro x2 S L _; exact Ep_none
  | succ N ih =>
    intro x2 S L hL
    show Ep (fB_X8_onTheWay_L2 x1 (lpF (fun _ _ _ => none) (fB_X8_onTheWay_L2 x1) N) x2 S L) _
    have hk2 := ih
    clear ih
    generalize lpF (fun _ _ _ => none) (fB_X8_onTheWay_L2 x1) N = k2 at hk2 ⊢
    unfold fB_X8_onTheWay_L2
    refine Ep_ite (fun _ => ?_) (fun _ => ?_)
    · exact l9L_X8_onTheWay_L90 x1 0 S L hL
    · refine Ep_ite (fun _ => ?_) (fun _ => ?_)
      · refine Ep_ck ?_
        refine Ep_ite (fun _ => ?_) (fun _ => ?_)
        · refine Ep_lt (fun y32 ey32 => ?_)
          exact hk2 y32 S L hL
        · refine Ep_ck ?_
          refine Ep_ite (fun _ => ?_) (fun _ => ?_)
          · refine Ep_lt (fun y53 ey53 => ?_)
            exact hk2 y53 S L hL
          · refine Ep_any (fun r35 => ?_)
            refine Ep_bd (l9_X8_fallOf S L x1 r35 hL) (fun q hq => ?_)
            refine Ep_lt (fun r38 er38 => ?_)
            refine Ep_lt (fun S_39 eS_39 => ?_)
            refine Ep_lt (fun L_40 eL_40 => ?_)
            have hL_40 : L_40 0 90 = v90 := by rw [eL_40]; exact hq
            refine Ep_bd (l9_X8_isDrawn S_39 L_40 r38 hL_40) (fun q hq => ?_)
            refine Ep_lt (fun r43 er43 => ?_)
            refine Ep_lt (fun L_44 eL_44 => ?_)
            have hL_44 : L_44 0 90 = v90 := by rw [eL_44]; exact hq
            refine Ep_ite (fun _ => ?_) (fun _ => ?_)
            · refine Ep_lt (fun y48 ey48 => ?_)
              exact hk2 y48 S_39 L_44 hL_44
            · refine Ep_any (fun S_49 => ?_)
              refine Ep_lt (fun y52 ey52 => ?_)
              exact hk2 y52 S_49 L_44 hL_44
      · exact l9L_X8_onTheWay_L90 x1 0 S L hL
set_option maxHeartbeats 1000000 in
set_option maxRecDepth 100000 in
theorem l9L_X8_onTheWay_L2 {v90 : Int64} (x1 : Int32)    (x2 : Int32) (S : Tr) (L : Lo) (hL : L 0 90 = v90) : Ep (fL_X8_onTheWay_L2 x1 x2 S L) (fun q => q.2 0 90 = v90) := by
  unfold fL_X8_onTheWay_L2
  exact l9B_X8_onTheWay_L2 x1 2000 x2 S L hL
set_option maxHeartbeats 1000000 in
set_option maxRecDepth 100000 in
theorem l9_X8_onTheWay {v90 : Int64} (S : Tr) (L : Lo) (x1 : Int32) (hL : L 0 90 = v90)   : Ep (f_X8_onTheWay S L x1) (fun q => q.2 0 90 = v90) := by
  unfold f_X8_onTheWay
  exact l9L_X8_onTheWay_L2 x1 0 S L hL
set_option maxHeartbeats 1000000 in
set_option maxRecDepth 100000 in
theorem l9_X8_goOn {v90 : Int64} (S : Tr) (L : Lo) (x1 : Int32) (hL : L 0 90 = v90)   : Ep (f_X8_goOn S L x1) (fun q => q.2 0 90 = v90) := by
  unfold f_X8_goOn
  refine Ep_bd (l9_X8_outs S L x1 hL) (fun q hq => ?_)
  refine Ep_lt (fun S_1 eS_1 => ?_)
  refine Ep_lt (fun L_2 eL_2 => ?_)
  have hL_2 : L_2 0 90 = v90 := by rw [eL_2]; exact hq
  refine Ep_any (fun S_5 => ?_)
  refine Ep_ck ?_
  refine Ep_ite (fun _ => ?_) (fun _ => ?_)
  · exact l9J_X8_goOn_J26 x1 S_5 L_2 hL_2
  · refine Ep_bd (l9_X8_onTheWay S_5 L_2 x1 hL_2) (fun q hq => ?_)
    refine Ep_lt (fun S_12 eS_12 => ?_)
    refine Ep_lt (fun L_13 eL_13 => ?_)
    have hL_13 : L_13 0 90 = v90 := by rw [eL_13]; exact hq
    exact l9J_X8_goOn_J26 x1 S_12 L_13 hL_13
set_option maxHeartbeats 1000000 in
set_option maxRecDepth 100000 in
theorem l9B_X8_go_L41 {v90 : Int64} (x1 : Int32)    (N : Nat) : ∀ (x2 : Int32) (S : Tr) (L : Lo), L 0 90 = v90 → Ep (lpF (fun _ _ _ => none) (fB_X8_go_L41 x1) N x2 S L) (fun q => q.2.2 0 90 = v90) := by
  induction N with
  | zero => intro x2 S L _; exact Ep_none
  | succ N ih =>
    intro x2 S L hL
    show Ep (fB_X8_go_L41 x1 (lpF (fun _ _ _ => none) (fB_X8_go_L41 x1) N) x2 S L) _
    have hk41 := ih
    clear ih
    generalize lpF (fun _ _ _ => none) (fB_X8_go_L41 x1) N = k41 at hk41 ⊢
    unfold fB_X8_go_L41
    refine Ep_ite (fun _ => ?_) (fun _ => ?_)
    · exact l9J_X8_go_J57 x1 S L hL
    · refine Ep_bd (l9_X8_goOn S L (0 : Int32) hL) (fun q hq => ?_)
      refine Ep_lt (fun S_15 eS_15 => ?_)
      refine Ep_lt (fun L_16 eL_16 => ?_)
      have hL_16 : L_16 0 90 = v90 := by rw [eL_16]; exact hq
      refine Ep_lt (fun y19 ey19 => ?_)
      exact hk41 y19 S_15 L_16 hL_16
set_option maxHeartbeats 1000000 in
set_option maxRecDepth 100000 in
theorem l9L_X8_go_L41 {v90 : Int64} (x1 : Int32)    (x2 : Int32) (S : Tr) (L : Lo) (hL : L 0 90 = v90) : Ep (fL_X8_go_L41 x1 x2 S L) (fun q => q.2.2 0 90 = v90) := by
  unfold fL_X8_go_L41
  exact l9B_X8_go_L41 x1 2000 x2 S L hL
set_option maxHeartbeats 1000000 in
set_option maxRecDepth 100000 in
theorem l9_X8_go {v90 : Int64} (S : Tr) (L : Lo) (x1 : Int32) (hL : L 0 90 = v90)   : Ep (f_X8_go S L x1) (fun q => q.2.2 0 90 = v90) := by
  unfold f_X8_go
  refine Ep_lt (fun S_1 eS_1 => ?_)
  refine Ep_any (fun r2 => ?_)
  refine Ep_ite (fun _ => ?_) (fun _ => ?_)
  · exact Ep_some hL
  · refine Ep_ite (fun _ => ?_) (fun _ => ?_)
    · refine Ep_any (fun S_7 => ?_)
      refine Ep_lt (fun S_10 eS_10 => ?_)
      exact l9L_X8_go_L41 x1 0 S_10 L hL
    · exact Ep_some hL
set_option maxHeartbeats 1000000 in
set_option maxRecDepth 100000 in
theorem l9_X8_law {v90 : Int64} (S : Tr) (L : Lo) (x1 : Int32) (x2 : Int32) (hL : L 0 90 = v90)   : Ep (f_X8_law S L x1 x2) (fun q => q.2.2 0 90 = v90) := by
  unfold f_X8_law
  refine Ep_lt (fun S_1 eS_1 => ?_)
  refine Ep_any (fun r2 => ?_)
  refine Ep_ite (fun _ => ?_) (fun _ => ?_)
  · exact Ep_some hL
  · refine Ep_ck ?_
    refine Ep_ite (fun _ => ?_) (fun _ => ?_)
    · exact Ep_some hL
    · refine Ep_any (fun r8 => ?_)
      refine Ep_ite (fun _ => ?_) (fun _ => ?_)
      · exact Ep_some hL
      · refine Ep_ck ?_
        refine Ep_ite (fun _ => ?_) (fun _ => ?_)
        · refine Ep_any (fun S_14 => ?_)
          refine Ep_bd (l9_X8_layNames S_14 L (0 : Int32) x2 (S_14 30 x2.toNatClampNeg) hL) (fun L_17 hL_17 => ?_)
          refine Ep_bd (l9_X8_lawOf S_14 L_17 x1 hL_17) (fun q hq => ?_)
          refine Ep_lt (fun r20 er20 => ?_)
          refine Ep_lt (fun S_21 eS_21 => ?_)
          refine Ep_lt (fun L_22 eL_22 => ?_)
          have hL_22 : L_22 0 90 = v90 := by rw [eL_22]; exact hq
          refine Ep_ite (fun _ => ?_) (fun _ => ?_)
          · exact Ep_some hL_22
          · exact Ep_some hL_22
        · exact Ep_some hL
set_option maxHeartbeats 1000000 in
set_option maxRecDepth 100000 in
theorem l9J_X8_least_J279 {v90 : Int64} (x1 : Int32) (x2 : Int32) (x3 : Int32) (S : Tr) (L : Lo) (hL : L 0 90 = v90)   : Ep (fJ_X8_least_J279 x1 x2 x3 S L) (fun q => q.2.2 0 90 = v90) := by
  unfold fJ_X8_least_J279
  refine Ep_ite (fun _ => ?_) (fun _ => ?_)
  · refine Ep_ite (fun _ => ?_) (fun _ => ?_)
    · exact Ep_some hL
    · refine Ep_ite (fun _ => ?_) (fun _ => ?_)
      · refine Ep_ck ?_
        exact Ep_some hL
      · exact Ep_some hL
  · exact Ep_some hL
set_option maxHeartbeats 1000000 in
set_option maxRecDepth 100000 in
theorem l9B_X8_toEnd_L0 {v90 : Int64}     (N : Nat) : ∀ (S : Tr) (L : Lo), L 0 90 = v90 → Ep (lpF (fun _ _ => none) (fB_X8_toEnd_L0) N S L) (fun q => q.2 0 90 = v90) := by
  induction N with
  | zero => intro S L _; exact Ep_none
  | succ N ih =>
    intro S L hL
    show Ep (fB_X8_toEnd_L0 (lpF (fun _ _ => none) (fB_X8_toEnd_L0) N) S L) _
    have hk0 := ih
    clear ih
    generalize lpF (fun _ _ => none) (fB_X8_toEnd_L0) N = k0 at hk0 ⊢
    unfold fB_X8_toEnd_L0
    refine Ep_ite (fun _ => ?_) (fun _ => ?_)
    · exact Ep_some hL
    · refine Ep_bd (l9_X8_goOn S L (1 : Int32) hL) (fun q hq => ?_)
      refine Ep_lt (fun S_2 eS_2 => ?_)
      refine Ep_lt (fun L_3 eL_3 => ?_)
      have hL_3 : L_3 0 90 = v90 := by rw [eL_3]; exact hq
      exact hk0 S_2 L_3 hL_3
set_option maxHeartbeats 1000000 in
set_option maxRecDepth 100000 in
theorem l9L_X8_toEnd_L0 {v90 : Int64}     (S : Tr) (L : Lo) (hL : L 0 90 = v90) : Ep (fL_X8_toEnd_L0 S L) (fun q => q.2 0 90 = v90) := by
  unfold fL_X8_toEnd_L0
  exact l9B_X8_toEnd_L0 2000 S L hL
set_option maxHeartbeats 1000000 in
set_option maxRecDepth 100000 in
theorem l9_X8_toEnd {v90 : Int64} (S : Tr) (L : Lo) (hL : L 0 90 = v90)   : Ep (f_X8_toEnd S L) (fun q => q.2 0 90 = v90) := by
  unfold f_X8_toEnd
  exact l9L_X8_toEnd_L0 S L hL
set_option maxHeartbeats 1000000 in
set_option maxRecDepth 100000 in
theorem l9B_X8_least_L233 {v90 : Int64} (k79 : Int32 → Int32 → Tr → Lo → Option (Int32 × Tr × Lo)) (L : Lo) (x1 : Int32) (x2 : Int32) (x3 : Int32) (x4 : Int32) (hL : L 0 90 = v90) (hk79 : ∀ (x3 : Int32) (x4 : Int32) (S : Tr) (L : Lo), L 0 90 = v90 → Ep (k79 x3 x4 S L) (fun q => q.2.2 0 90 = v90))  (N : Nat) : ∀ (x6 : Int32) (S : Tr), Ep (lpF (fun _ _ => none) (fB_X8_least_L233 k79 L x1 x2 x3 x4) N x6 S) (fun q => q.2.2 0 90 = v90) := by
  induction N with
  | zero => intro x6 S; exact Ep_none
  | succ N ih =>
    intro x6 S
    show Ep (fB_X8_least_L233 k79 L x1 x2 x3 x4 (lpF (fun _ _ => none) (fB_X8_least_L233 k79 L x1 x2 x3 x4) N) x6 S) _
    have hk233 := ih
    clear ih
    generalize lpF (fun _ _ => none) (fB_X8_least_L233 k79 L x1 x2 x3 x4) N = k233 at hk233 ⊢
    unfold fB_X8_least_L233
    refine Ep_ite (fun _ => ?_) (fun _ => ?_)
    · refine Ep_lt (fun y35 ey35 => ?_)
      exact hk79 x3 y35 S L hL
    · refine Ep_any (fun r36 => ?_)
      refine Ep_ck ?_
      refine Ep_ck ?_
      refine Ep_ck ?_
      refine Ep_lt (fun S_42 eS_42 => ?_)
      refine Ep_lt (fun y43 ey43 => ?_)
      exact hk233 y43 S_42
set_option maxHeartbeats 1000000 in
set_option maxRecDepth 100000 in
theorem l9L_X8_least_L233 {v90 : Int64} (k79 : Int32 → Int32 → Tr → Lo → Option (Int32 × Tr × Lo)) (L : Lo) (x1 : Int32) (x2 : Int32) (x3 : Int32) (x4 : Int32) (hL : L 0 90 = v90) (hk79 : ∀ (x3 : Int32) (x4 : Int32) (S : Tr) (L : Lo), L 0 90 = v90 → Ep (k79 x3 x4 S L) (fun q => q.2.2 0 90 = v90))  (x6 : Int32) (S : Tr)  : Ep (fL_X8_least_L233 k79 L x1 x2 x3 x4 x6 S) (fun q => q.2.2 0 90 = v90) := by
  unfold fL_X8_least_L233
  exact l9B_X8_least_L233 k79 L x1 x2 x3 x4 hL hk79 2000 x6 S
set_option maxHeartbeats 1000000 in
set_option maxRecDepth 100000 in
theorem l9J_X8_least_J225 {v90 : Int64} (k79 : Int32 → Int32 → Tr → Lo → Option (Int32 × Tr × Lo)) (x1 : Int32) (x2 : Int32) (x4 : Int32) (S : Tr) (L : Lo) (hL : L 0 90 = v90) (hk79 : ∀ (x3 : Int32) (x4 : Int32) (S : Tr) (L : Lo), L 0 90 = v90 → Ep (k79 x3 x4 S L) (fun q => q.2.2 0 90 = v90))  : Ep (fJ_X8_least_J225 k79 x1 x2 x4 S L) (fun q => q.2.2 0 90 = v90) := by
  unfold fJ_X8_least_J225
  refine Ep_any (fun r31 => ?_)
  exact l9L_X8_least_L233 k79 L x1 x2 r31 x4 hL hk79 0 S
set_option maxHeartbeats 1000000 in
set_option maxRecDepth 100000 in
theorem l9J_X8_least_J198 {v90 : Int64} (k79 : Int32 → Int32 → Tr → Lo → Option (Int32 × Tr × Lo)) (x1 : Int32) (x2 : Int32) (x3 : Int32) (x4 : Int32) (x5 : Int32) (S : Tr) (L : Lo) (hL : L 0 90 = v90) (hk79 : ∀ (x3 : Int32) (x4 : Int32) (S : Tr) (L : Lo), L 0 90 = v90 → Ep (k79 x3 x4 S L) (fun q => q.2.2 0 90 = v90))  : Ep (fJ_X8_least_J198 k79 x1 x2 x3 x4 x5 S L) (fun q => q.2.2 0 90 = v90) := by
  unfold fJ_X8_least_J198
  refine Ep_ite (fun _ => ?_) (fun _ => ?_)
  · refine Ep_lt (fun y49 ey49 => ?_)
    exact hk79 x3 y49 S L hL
  · refine Ep_bd (l9_X8_toEnd S L hL) (fun q hq => ?_)
    refine Ep_lt (fun S_26 eS_26 => ?_)
    refine Ep_lt (fun L_27 eL_27 => ?_)
    have hL_27 : L_27 0 90 = v90 := by rw [eL_27]; exact hq
    refine Ep_ite (fun _ => ?_) (fun _ => ?_)
    · exact l9J_X8_least_J225 k79 x1 x2 x4 S_26 L_27 hL_27 hk79
    · refine Ep_any (fun r44 => ?_)
      refine Ep_ite (fun _ => ?_) (fun _ => ?_)
      · exact l9J_X8_least_J225 k79 x1 x2 x4 S_26 L_27 hL_27 hk79
      · refine Ep_lt (fun y48 ey48 => ?_)
        exact hk79 x3 y48 S_26 L_27 hL_27
set_option maxHeartbeats 1000000 in
set_option maxRecDepth 100000 in
theorem l9B_X8_least_L155 {v90 : Int64} (k79 : Int32 → Int32 → Tr → Lo → Option (Int32 × Tr × Lo)) (S : Tr) (L : Lo) (x1 : Int32) (x2 : Int32) (x3 : Int32) (x4 : Int32) (hL : L 0 90 = v90) (hk79 : ∀ (x3 : Int32) (x4 : Int32) (S : Tr) (L : Lo), L 0 90 = v90 → Ep (k79 x3 x4 S L) (fun q => q.2.2 0 90 = v90))  (N : Nat) : ∀ (x5 : Int32) (x6 : Int32), Ep (lpF (fun _ _ => none) (fB_X8_least_L155 k79 S L x1 x2 x3 x4) N x5 x6) (fun q => q.2.2 0 90 = v90) := by
  induction N with
  | zero => intro x5 x6; exact Ep_none
  | succ N ih =>
    intro x5 x6
    show Ep (fB_X8_least_L155 k79 S L x1 x2 x3 x4 (lpF (fun _ _ => none) (fB_X8_least_L155 k79 S L x1 x2 x3 x4) N) x5 x6) _
    have hk155 := ih
    clear ih
    generalize lpF (fun _ _ => none) (fB_X8_least_L155 k79 S L x1 x2 x3 x4) N = k155 at hk155 ⊢
    unfold fB_X8_least_L155
    refine Ep_ite (fun _ => ?_) (fun _ => ?_)
    · exact l9J_X8_least_J198 k79 x1 x2 x3 x4 x5 S L hL hk79
    · refine Ep_ite (fun _ => ?_) (fun _ => ?_)
      · refine Ep_lt (fun y51 ey51 => ?_)
        exact hk155 0 y51
      · refine Ep_ck ?_
        refine Ep_ck ?_
        refine Ep_ite (fun _ => ?_) (fun _ => ?_)
        · refine Ep_lt (fun y55 ey55 => ?_)
          exact hk155 0 y55
        · refine Ep_lt (fun y56 ey56 => ?_)
          exact hk155 1 y56
set_option maxHeartbeats 1000000 in
set_option maxRecDepth 100000 in
theorem l9L_X8_least_L155 {v90 : Int64} (k79 : Int32 → Int32 → Tr → Lo → Option (Int32 × Tr × Lo)) (S : Tr) (L : Lo) (x1 : Int32) (x2 : Int32) (x3 : Int32) (x4 : Int32) (hL : L 0 90 = v90) (hk79 : ∀ (x3 : Int32) (x4 : Int32) (S : Tr) (L : Lo), L 0 90 = v90 → Ep (k79 x3 x4 S L) (fun q => q.2.2 0 90 = v90))  (x5 : Int32) (x6 : Int32)  : Ep (fL_X8_least_L155 k79 S L x1 x2 x3 x4 x5 x6) (fun q => q.2.2 0 90 = v90) := by
  unfold fL_X8_least_L155
  exact l9B_X8_least_L155 k79 S L x1 x2 x3 x4 hL hk79 2000 x5 x6
set_option maxHeartbeats 1000000 in
set_option maxRecDepth 100000 in
theorem l9J_X8_least_J144 {v90 : Int64} (k79 : Int32 → Int32 → Tr → Lo → Option (Int32 × Tr × Lo)) (x1 : Int32) (x2 : Int32) (x3 : Int32) (x4 : Int32) (S : Tr) (L : Lo) (hL : L 0 90 = v90) (hk79 : ∀ (x3 : Int32) (x4 : Int32) (S : Tr) (L : Lo), L 0 90 = v90 → Ep (k79 x3 x4 S L) (fun q => q.2.2 0 90 = v90))  : Ep (fJ_X8_least_J144 k79 x1 x2 x3 x4 S L) (fun q => q.2.2 0 90 = v90) := by
  unfold fJ_X8_least_J144
  refine Ep_bd (l9_X8_goOn S L (1 : Int32) hL) (fun q hq => ?_)
  refine Ep_lt (fun S_20 eS_20 => ?_)
  refine Ep_lt (fun L_21 eL_21 => ?_)
  have hL_21 : L_21 0 90 = v90 := by rw [eL_21]; exact hq
  exact l9L_X8_least_L155 k79 S_20 L_21 x1 x2 x3 x4 hL_21 hk79 1 0
set_option maxHeartbeats 1000000 in
set_option maxRecDepth 100000 in
theorem l9B_X8_least_L99 {v90 : Int64} (k79 : Int32 → Int32 → Tr → Lo → Option (Int32 × Tr × Lo)) (L : Lo) (x1 : Int32) (x2 : Int32) (x3 : Int32) (x4 : Int32) (hL : L 0 90 = v90) (hk79 : ∀ (x3 : Int32) (x4 : Int32) (S : Tr) (L : Lo), L 0 90 = v90 → Ep (k79 x3 x4 S L) (fun q => q.2.2 0 90 = v90))  (N : Nat) : ∀ (x5 : Int32) (S : Tr), Ep (lpF (fun _ _ => none) (fB_X8_least_L99 k79 L x1 x2 x3 x4) N x5 S) (fun q => q.2.2 0 90 = v90) := by
  induction N with
  | zero => intro x5 S; exact Ep_none
  | succ N ih =>
    intro x5 S
    show Ep (fB_X8_least_L99 k79 L x1 x2 x3 x4 (lpF (fun _ _ => none) (fB_X8_least_L99 k79 L x1 x2 x3 x4) N) x5 S) _
    have hk99 := ih
    clear ih
    generalize lpF (fun _ _ => none) (fB_X8_least_L99 k79 L x1 x2 x3 x4) N = k99 at hk99 ⊢
    unfold fB_X8_least_L99
    refine Ep_ite (fun _ => ?_) (fun _ => ?_)
    · exact l9J_X8_least_J144 k79 x1 x2 x3 x4 S L hL hk79
    · refine Ep_ck ?_
      refine Ep_any (fun r58 => ?_)
      refine Ep_ck ?_
      refine Ep_ck ?_
      refine Ep_ck ?_
      refine Ep_lt (fun S_64 eS_64 => ?_)
      refine Ep_lt (fun y65 ey65 => ?_)
      exact hk99 y65 S_64
set_option maxHeartbeats 1000000 in
set_option maxRecDepth 100000 in
theorem l9L_X8_least_L99 {v90 : Int64} (k79 : Int32 → Int32 → Tr → Lo → Option (Int32 × Tr × Lo)) (L : Lo) (x1 : Int32) (x2 : Int32) (x3 : Int32) (x4 : Int32) (hL : L 0 90 = v90) (hk79 : ∀ (x3 : Int32) (x4 : Int32) (S : Tr) (L : Lo), L 0 90 = v90 → Ep (k79 x3 x4 S L) (fun q => q.2.2 0 90 = v90))  (x5 : Int32) (S : Tr)  : Ep (fL_X8_least_L99 k79 L x1 x2 x3 x4 x5 S) (fun q => q.2.2 0 90 = v90) := by
  unfold fL_X8_least_L99
  exact l9B_X8_least_L99 k79 L x1 x2 x3 x4 hL hk79 2000 x5 S
set_option maxHeartbeats 1000000 in
set_option maxRecDepth 100000 in
theorem l9B_X8_least_L79 {v90 : Int64} (x1 : Int32) (x2 : Int32)    (N : Nat) : ∀ (x3 : Int32) (x4 : Int32) (S : Tr) (L : Lo), L 0 90 = v90 → Ep (lpF (fun _ _ _ _ => none) (fB_X8_least_L79 x1 x2) N x3 x4 S L) (fun q => q.2.2 0 90 = v90) := by
  induction N with
  | zero => intro x3 x4 S L _; exact Ep_none
  | succ N ih =>
    intro x3 x4 S L hL
    show Ep (fB_X8_least_L79 x1 x2 (lpF (fun _ _ _ _ => none) (fB_X8_least_L79 x1 x2) N) x3 x4 S L) _
    have hk79 := ih
    clear ih
    generalize lpF (fun _ _ _ _ => none) (fB_X8_least_L79 x1 x2) N = k79 at hk79 ⊢
    unfold fB_X8_least_L79
    refine Ep_any (fun r8 => ?_)
    refine Ep_ite (fun _ => ?_) (fun _ => ?_)
    · exact l9J_X8_least_J279 x1 x2 x3 S L hL
    · refine Ep_any (fun S_16 => ?_)
      exact l9L_X8_least_L99 k79 L x1 x2 x3 x4 hL hk79 0 S_16
set_option maxHeartbeats 1000000 in
set_option maxRecDepth 100000 in
theorem l9L_X8_least_L79 {v90 : Int64} (x1 : Int32) (x2 : Int32)    (x3 : Int32) (x4 : Int32) (S : Tr) (L : Lo) (hL : L 0 90 = v90) : Ep (fL_X8_least_L79 x1 x2 x3 x4 S L) (fun q => q.2.2 0 90 = v90) := by
  unfold fL_X8_least_L79
  exact l9B_X8_least_L79 x1 x2 2000 x3 x4 S L hL
set_option maxHeartbeats 1000000 in
set_option maxRecDepth 100000 in
theorem l9B_X8_least_L31 {v90 : Int64} (L : Lo) (x1 : Int32) (hL : L 0 90 = v90)   (N : Nat) : ∀ (x2 : Int32) (x3 : Int32) (S : Tr), Ep (lpF (fun _ _ _ => none) (fB_X8_least_L31 L x1) N x2 x3 S) (fun q => q.2.2 0 90 = v90) := by
  induction N with
  | zero => intro x2 x3 S; exact Ep_none
  | succ N ih =>
    intro x2 x3 S
    show Ep (fB_X8_least_L31 L x1 (lpF (fun _ _ _ => none) (fB_X8_least_L31 L x1) N) x2 x3 S) _
    have hk31 := ih
    clear ih
    generalize lpF (fun _ _ _ => none) (fB_X8_least_L31 L x1) N = k31 at hk31 ⊢
    unfold fB_X8_least_L31
    refine Ep_ite (fun _ => ?_) (fun _ => ?_)
    · exact l9L_X8_least_L79 x1 x2 (-1) 0 S L hL
    · refine Ep_any (fun r66 => ?_)
      refine Ep_ite (fun _ => ?_) (fun _ => ?_)
      · refine Ep_lt (fun y75 ey75 => ?_)
        exact hk31 x2 y75 S
      · refine Ep_ite (fun _ => ?_) (fun _ => ?_)
        · exact Ep_some hL
        · refine Ep_ck ?_
          refine Ep_lt (fun S_72 eS_72 => ?_)
          refine Ep_lt (fun y73 ey73 => ?_)
          refine Ep_lt (fun y74 ey74 => ?_)
          exact hk31 y73 y74 S_72
set_option maxHeartbeats 1000000 in
set_option maxRecDepth 100000 in
theorem l9L_X8_least_L31 {v90 : Int64} (L : Lo) (x1 : Int32) (hL : L 0 90 = v90)   (x2 : Int32) (x3 : Int32) (S : Tr)  : Ep (fL_X8_least_L31 L x1 x2 x3 S) (fun q => q.2.2 0 90 = v90) := by
  unfold fL_X8_least_L31
  exact l9B_X8_least_L31 L x1 hL 2000 x2 x3 S
set_option maxHeartbeats 1000000 in
set_option maxRecDepth 100000 in
theorem l9_X8_least {v90 : Int64} (S : Tr) (L : Lo) (x1 : Int32) (hL : L 0 90 = v90)   : Ep (f_X8_least S L x1) (fun q => q.2.2 0 90 = v90) := by
  unfold f_X8_least
  refine Ep_lt (fun S_1 eS_1 => ?_)
  refine Ep_any (fun r2 => ?_)
  refine Ep_ite (fun _ => ?_) (fun _ => ?_)
  · exact Ep_some hL
  · refine Ep_ite (fun _ => ?_) (fun _ => ?_)
    · exact l9L_X8_least_L31 L x1 hL 0 0 S_1
    · exact Ep_some hL
set_option maxHeartbeats 1000000 in
set_option maxRecDepth 100000 in
theorem l9J_X8_mine_J166 {v90 : Int64} (x2 : Int32) (x3 : Int32) (x4 : Int32) (S : Tr) (L : Lo) (hL : L 0 90 = v90)   : Ep (fJ_X8_mine_J166 x2 x3 x4 S L) (fun q => q.2.2 0 90 = v90) := by
  unfold fJ_X8_mine_J166
  refine Ep_ite (fun _ => ?_) (fun _ => ?_)
  · exact Ep_some hL
  · exact Ep_some hL
set_option maxHeartbeats 1000000 in
set_option maxRecDepth 100000 in
theorem l9J_X8_mine_J153 {v90 : Int64} (k53 : Int32 → Int32 → Int32 → Tr → Lo → Option (Int32 × Tr × Lo)) (x1 : Int32) (x2 : Int32) (x5 : Int32) (x6 : Int32) (S : Tr) (L : Lo) (hL : L 0 90 = v90) (hk53 : ∀ (x3 : Int32) (x4 : Int32) (x5 : Int32) (S : Tr) (L : Lo), L 0 90 = v90 → Ep (k53 x3 x4 x5 S L) (fun q => q.2.2 0 90 = v90))  : Ep (fJ_X8_mine_J153 k53 x1 x2 x5 x6 S L) (fun q => q.2.2 0 90 = v90) := by
  unfold fJ_X8_mine_J153
  refine Ep_lt (fun y37 ey37 => ?_)
  exact hk53 x5 x6 y37 S L hL
set_option maxHeartbeats 1000000 in
set_option maxRecDepth 100000 in
theorem l9J_X8_mine_J137 {v90 : Int64} (k53 : Int32 → Int32 → Int32 → Tr → Lo → Option (Int32 × Tr × Lo)) (x1 : Int32) (x2 : Int32) (x3 : Int32) (x4 : Int32) (x5 : Int32) (s0 : Int32) (S : Tr) (L : Lo) (hL : L 0 90 = v90) (hk53 : ∀ (x3 : Int32) (x4 : Int32) (x5 : Int32) (S : Tr) (L : Lo), L 0 90 = v90 → Ep (k53 x3 x4 x5 S L) (fun q => q.2.2 0 90 = v90))  : Ep (fJ_X8_mine_J137 k53 x1 x2 x3 x4 x5 s0 S L) (fun q => q.2.2 0 90 = v90) := by
  unfold fJ_X8_mine_J137
  refine Ep_ite (fun _ => ?_) (fun _ => ?_)
  · exact l9J_X8_mine_J153 k53 x1 x2 x5 s0 S L hL hk53
  · refine Ep_ite (fun _ => ?_) (fun _ => ?_)
    · exact l9J_X8_mine_J153 k53 x1 x2 x5 s0 S L hL hk53
    · refine Ep_lt (fun y39 ey39 => ?_)
      exact hk53 x3 x4 y39 S L hL
set_option maxHeartbeats 1000000 in
set_option maxRecDepth 100000 in
theorem l9B_X8_mine_L53 {v90 : Int64} (x1 : Int32) (x2 : Int32)    (N : Nat) : ∀ (x3 : Int32) (x4 : Int32) (x5 : Int32) (S : Tr) (L : Lo), L 0 90 = v90 → Ep (lpF (fun _ _ _ _ _ => none) (fB_X8_mine_L53 x1 x2) N x3 x4 x5 S L) (fun q => q.2.2 0 90 = v90) := by
  induction N with
  | zero => intro x3 x4 x5 S L _; exact Ep_none
  | succ N ih =>
    intro x3 x4 x5 S L hL
    show Ep (fB_X8_mine_L53 x1 x2 (lpF (fun _ _ _ _ _ => none) (fB_X8_mine_L53 x1 x2) N) x3 x4 x5 S L) _
    have hk53 := ih
    clear ih
    generalize lpF (fun _ _ _ _ _ => none) (fB_X8_mine_L53 x1 x2) N = k53 at hk53 ⊢
    unfold fB_X8_mine_L53
    refine Ep_ite (fun _ => ?_) (fun _ => ?_)
    · exact l9J_X8_mine_J166 x2 x3 x4 S L hL
    · refine Ep_any (fun S_17 => ?_)
      refine Ep_ck ?_
      refine Ep_lt (fun S_21 eS_21 => ?_)
      refine Ep_bd (l9_X8_goOn S_21 L (1 : Int32) hL) (fun q hq => ?_)
      refine Ep_lt (fun S_22 eS_22 => ?_)
      refine Ep_lt (fun L_23 eL_23 => ?_)
      have hL_23 : L_23 0 90 = v90 := by rw [eL_23]; exact hq
      refine Ep_ck ?_
      refine Ep_ite (fun _ => ?_) (fun _ => ?_)
      · refine Ep_lt (fun y43 ey43 => ?_)
        exact hk53 x3 x4 y43 S_22 L_23 hL_23
      · refine Ep_bd (l9_X8_toEnd S_22 L_23 hL_23) (fun q hq => ?_)
        refine Ep_lt (fun S_28 eS_28 => ?_)
        refine Ep_lt (fun L_29 eL_29 => ?_)
        have hL_29 : L_29 0 90 = v90 := by rw [eL_29]; exact hq
        refine Ep_ite (fun _ => ?_) (fun _ => ?_)
        · refine Ep_any (fun r33 => ?_)
          exact l9J_X8_mine_J137 k53 x1 x2 x3 x4 x5 r33 S_28 L_29 hL_29 hk53
        · refine Ep_ck ?_
          refine Ep_ck ?_
          refine Ep_ck ?_
          exact l9J_X8_mine_J137 k53 x1 x2 x3 x4 x5 ((S_28 60 ((6 : Int32) + (S_28 30 x1.toNatClampNeg)).toNatClampNeg) - (S_28 60 (S_28 30 x1.toNatClampNeg).toNatClampNeg)) S_28 L_29 hL_29 hk53
set_option maxHeartbeats 1000000 in
set_option maxRecDepth 100000 in
theorem l9L_X8_mine_L53 {v90 : Int64} (x1 : Int32) (x2 : Int32)    (x3 : Int32) (x4 : Int32) (x5 : Int32) (S : Tr) (L : Lo) (hL : L 0 90 = v90) : Ep (fL_X8_mine_L53 x1 x2 x3 x4 x5 S L) (fun q => q.2.2 0 90 = v90) := by
  unfold fL_X8_mine_L53
  exact l9B_X8_mine_L53 x1 x2 2000 x3 x4 x5 S L hL
set_option maxHeartbeats 1000000 in
set_option maxRecDepth 100000 in
theorem l9_X8_mine {v90 : Int64} (S : Tr) (L : Lo) (x1 : Int32) (x2 : Int32) (hL : L 0 90 = v90)   : Ep (f_X8_mine S L x1 x2) (fun q => q.2.2 0 90 = v90) := by
  unfold f_X8_mine
  refine Ep_lt (fun S_1 eS_1 => ?_)
  refine Ep_any (fun r2 => ?_)
  refine Ep_ite (fun _ => ?_) (fun _ => ?_)
  · exact Ep_some hL
  · refine Ep_any (fun r6 => ?_)
    refine Ep_ite (fun _ => ?_) (fun _ => ?_)
    · exact Ep_some hL
    · refine Ep_ite (fun _ => ?_) (fun _ => ?_)
      · exact Ep_some hL
      · refine Ep_any (fun r11 => ?_)
        refine Ep_ite (fun _ => ?_) (fun _ => ?_)
        · exact Ep_some hL
        · exact l9L_X8_mine_L53 x1 x2 (-2) (-2) 0 S_1 L hL
set_option maxHeartbeats 1000000 in
set_option maxRecDepth 100000 in
theorem l9J_X8_when_J142 {v90 : Int64} (x2 : Int32) (x4 : Int32) (x5 : Int32) (S : Tr) (L : Lo) (hL : L 0 90 = v90)   : Ep (fJ_X8_when_J142 x2 x4 x5 S L) (fun q => q.2.2 0 90 = v90) := by
  unfold fJ_X8_when_J142
  refine Ep_ite (fun _ => ?_) (fun _ => ?_)
  · exact Ep_some hL
  · exact Ep_some hL
set_option maxHeartbeats 1000000 in
set_option maxRecDepth 100000 in
theorem l9J_X8_when_J83 {v90 : Int64} (k53 : Int32 → Int32 → Int32 → Int32 → Tr → Lo → Option (Int32 × Tr × Lo)) (x1 : Int32) (x2 : Int32) (x3 : Int32) (x4 : Int32) (x5 : Int32) (x6 : Int32) (S : Tr) (L : Lo) (hL : L 0 90 = v90) (hk53 : ∀ (x3 : Int32) (x4 : Int32) (x5 : Int32) (x6 : Int32) (S : Tr) (L : Lo), L 0 90 = v90 → Ep (k53 x3 x4 x5 x6 S L) (fun q => q.2.2 0 90 = v90))  : Ep (fJ_X8_when_J83 k53 x1 x2 x3 x4 x5 x6 S L) (fun q => q.2.2 0 90 = v90) := by
  unfold fJ_X8_when_J83
  refine Ep_ck ?_
  refine Ep_lt (fun y28 ey28 => ?_)
  refine Ep_any (fun q => ?_)
  refine Ep_lt (fun r29 er29 => ?_)
  refine Ep_lt (fun S_30 eS_30 => ?_)
  refine Ep_bd (l9_X8_toEnd S_30 L hL) (fun q hq => ?_)
  refine Ep_lt (fun S_33 eS_33 => ?_)
  refine Ep_lt (fun L_34 eL_34 => ?_)
  have hL_34 : L_34 0 90 = v90 := by rw [eL_34]; exact hq
  refine Ep_any (fun r37 => ?_)
  refine Ep_ite (fun _ => ?_) (fun _ => ?_)
  · refine Ep_any (fun r41 => ?_)
    refine Ep_lt (fun y44 ey44 => ?_)
    refine Ep_any (fun r45 => ?_)
    refine Ep_lt (fun y48 ey48 => ?_)
    exact hk53 y44 x6 r45 y48 S_33 L_34 hL_34
  · refine Ep_lt (fun y49 ey49 => ?_)
    exact hk53 x3 x4 x5 y49 S_33 L_34 hL_34
set_option maxHeartbeats 1000000 in
set_option maxRecDepth 100000 in
theorem l9B_X8_when_L64 {v90 : Int64} (k53 : Int32 → Int32 → Int32 → Int32 → Tr → Lo → Option (Int32 × Tr × Lo)) (x1 : Int32) (x2 : Int32) (x3 : Int32) (x4 : Int32) (x5 : Int32) (x6 : Int32)  (hk53 : ∀ (x3 : Int32) (x4 : Int32) (x5 : Int32) (x6 : Int32) (S : Tr) (L : Lo), L 0 90 = v90 → Ep (k53 x3 x4 x5 x6 S L) (fun q => q.2.2 0 90 = v90))  (N : Nat) : ∀ (S : Tr) (L : Lo), L 0 90 = v90 → Ep (lpF (fun _ _ => none) (fB_X8_when_L64 k53 x1 x2 x3 x4 x5 x6) N S L) (fun q => q.2.2 0 90 = v90) := by
  induction N with
  | zero => intro S L _; exact Ep_none
  | succ N ih =>
    intro S L hL
    show Ep (fB_X8_when_L64 k53 x1 x2 x3 x4 x5 x6 (lpF (fun _ _ => none) (fB_X8_when_L64 k53 x1 x2 x3 x4 x5 x6) N) S L) _
    have hk64 := ih
    clear ih
    generalize lpF (fun _ _ => none) (fB_X8_when_L64 k53 x1 x2 x3 x4 x5 x6) N = k64 at hk64 ⊢
    unfold fB_X8_when_L64
    refine Ep_ite (fun _ => ?_) (fun _ => ?_)
    · exact l9J_X8_when_J83 k53 x1 x2 x3 x4 x5 x6 S L hL hk53
    · refine Ep_bd (l9_X8_goOn S L (1 : Int32) hL) (fun q hq => ?_)
      refine Ep_lt (fun S_50 eS_50 => ?_)
      refine Ep_lt (fun L_51 eL_51 => ?_)
      have hL_51 : L_51 0 90 = v90 := by rw [eL_51]; exact hq
      exact hk64 S_50 L_51 hL_51
set_option maxHeartbeats 1000000 in
set_option maxRecDepth 100000 in
theorem l9L_X8_when_L64 {v90 : Int64} (k53 : Int32 → Int32 → Int32 → Int32 → Tr → Lo → Option (Int32 × Tr × Lo)) (x1 : Int32) (x2 : Int32) (x3 : Int32) (x4 : Int32) (x5 : Int32) (x6 : Int32)  (hk53 : ∀ (x3 : Int32) (x4 : Int32) (x5 : Int32) (x6 : Int32) (S : Tr) (L : Lo), L 0 90 = v90 → Ep (k53 x3 x4 x5 x6 S L) (fun q => q.2.2 0 90 = v90))  (S : Tr) (L : Lo) (hL : L 0 90 = v90) : Ep (fL_X8_when_L64 k53 x1 x2 x3 x4 x5 x6 S L) (fun q => q.2.2 0 90 = v90) := by
  unfold fL_X8_when_L64
  exact l9B_X8_when_L64 k53 x1 x2 x3 x4 x5 x6 hk53 2000 S L hL
set_option maxHeartbeats 1000000 in
set_option maxRecDepth 100000 in
theorem l9B_X8_when_L53 {v90 : Int64} (x1 : Int32) (x2 : Int32)    (N : Nat) : ∀ (x3 : Int32) (x4 : Int32) (x5 : Int32) (x6 : Int32) (S : Tr) (L : Lo), L 0 90 = v90 → Ep (lpF (fun _ _ _ _ _ _ => none) (fB_X8_when_L53 x1 x2) N x3 x4 x5 x6 S L) (fun q => q.2.2 0 90 = v90) := by
  induction N with
  | zero => intro x3 x4 x5 x6 S L _; exact Ep_none
  | succ N ih =>
    intro x3 x4 x5 x6 S L hL
    show Ep (fB_X8_when_L53 x1 x2 (lpF (fun _ _ _ _ _ _ => none) (fB_X8_when_L53 x1 x2) N) x3 x4 x5 x6 S L) _
    have hk53 := ih
    clear ih
    generalize lpF (fun _ _ _ _ _ _ => none) (fB_X8_when_L53 x1 x2) N = k53 at hk53 ⊢
    unfold fB_X8_when_L53
    refine Ep_ite (fun _ => ?_) (fun _ => ?_)
    · exact l9J_X8_when_J142 x2 x4 x5 S L hL
    · refine Ep_any (fun S_23 => ?_)
      exact l9L_X8_when_L64 k53 x1 x2 x3 x4 x5 x6 hk53 S_23 L hL
set_option maxHeartbeats 1000000 in
set_option maxRecDepth 100000 in
theorem l9L_X8_when_L53 {v90 : Int64} (x1 : Int32) (x2 : Int32)    (x3 : Int32) (x4 : Int32) (x5 : Int32) (x6 : Int32) (S : Tr) (L : Lo) (hL : L 0 90 = v90) : Ep (fL_X8_when_L53 x1 x2 x3 x4 x5 x6 S L) (fun q => q.2.2 0 90 = v90) := by
  unfold fL_X8_when_L53
  exact l9B_X8_when_L53 x1 x2 2000 x3 x4 x5 x6 S L hL
set_option maxHeartbeats 1000000 in
set_option maxRecDepth 100000 in
theorem l9_X8_when {v90 : Int64} (S : Tr) (L : Lo) (x1 : Int32) (x2 : Int32) (hL : L 0 90 = v90)   : Ep (f_X8_when S L x1 x2) (fun q => q.2.2 0 90 = v90) := by
  unfold f_X8_when
  refine Ep_lt (fun S_1 eS_1 => ?_)
  refine Ep_any (fun r2 => ?_)
  refine Ep_ite (fun _ => ?_) (fun _ => ?_)
  · exact Ep_some hL
  · refine Ep_any (fun r6 => ?_)
    refine Ep_ite (fun _ => ?_) (fun _ => ?_)
    · exact Ep_some hL
    · refine Ep_any (fun S_10 => ?_)
      refine Ep_bd (l9_X8_toEnd S_10 L hL) (fun q hq => ?_)
      refine Ep_lt (fun S_13 eS_13 => ?_)
      refine Ep_lt (fun L_14 eL_14 => ?_)
      have hL_14 : L_14 0 90 = v90 := by rw [eL_14]; exact hq
      refine Ep_any (fun r17 => ?_)
      refine Ep_lt (fun y20 ey20 => ?_)
      exact l9L_X8_when_L53 x1 x2 r17 (-2) (-2) y20 S_13 L_14 hL_14
set_option maxHeartbeats 1000000 in
set_option maxRecDepth 100000 in
theorem l9J_X8_restAt_J285 {v90 : Int64} (x3 : Int32) (x4 : Int32) (S : Tr) (L : Lo) (hL : L 0 90 = v90)   : Ep (fJ_X8_restAt_J285 x3 x4 S L) (fun q => q.2.2 0 90 = v90) := by
  unfold fJ_X8_restAt_J285
  refine Ep_ite (fun _ => ?_) (fun _ => ?_)
  · exact Ep_some hL
  · exact Ep_some hL
set_option maxHeartbeats 1000000 in
set_option maxRecDepth 100000 in
theorem l9J_X8_restAt_J257 {v90 : Int64} (x5 : Int32) (S : Tr) (L : Lo) (hL : L 0 90 = v90)   : Ep (fJ_X8_restAt_J257 x5 S L) (fun q => q.2.2 0 90 = v90) := by
  unfold fJ_X8_restAt_J257
  refine Ep_ck ?_
  exact Ep_some hL
set_option maxHeartbeats 1000000 in
set_option maxRecDepth 100000 in
theorem l9J_X8_restAt_J243 {v90 : Int64} (k136 : Int32 → Int32 → Option (Int32 × Tr × Lo)) (S : Tr) (L : Lo) (x3 : Int32) (x4 : Int32) (x5 : Int32) (x6 : Int32) (hL : L 0 90 = v90) (hk136 : ∀ (x4 : Int32) (x5 : Int32), Ep (k136 x4 x5) (fun q => q.2.2 0 90 = v90))  : Ep (fJ_X8_restAt_J243 k136 S L x3 x4 x5 x6) (fun q => q.2.2 0 90 = v90) := by
  unfold fJ_X8_restAt_J243
  refine Ep_ite (fun _ => ?_) (fun _ => ?_)
  · refine Ep_lt (fun y10 ey10 => ?_)
    exact hk136 x4 y10
  · refine Ep_ite (fun _ => ?_) (fun _ => ?_)
    · exact l9J_X8_restAt_J257 x5 S L hL
    · refine Ep_lt (fun y7 ey7 => ?_)
      refine Ep_lt (fun y8 ey8 => ?_)
      exact hk136 y7 y8
set_option maxHeartbeats 1000000 in
set_option maxRecDepth 100000 in
theorem l9B_X8_restAt_L156 {v90 : Int64} (k136 : Int32 → Int32 → Option (Int32 × Tr × Lo)) (S : Tr) (L : Lo) (x3 : Int32) (x4 : Int32) (x5 : Int32) (hL : L 0 90 = v90) (hk136 : ∀ (x4 : Int32) (x5 : Int32), Ep (k136 x4 x5) (fun q => q.2.2 0 90 = v90))  (N : Nat) : ∀ (x6 : Int32) (x7 : Int32), Ep (lpF (fun _ _ => none) (fB_X8_restAt_L156 k136 S L x3 x4 x5) N x6 x7) (fun q => q.2.2 0 90 = v90) := by
  induction N with
  | zero => intro x6 x7; exact Ep_none
  | succ N ih =>
    intro x6 x7
    show Ep (fB_X8_restAt_L156 k136 S L x3 x4 x5 (lpF (fun _ _ => none) (fB_X8_restAt_L156 k136 S L x3 x4 x5) N) x6 x7) _
    have hk156 := ih
    clear ih
    generalize lpF (fun _ _ => none) (fB_X8_restAt_L156 k136 S L x3 x4 x5) N = k156 at hk156 ⊢
    unfold fB_X8_restAt_L156
    refine Ep_ite (fun _ => ?_) (fun _ => ?_)
    · exact l9J_X8_restAt_J243 k136 S L x3 x4 x5 x6 hL hk136
    · refine Ep_ite (fun _ => ?_) (fun _ => ?_)
      · refine Ep_lt (fun y12 ey12 => ?_)
        exact hk156 0 y12
      · refine Ep_ck ?_
        refine Ep_ck ?_
        refine Ep_ck ?_
        refine Ep_ite (fun _ => ?_) (fun _ => ?_)
        · refine Ep_lt (fun y17 ey17 => ?_)
          exact hk156 0 y17
        · refine Ep_ck ?_
          refine Ep_ite (fun _ => ?_) (fun _ => ?_)
          · refine Ep_lt (fun y20 ey20 => ?_)
            exact hk156 0 y20
          · refine Ep_lt (fun y21 ey21 => ?_)
            exact hk156 1 y21
set_option maxHeartbeats 1000000 in
set_option maxRecDepth 100000 in
theorem l9L_X8_restAt_L156 {v90 : Int64} (k136 : Int32 → Int32 → Option (Int32 × Tr × Lo)) (S : Tr) (L : Lo) (x3 : Int32) (x4 : Int32) (x5 : Int32) (hL : L 0 90 = v90) (hk136 : ∀ (x4 : Int32) (x5 : Int32), Ep (k136 x4 x5) (fun q => q.2.2 0 90 = v90))  (x6 : Int32) (x7 : Int32)  : Ep (fL_X8_restAt_L156 k136 S L x3 x4 x5 x6 x7) (fun q => q.2.2 0 90 = v90) := by
  unfold fL_X8_restAt_L156
  exact l9B_X8_restAt_L156 k136 S L x3 x4 x5 hL hk136 2000 x6 x7
set_option maxHeartbeats 1000000 in
set_option maxRecDepth 100000 in
theorem l9B_X8_restAt_L136 {v90 : Int64} (S : Tr) (L : Lo) (x3 : Int32) (hL : L 0 90 = v90)   (N : Nat) : ∀ (x4 : Int32) (x5 : Int32), Ep (lpF (fun _ _ => none) (fB_X8_restAt_L136 S L x3) N x4 x5) (fun q => q.2.2 0 90 = v90) := by
  induction N with
  | zero => intro x4 x5; exact Ep_none
  | succ N ih =>
    intro x4 x5
    show Ep (fB_X8_restAt_L136 S L x3 (lpF (fun _ _ => none) (fB_X8_restAt_L136 S L x3) N) x4 x5) _
    have hk136 := ih
    clear ih
    generalize lpF (fun _ _ => none) (fB_X8_restAt_L136 S L x3) N = k136 at hk136 ⊢
    unfold fB_X8_restAt_L136
    refine Ep_ite (fun _ => ?_) (fun _ => ?_)
    · exact l9J_X8_restAt_J285 x3 x4 S L hL
    · exact l9L_X8_restAt_L156 k136 S L x3 x4 x5 hL hk136 1 0
set_option maxHeartbeats 1000000 in
set_option maxRecDepth 100000 in
theorem l9L_X8_restAt_L136 {v90 : Int64} (S : Tr) (L : Lo) (x3 : Int32) (hL : L 0 90 = v90)   (x4 : Int32) (x5 : Int32)  : Ep (fL_X8_restAt_L136 S L x3 x4 x5) (fun q => q.2.2 0 90 = v90) := by
  unfold fL_X8_restAt_L136
  exact l9B_X8_restAt_L136 S L x3 hL 2000 x4 x5
set_option maxHeartbeats 1000000 in
set_option maxRecDepth 100000 in
theorem l9J_X8_restAt_J90 {v90 : Int64} (k3 : Int32 → Tr → Lo → Option (Int32 × Tr × Lo)) (x1 : Int32) (x2 : Int32) (x3 : Int32) (x4 : Int32) (x5 : Int32) (s0 : Int32) (S : Tr) (L : Lo) (hL : L 0 90 = v90) (hk3 : ∀ (x4 : Int32) (S : Tr) (L : Lo), L 0 90 = v90 → Ep (k3 x4 S L) (fun q => q.2.2 0 90 = v90))  : Ep (fJ_X8_restAt_J90 k3 x1 x2 x3 x4 x5 s0 S L) (fun q => q.2.2 0 90 = v90) := by
  unfold fJ_X8_restAt_J90
  refine Ep_bd (l9_X8_toEnd S L hL) (fun q hq => ?_)
  refine Ep_lt (fun S_39 eS_39 => ?_)
  refine Ep_lt (fun L_40 eL_40 => ?_)
  have hL_40 : L_40 0 90 = v90 := by rw [eL_40]; exact hq
  refine Ep_any (fun r43 => ?_)
  refine Ep_ck ?_
  refine Ep_lt (fun S_47 eS_47 => ?_)
  refine Ep_any (fun r48 => ?_)
  refine Ep_lt (fun S_51 eS_51 => ?_)
  refine Ep_lt (fun y52 ey52 => ?_)
  exact hk3 y52 S_51 L_40 hL_40
set_option maxHeartbeats 1000000 in
set_option maxRecDepth 100000 in
theorem l9J_X8_restAt_J70 {v90 : Int64} (k3 : Int32 → Tr → Lo → Option (Int32 × Tr × Lo)) (x1 : Int32) (x2 : Int32) (x3 : Int32) (x4 : Int32) (s0 : Int32) (S : Tr) (L : Lo) (hL : L 0 90 = v90) (hk3 : ∀ (x4 : Int32) (S : Tr) (L : Lo), L 0 90 = v90 → Ep (k3 x4 S L) (fun q => q.2.2 0 90 = v90))  : Ep (fJ_X8_restAt_J70 k3 x1 x2 x3 x4 s0 S L) (fun q => q.2.2 0 90 = v90) := by
  unfold fJ_X8_restAt_J70
  refine Ep_ck ?_
  refine Ep_ite (fun _ => ?_) (fun _ => ?_)
  · exact l9J_X8_restAt_J90 k3 x1 x2 x3 x4 s0 1 S L hL hk3
  · exact l9J_X8_restAt_J90 k3 x1 x2 x3 x4 s0 0 S L hL hk3
set_option maxHeartbeats 1000000 in
set_option maxRecDepth 100000 in
theorem l9B_X8_restAt_L3 {v90 : Int64} (x1 : Int32) (x2 : Int32) (x3 : Int32)    (N : Nat) : ∀ (x4 : Int32) (S : Tr) (L : Lo), L 0 90 = v90 → Ep (lpF (fun _ _ _ => none) (fB_X8_restAt_L3 x1 x2 x3) N x4 S L) (fun q => q.2.2 0 90 = v90) := by
  induction N with
  | zero => intro x4 S L _; exact Ep_none
  | succ N ih =>
    intro x4 S L hL
    show Ep (fB_X8_restAt_L3 x1 x2 x3 (lpF (fun _ _ _ => none) (fB_X8_restAt_L3 x1 x2 x3) N) x4 S L) _
    have hk3 := ih
    clear ih
    generalize lpF (fun _ _ _ => none) (fB_X8_restAt_L3 x1 x2 x3) N = k3 at hk3 ⊢
    unfold fB_X8_restAt_L3
    refine Ep_ite (fun _ => ?_) (fun _ => ?_)
    · exact l9L_X8_restAt_L136 S L x3 hL 0 0
    · refine Ep_any (fun S_22 => ?_)
      refine Ep_ck ?_
      refine Ep_ck ?_
      refine Ep_lt (fun S_27 eS_27 => ?_)
      refine Ep_ck ?_
      refine Ep_ck ?_
      refine Ep_lt (fun S_30 eS_30 => ?_)
      refine Ep_bd (l9_X8_goOn S_30 L (1 : Int32) hL) (fun q hq => ?_)
      refine Ep_lt (fun S_31 eS_31 => ?_)
      refine Ep_lt (fun L_32 eL_32 => ?_)
      have hL_32 : L_32 0 90 = v90 := by rw [eL_32]; exact hq
      refine Ep_ck ?_
      refine Ep_ite (fun _ => ?_) (fun _ => ?_)
      · exact l9J_X8_restAt_J70 k3 x1 x2 x3 x4 1 S_31 L_32 hL_32 hk3
      · exact l9J_X8_restAt_J70 k3 x1 x2 x3 x4 0 S_31 L_32 hL_32 hk3
set_option maxHeartbeats 1000000 in
set_option maxRecDepth 100000 in
theorem l9L_X8_restAt_L3 {v90 : Int64} (x1 : Int32) (x2 : Int32) (x3 : Int32)    (x4 : Int32) (S : Tr) (L : Lo) (hL : L 0 90 = v90) : Ep (fL_X8_restAt_L3 x1 x2 x3 x4 S L) (fun q => q.2.2 0 90 = v90) := by
  unfold fL_X8_restAt_L3
  exact l9B_X8_restAt_L3 x1 x2 x3 2000 x4 S L hL
set_option maxHeartbeats 1000000 in
set_option maxRecDepth 100000 in
theorem l9_X8_restAt {v90 : Int64} (S : Tr) (L : Lo) (x1 : Int32) (x2 : Int32) (x3 : Int32) (hL : L 0 90 = v90)   : Ep (f_X8_restAt S L x1 x2 x3) (fun q => q.2.2 0 90 = v90) := by
  unfold f_X8_restAt
  exact l9L_X8_restAt_L3 x1 x2 x3 0 S L hL
set_option maxHeartbeats 1000000 in
set_option maxRecDepth 100000 in
theorem l9_X8_rests {v90 : Int64} (S : Tr) (L : Lo) (x1 : Int32) (x2 : Int32) (hL : L 0 90 = v90)   : Ep (f_X8_rests S L x1 x2) (fun q => q.2.2 0 90 = v90) := by
  unfold f_X8_rests
  refine Ep_lt (fun S_1 eS_1 => ?_)
  refine Ep_any (fun r2 => ?_)
  refine Ep_ite (fun _ => ?_) (fun _ => ?_)
  · exact Ep_some hL
  · refine Ep_bd (l9_X8_restAt S_1 L x1 x2 (-1 : Int32) hL) (fun q hq => ?_)
    refine Ep_lt (fun r6 er6 => ?_)
    refine Ep_lt (fun S_7 eS_7 => ?_)
    refine Ep_lt (fun L_8 eL_8 => ?_)
    have hL_8 : L_8 0 90 = v90 := by rw [eL_8]; exact hq
    exact Ep_some hL_8
set_option maxHeartbeats 1000000 in
set_option maxRecDepth 100000 in
theorem l9_X8_rest {v90 : Int64} (S : Tr) (L : Lo) (x1 : Int32) (x2 : Int32) (x3 : Int32) (hL : L 0 90 = v90)   : Ep (f_X8_rest S L x1 x2 x3) (fun q => q.2.2 0 90 = v90) := by
  unfold f_X8_rest
  refine Ep_lt (fun S_1 eS_1 => ?_)
  refine Ep_any (fun r2 => ?_)
  refine Ep_ite (fun _ => ?_) (fun _ => ?_)
  · exact Ep_some hL
  · refine Ep_ite (fun _ => ?_) (fun _ => ?_)
    · exact Ep_some hL
    · refine Ep_bd (l9_X8_restAt S_1 L x1 x2 x3 hL) (fun q hq => ?_)
      refine Ep_lt (fun r7 er7 => ?_)
      refine Ep_lt (fun S_8 eS_8 => ?_)
      refine Ep_lt (fun L_9 eL_9 => ?_)
      have hL_9 : L_9 0 90 = v90 := by rw [eL_9]; exact hq
      exact Ep_some hL_9
set_option maxHeartbeats 1000000 in
set_option maxRecDepth 100000 in
theorem l9_X8_liftsBy {v90 : Int64} (S : Tr) (L : Lo) (x1 : Int32) (hL : L 0 90 = v90)   : Ep (f_X8_liftsBy S L x1) (fun q => q.2.2 0 90 = v90) := by
  unfold f_X8_liftsBy
  refine Ep_any (fun S_1 => ?_)
  refine Ep_lt (fun S_4 eS_4 => ?_)
  refine Ep_bd (l9_X8_toEnd S_4 L hL) (fun q hq => ?_)
  refine Ep_lt (fun S_5 eS_5 => ?_)
  refine Ep_lt (fun L_6 eL_6 => ?_)
  have hL_6 : L_6 0 90 = v90 := by rw [eL_6]; exact hq
  refine Ep_any (fun r9 => ?_)
  exact Ep_some hL_6
set_option maxHeartbeats 1000000 in
set_option maxRecDepth 100000 in
theorem l9_X8_byRule {v90 : Int64} (S : Tr) (L : Lo) (x1 : Int32) (hL : L 0 90 = v90)   : Ep (f_X8_byRule S L x1) (fun q => q.2.2 0 90 = v90) := by
  unfold f_X8_byRule
  refine Ep_lt (fun S_1 eS_1 => ?_)
  refine Ep_any (fun r2 => ?_)
  refine Ep_ite (fun _ => ?_) (fun _ => ?_)
  · exact Ep_some hL
  · refine Ep_bd (l9_X8_liftsBy S_1 L x1 hL) (fun q hq => ?_)
    refine Ep_lt (fun r6 er6 => ?_)
    refine Ep_lt (fun S_7 eS_7 => ?_)
    refine Ep_lt (fun L_8 eL_8 => ?_)
    have hL_8 : L_8 0 90 = v90 := by rw [eL_8]; exact hq
    exact Ep_some hL_8
set_option maxHeartbeats 1000000 in
set_option maxRecDepth 100000 in
theorem l9B_X8_bestRule_L9 {v90 : Int64}     (N : Nat) : ∀ (x1 : Int32) (x2 : Int32) (S : Tr) (L : Lo), L 0 90 = v90 → Ep (lpF (fun _ _ _ _ => none) (fB_X8_bestRule_L9) N x1 x2 S L) (fun q => q.2.2 0 90 = v90) := by
  induction N with
  | zero => intro x1 x2 S L _; exact Ep_none
  | succ N ih =>
    intro x1 x2 S L hL
    show Ep (fB_X8_bestRule_L9 (lpF (fun _ _ _ _ => none) (fB_X8_bestRule_L9) N) x1 x2 S L) _
    have hk9 := ih
    clear ih
    generalize lpF (fun _ _ _ _ => none) (fB_X8_bestRule_L9) N = k9 at hk9 ⊢
    unfold fB_X8_bestRule_L9
    refine Ep_ite (fun _ => ?_) (fun _ => ?_)
    · exact Ep_some hL
    · refine Ep_bd (l9_X8_liftsBy S L x2 hL) (fun q hq => ?_)
      refine Ep_lt (fun r3 er3 => ?_)
      refine Ep_lt (fun S_4 eS_4 => ?_)
      refine Ep_lt (fun L_5 eL_5 => ?_)
      have hL_5 : L_5 0 90 = v90 := by rw [eL_5]; exact hq
      refine Ep_bd (l9_X8_liftsBy S_4 L_5 x1 hL_5) (fun q hq => ?_)
      refine Ep_lt (fun r8 er8 => ?_)
      refine Ep_lt (fun S_9 eS_9 => ?_)
      refine Ep_lt (fun L_10 eL_10 => ?_)
      have hL_10 : L_10 0 90 = v90 := by rw [eL_10]; exact hq
      refine Ep_ite (fun _ => ?_) (fun _ => ?_)
      · refine Ep_lt (fun y14 ey14 => ?_)
        exact hk9 x1 y14 S_9 L_10 hL_10
      · refine Ep_lt (fun y15 ey15 => ?_)
        exact hk9 x2 y15 S_9 L_10 hL_10
set_option maxHeartbeats 1000000 in
set_option maxRecDepth 100000 in
theorem l9L_X8_bestRule_L9 {v90 : Int64}     (x1 : Int32) (x2 : Int32) (S : Tr) (L : Lo) (hL : L 0 90 = v90) : Ep (fL_X8_bestRule_L9 x1 x2 S L) (fun q => q.2.2 0 90 = v90) := by
  unfold fL_X8_bestRule_L9
  exact l9B_X8_bestRule_L9 2000 x1 x2 S L hL
set_option maxHeartbeats 1000000 in
set_option maxRecDepth 100000 in
theorem l9_X8_bestRule {v90 : Int64} (S : Tr) (L : Lo) (hL : L 0 90 = v90)   : Ep (f_X8_bestRule S L) (fun q => q.2.2 0 90 = v90) := by
  unfold f_X8_bestRule
  refine Ep_lt (fun S_1 eS_1 => ?_)
  exact l9L_X8_bestRule_L9 0 1 S_1 L hL
set_option maxHeartbeats 1000000 in
set_option maxRecDepth 100000 in
theorem l9J_X8_missed_J163 {v90 : Int64} (x3 : Int32) (S : Tr) (L : Lo) (hL : L 0 90 = v90)   : Ep (fJ_X8_missed_J163 x3 S L) (fun q => q.2.2 0 90 = v90) := by
  unfold fJ_X8_missed_J163
  refine Ep_lt (fun S_18 eS_18 => ?_)
  refine Ep_bd (l9_X8_outs S_18 L (1 : Int32) hL) (fun q hq => ?_)
  refine Ep_lt (fun S_19 eS_19 => ?_)
  refine Ep_lt (fun L_20 eL_20 => ?_)
  have hL_20 : L_20 0 90 = v90 := by rw [eL_20]; exact hq
  refine Ep_lt (fun S_23 eS_23 => ?_)
  refine Ep_ck ?_
  exact Ep_some hL_20
set_option maxHeartbeats 1000000 in
set_option maxRecDepth 100000 in
theorem l9B_X8_missed_L145 {v90 : Int64} (x3 : Int32)    (N : Nat) : ∀ (S : Tr) (L : Lo), L 0 90 = v90 → Ep (lpF (fun _ _ => none) (fB_X8_missed_L145 x3) N S L) (fun q => q.2.2 0 90 = v90) := by
  induction N with
  | zero => intro S L _; exact Ep_none
  | succ N ih =>
    intro S L hL
    show Ep (fB_X8_missed_L145 x3 (lpF (fun _ _ => none) (fB_X8_missed_L145 x3) N) S L) _
    have hk145 := ih
    clear ih
    generalize lpF (fun _ _ => none) (fB_X8_missed_L145 x3) N = k145 at hk145 ⊢
    unfold fB_X8_missed_L145
    refine Ep_ite (fun _ => ?_) (fun _ => ?_)
    · exact l9J_X8_missed_J163 x3 S L hL
    · refine Ep_bd (l9_X8_goOn S L (1 : Int32) hL) (fun q hq => ?_)
      refine Ep_lt (fun S_25 eS_25 => ?_)
      refine Ep_lt (fun L_26 eL_26 => ?_)
      have hL_26 : L_26 0 90 = v90 := by rw [eL_26]; exact hq
      exact hk145 S_25 L_26 hL_26
set_option maxHeartbeats 1000000 in
set_option maxRecDepth 100000 in
theorem l9L_X8_missed_L145 {v90 : Int64} (x3 : Int32)    (S : Tr) (L : Lo) (hL : L 0 90 = v90) : Ep (fL_X8_missed_L145 x3 S L) (fun q => q.2.2 0 90 = v90) := by
  unfold fL_X8_missed_L145
  exact l9B_X8_missed_L145 x3 2000 S L hL
set_option maxHeartbeats 1000000 in
set_option maxRecDepth 100000 in
theorem l9J_X8_missed_J124 {v90 : Int64} (x1 : Int32) (x2 : Int32) (S : Tr) (L : Lo) (hL : L 0 90 = v90)   : Ep (fJ_X8_missed_J124 x1 x2 S L) (fun q => q.2.2 0 90 = v90) := by
  unfold fJ_X8_missed_J124
  refine Ep_ite (fun _ => ?_) (fun _ => ?_)
  · exact Ep_some hL
  · refine Ep_ite (fun _ => ?_) (fun _ => ?_)
    · exact Ep_some hL
    · refine Ep_ck ?_
      refine Ep_lt (fun y13 ey13 => ?_)
      refine Ep_any (fun S_14 => ?_)
      exact l9L_X8_missed_L145 y13 S_14 L hL
set_option maxHeartbeats 1000000 in
set_option maxRecDepth 100000 in
theorem l9J_X8_missed_J111 {v90 : Int64} (k23 : Int32 → Tr → Lo → Option (Int32 × Tr × Lo)) (x1 : Int32) (x2 : Int32) (S : Tr) (L : Lo) (hL : L 0 90 = v90) (hk23 : ∀ (x2 : Int32) (S : Tr) (L : Lo), L 0 90 = v90 → Ep (k23 x2 S L) (fun q => q.2.2 0 90 = v90))  : Ep (fJ_X8_missed_J111 k23 x1 x2 S L) (fun q => q.2.2 0 90 = v90) := by
  unfold fJ_X8_missed_J111
  refine Ep_lt (fun S_40 eS_40 => ?_)
  exact hk23 x2 S_40 L hL
set_option maxHeartbeats 1000000 in
set_option maxRecDepth 100000 in
theorem l9J_X8_missed_J90 {v90 : Int64} (k23 : Int32 → Tr → Lo → Option (Int32 × Tr × Lo)) (x1 : Int32) (x2 : Int32) (S : Tr) (L : Lo) (hL : L 0 90 = v90) (hk23 : ∀ (x2 : Int32) (S : Tr) (L : Lo), L 0 90 = v90 → Ep (k23 x2 S L) (fun q => q.2.2 0 90 = v90))  : Ep (fJ_X8_missed_J90 k23 x1 x2 S L) (fun q => q.2.2 0 90 = v90) := by
  unfold fJ_X8_missed_J90
  refine Ep_any (fun S_36 => ?_)
  refine Ep_ite (fun _ => ?_) (fun _ => ?_)
  · exact l9J_X8_missed_J111 k23 x1 x2 S_36 L hL hk23
  · refine Ep_bd (l9_X8_onTheWay S_36 L (1 : Int32) hL) (fun q hq => ?_)
    refine Ep_lt (fun S_41 eS_41 => ?_)
    refine Ep_lt (fun L_42 eL_42 => ?_)
    have hL_42 : L_42 0 90 = v90 := by rw [eL_42]; exact hq
    exact l9J_X8_missed_J111 k23 x1 x2 S_41 L_42 hL_42 hk23
set_option maxHeartbeats 1000000 in
set_option maxRecDepth 100000 in
theorem l9B_X8_missed_L50 {v90 : Int64} (k23 : Int32 → Tr → Lo → Option (Int32 × Tr × Lo)) (S : Tr) (L : Lo) (x1 : Int32) (hL : L 0 90 = v90) (hk23 : ∀ (x2 : Int32) (S : Tr) (L : Lo), L 0 90 = v90 → Ep (k23 x2 S L) (fun q => q.2.2 0 90 = v90))  (N : Nat) : ∀ (x2 : Int32) (x3 : Int32), Ep (lpF (fun _ _ => none) (fB_X8_missed_L50 k23 S L x1) N x2 x3) (fun q => q.2.2 0 90 = v90) := by
  induction N with
  | zero => intro x2 x3; exact Ep_none
  | succ N ih =>
    intro x2 x3
    show Ep (fB_X8_missed_L50 k23 S L x1 (lpF (fun _ _ => none) (fB_X8_missed_L50 k23 S L x1) N) x2 x3) _
    have hk50 := ih
    clear ih
    generalize lpF (fun _ _ => none) (fB_X8_missed_L50 k23 S L x1) N = k50 at hk50 ⊢
    unfold fB_X8_missed_L50
    refine Ep_ite (fun _ => ?_) (fun _ => ?_)
    · exact l9J_X8_missed_J90 k23 x1 x2 S L hL hk23
    · refine Ep_ck ?_
      refine Ep_ite (fun _ => ?_) (fun _ => ?_)
      · refine Ep_ck ?_
        refine Ep_ite (fun _ => ?_) (fun _ => ?_)
        · refine Ep_lt (fun y51 ey51 => ?_)
          exact hk50 x3 y51
        · refine Ep_lt (fun y50 ey50 => ?_)
          exact hk50 x2 y50
      · refine Ep_lt (fun y47 ey47 => ?_)
        exact hk50 x2 y47
set_option maxHeartbeats 1000000 in
set_option maxRecDepth 100000 in
theorem l9L_X8_missed_L50 {v90 : Int64} (k23 : Int32 → Tr → Lo → Option (Int32 × Tr × Lo)) (S : Tr) (L : Lo) (x1 : Int32) (hL : L 0 90 = v90) (hk23 : ∀ (x2 : Int32) (S : Tr) (L : Lo), L 0 90 = v90 → Ep (k23 x2 S L) (fun q => q.2.2 0 90 = v90))  (x2 : Int32) (x3 : Int32)  : Ep (fL_X8_missed_L50 k23 S L x1 x2 x3) (fun q => q.2.2 0 90 = v90) := by
  unfold fL_X8_missed_L50
  exact l9B_X8_missed_L50 k23 S L x1 hL hk23 2000 x2 x3
set_option maxHeartbeats 1000000 in
set_option maxRecDepth 100000 in
theorem l9B_X8_missed_L23 {v90 : Int64} (x1 : Int32)    (N : Nat) : ∀ (x2 : Int32) (S : Tr) (L : Lo), L 0 90 = v90 → Ep (lpF (fun _ _ _ => none) (fB_X8_missed_L23 x1) N x2 S L) (fun q => q.2.2 0 90 = v90) := by
  induction N with
  | zero => intro x2 S L _; exact Ep_none
  | succ N ih =>
    intro x2 S L hL
    show Ep (fB_X8_missed_L23 x1 (lpF (fun _ _ _ => none) (fB_X8_missed_L23 x1) N) x2 S L) _
    have hk23 := ih
    clear ih
    generalize lpF (fun _ _ _ => none) (fB_X8_missed_L23 x1) N = k23 at hk23 ⊢
    unfold fB_X8_missed_L23
    refine Ep_ite (fun _ => ?_) (fun _ => ?_)
    · exact l9J_X8_missed_J124 x1 x2 S L hL
    · refine Ep_ite (fun _ => ?_) (fun _ => ?_)
      · exact l9J_X8_missed_J124 x1 x2 S L hL
      · refine Ep_bd (l9_X8_outs S L (1 : Int32) hL) (fun q hq => ?_)
        refine Ep_lt (fun S_30 eS_30 => ?_)
        refine Ep_lt (fun L_31 eL_31 => ?_)
        have hL_31 : L_31 0 90 = v90 := by rw [eL_31]; exact hq
        refine Ep_lt (fun y34 ey34 => ?_)
        exact l9L_X8_missed_L50 k23 S_30 L_31 x1 hL_31 hk23 x2 y34
set_option maxHeartbeats 1000000 in
set_option maxRecDepth 100000 in
theorem l9L_X8_missed_L23 {v90 : Int64} (x1 : Int32)    (x2 : Int32) (S : Tr) (L : Lo) (hL : L 0 90 = v90) : Ep (fL_X8_missed_L23 x1 x2 S L) (fun q => q.2.2 0 90 = v90) := by
  unfold fL_X8_missed_L23
  exact l9B_X8_missed_L23 x1 2000 x2 S L hL
set_option maxHeartbeats 1000000 in
set_option maxRecDepth 100000 in
theorem l9_X8_missed {v90 : Int64} (S : Tr) (L : Lo) (x1 : Int32) (hL : L 0 90 = v90)   : Ep (f_X8_missed S L x1) (fun q => q.2.2 0 90 = v90) := by
  unfold f_X8_missed
  refine Ep_lt (fun S_1 eS_1 => ?_)
  refine Ep_any (fun r2 => ?_)
  refine Ep_ite (fun _ => ?_) (fun _ => ?_)
  · exact Ep_some hL
  · refine Ep_any (fun S_6 => ?_)
    exact l9L_X8_missed_L23 x1 (-2) S_6 L hL
set_option maxHeartbeats 1000000 in
set_option maxRecDepth 100000 in
theorem l9B_X8_falls_L31 {v90 : Int64} (S : Tr) (L : Lo) (hL : L 0 90 = v90)   (N : Nat) : ∀ (x1 : Int32) (x2 : Int32), Ep (lpF (fun _ _ => none) (fB_X8_falls_L31 S L) N x1 x2) (fun q => q.2.2 0 90 = v90) := by
  induction N with
  | zero => intro x1 x2; exact Ep_none
  | succ N ih =>
    intro x1 x2
    show Ep (fB_X8_falls_L31 S L (lpF (fun _ _ => none) (fB_X8_falls_L31 S L) N) x1 x2) _
    have hk31 := ih
    clear ih
    generalize lpF (fun _ _ => none) (fB_X8_falls_L31 S L) N = k31 at hk31 ⊢
    unfold fB_X8_falls_L31
    refine Ep_ite (fun _ => ?_) (fun _ => ?_)
    · exact Ep_some hL
    · refine Ep_ck ?_
      refine Ep_ite (fun _ => ?_) (fun _ => ?_)
      · refine Ep_ck ?_
        refine Ep_ite (fun _ => ?_) (fun _ => ?_)
        · refine Ep_lt (fun y17 ey17 => ?_)
          refine Ep_lt (fun y18 ey18 => ?_)
          exact hk31 y17 y18
        · refine Ep_lt (fun y19 ey19 => ?_)
          refine Ep_lt (fun y20 ey20 => ?_)
          exact hk31 y19 y20
      · refine Ep_lt (fun y13 ey13 => ?_)
        refine Ep_lt (fun y14 ey14 => ?_)
        exact hk31 y13 y14
set_option maxHeartbeats 1000000 in
set_option maxRecDepth 100000 in
theorem l9L_X8_falls_L31 {v90 : Int64} (S : Tr) (L : Lo) (hL : L 0 90 = v90)   (x1 : Int32) (x2 : Int32)  : Ep (fL_X8_falls_L31 S L x1 x2) (fun q => q.2.2 0 90 = v90) := by
  unfold fL_X8_falls_L31
  exact l9B_X8_falls_L31 S L hL 2000 x1 x2
set_option maxHeartbeats 1000000 in
set_option maxRecDepth 100000 in
theorem l9_X8_falls {v90 : Int64} (S : Tr) (L : Lo) (hL : L 0 90 = v90)   : Ep (f_X8_falls S L) (fun q => q.2.2 0 90 = v90) := by
  unfold f_X8_falls
  refine Ep_lt (fun S_1 eS_1 => ?_)
  refine Ep_ite (fun _ => ?_) (fun _ => ?_)
  · refine Ep_any (fun S_3 => ?_)
    refine Ep_bd (l9_X8_goOn S_3 L (1 : Int32) hL) (fun q hq => ?_)
    refine Ep_lt (fun S_6 eS_6 => ?_)
    refine Ep_lt (fun L_7 eL_7 => ?_)
    have hL_7 : L_7 0 90 = v90 := by rw [eL_7]; exact hq
    exact l9L_X8_falls_L31 S_6 L_7 hL_7 0 0
  · exact Ep_some hL
set_option maxHeartbeats 1000000 in
set_option maxRecDepth 100000 in
theorem l9J_X8_asking_J76 {v90 : Int64} (x1 : Int32) (S : Tr) (L : Lo) (hL : L 0 90 = v90)   : Ep (fJ_X8_asking_J76 x1 S L) (fun q => q.2.2 0 90 = v90) := by
  unfold fJ_X8_asking_J76
  refine Ep_any (fun r11 => ?_)
  refine Ep_ite (fun _ => ?_) (fun _ => ?_)
  · exact Ep_some hL
  · refine Ep_any (fun r15 => ?_)
    exact Ep_some hL
set_option maxHeartbeats 1000000 in
set_option maxRecDepth 100000 in
theorem l9J_X8_asking_J68 {v90 : Int64} (k20 : Tr → Lo → Option (Int32 × Tr × Lo)) (x1 : Int32) (S : Tr) (L : Lo) (hL : L 0 90 = v90) (hk20 : ∀ (S : Tr) (L : Lo), L 0 90 = v90 → Ep (k20 S L) (fun q => q.2.2 0 90 = v90))  : Ep (fJ_X8_asking_J68 k20 x1 S L) (fun q => q.2.2 0 90 = v90) := by
  unfold fJ_X8_asking_J68
  refine Ep_bd (l9_X8_goOn S L (1 : Int32) hL) (fun q hq => ?_)
  refine Ep_lt (fun S_19 eS_19 => ?_)
  refine Ep_lt (fun L_20 eL_20 => ?_)
  have hL_20 : L_20 0 90 = v90 := by rw [eL_20]; exact hq
  exact hk20 S_19 L_20 hL_20
set_option maxHeartbeats 1000000 in
set_option maxRecDepth 100000 in
theorem l9B_X8_asking_L33 {v90 : Int64} (k20 : Tr → Lo → Option (Int32 × Tr × Lo)) (L : Lo) (x1 : Int32) (hL : L 0 90 = v90) (hk20 : ∀ (S : Tr) (L : Lo), L 0 90 = v90 → Ep (k20 S L) (fun q => q.2.2 0 90 = v90))  (N : Nat) : ∀ (x2 : Int32) (S : Tr), Ep (lpF (fun _ _ => none) (fB_X8_asking_L33 k20 L x1) N x2 S) (fun q => q.2.2 0 90 = v90) := by
  induction N with
  | zero => intro x2 S; exact Ep_none
  | succ N ih =>
    intro x2 S
    show Ep (fB_X8_asking_L33 k20 L x1 (lpF (fun _ _ => none) (fB_X8_asking_L33 k20 L x1) N) x2 S) _
    have hk33 := ih
    clear ih
    generalize lpF (fun _ _ => none) (fB_X8_asking_L33 k20 L x1) N = k33 at hk33 ⊢
    unfold fB_X8_asking_L33
    refine Ep_ite (fun _ => ?_) (fun _ => ?_)
    · exact l9J_X8_asking_J68 k20 x1 S L hL hk20
    · refine Ep_ck ?_
      refine Ep_ite (fun _ => ?_) (fun _ => ?_)
      · refine Ep_lt (fun y25 ey25 => ?_)
        exact hk33 y25 S
      · refine Ep_any (fun q => ?_)
        refine Ep_lt (fun r26 er26 => ?_)
        refine Ep_lt (fun S_27 eS_27 => ?_)
        refine Ep_lt (fun y30 ey30 => ?_)
        exact hk33 y30 S_27
set_option maxHeartbeats 1000000 in
set_option maxRecDepth 100000 in
theorem l9L_X8_asking_L33 {v90 : Int64} (k20 : Tr → Lo → Option (Int32 × Tr × Lo)) (L : Lo) (x1 : Int32) (hL : L 0 90 = v90) (hk20 : ∀ (S : Tr) (L : Lo), L 0 90 = v90 → Ep (k20 S L) (fun q => q.2.2 0 90 = v90))  (x2 : Int32) (S : Tr)  : Ep (fL_X8_asking_L33 k20 L x1 x2 S) (fun q => q.2.2 0 90 = v90) := by
  unfold fL_X8_asking_L33
  exact l9B_X8_asking_L33 k20 L x1 hL hk20 2000 x2 S
set_option maxHeartbeats 1000000 in
set_option maxRecDepth 100000 in
theorem l9B_X8_asking_L20 {v90 : Int64} (x1 : Int32)    (N : Nat) : ∀ (S : Tr) (L : Lo), L 0 90 = v90 → Ep (lpF (fun _ _ => none) (fB_X8_asking_L20 x1) N S L) (fun q => q.2.2 0 90 = v90) := by
  induction N with
  | zero => intro S L _; exact Ep_none
  | succ N ih =>
    intro S L hL
    show Ep (fB_X8_asking_L20 x1 (lpF (fun _ _ => none) (fB_X8_asking_L20 x1) N) S L) _
    have hk20 := ih
    clear ih
    generalize lpF (fun _ _ => none) (fB_X8_asking_L20 x1) N = k20 at hk20 ⊢
    unfold fB_X8_asking_L20
    refine Ep_ite (fun _ => ?_) (fun _ => ?_)
    · exact l9J_X8_asking_J76 x1 S L hL
    · exact l9L_X8_asking_L33 k20 L x1 hL hk20 0 S
set_option maxHeartbeats 1000000 in
set_option maxRecDepth 100000 in
theorem l9L_X8_asking_L20 {v90 : Int64} (x1 : Int32)    (S : Tr) (L : Lo) (hL : L 0 90 = v90) : Ep (fL_X8_asking_L20 x1 S L) (fun q => q.2.2 0 90 = v90) := by
  unfold fL_X8_asking_L20
  exact l9B_X8_asking_L20 x1 2000 S L hL
set_option maxHeartbeats 1000000 in
set_option maxRecDepth 100000 in
theorem l9_X8_asking {v90 : Int64} (S : Tr) (L : Lo) (hL : L 0 90 = v90)   : Ep (f_X8_asking S L) (fun q => q.2.2 0 90 = v90) := by
  unfold f_X8_asking
  refine Ep_lt (fun S_1 eS_1 => ?_)
  refine Ep_bd (l9_X8_liftsBy S_1 L (S_1 23 0) hL) (fun q hq => ?_)
  refine Ep_lt (fun r2 er2 => ?_)
  refine Ep_lt (fun S_3 eS_3 => ?_)
  refine Ep_lt (fun L_4 eL_4 => ?_)
  have hL_4 : L_4 0 90 = v90 := by rw [eL_4]; exact hq
  refine Ep_any (fun S_7 => ?_)
  exact l9L_X8_asking_L20 r2 S_7 L_4 hL_4
set_option maxHeartbeats 1000000 in
set_option maxRecDepth 100000 in
theorem l9_X8_feet {v90 : Int64} (S : Tr) (L : Lo) (hL : L 0 90 = v90)   : Ep (f_X8_feet S L) (fun q => q.2.2 0 90 = v90) := by
  unfold f_X8_feet
  refine Ep_lt (fun S_1 eS_1 => ?_)
  refine Ep_any (fun S_2 => ?_)
  refine Ep_bd (l9_X8_toEnd S_2 L hL) (fun q hq => ?_)
  refine Ep_lt (fun S_5 eS_5 => ?_)
  refine Ep_lt (fun L_6 eL_6 => ?_)
  have hL_6 : L_6 0 90 = v90 := by rw [eL_6]; exact hq
  exact Ep_some hL_6
set_option maxHeartbeats 1000000 in
set_option maxRecDepth 100000 in
theorem l9B_X8_fits_L19 {v90 : Int64}     (N : Nat) : ∀ (S : Tr) (L : Lo), L 0 90 = v90 → Ep (lpF (fun _ _ => none) (fB_X8_fits_L19) N S L) (fun q => q.2.2 0 90 = v90) := by
  induction N with
  | zero => intro S L _; exact Ep_none
  | succ N ih =>
    intro S L hL
    show Ep (fB_X8_fits_L19 (lpF (fun _ _ => none) (fB_X8_fits_L19) N) S L) _
    have hk19 := ih
    clear ih
    generalize lpF (fun _ _ => none) (fB_X8_fits_L19) N = k19 at hk19 ⊢
    unfold fB_X8_fits_L19
    refine Ep_ite (fun _ => ?_) (fun _ => ?_)
    · exact Ep_some hL
    · refine Ep_bd (l9_X8_outs S L (1 : Int32) hL) (fun q hq => ?_)
      refine Ep_lt (fun S_10 eS_10 => ?_)
      refine Ep_lt (fun L_11 eL_11 => ?_)
      have hL_11 : L_11 0 90 = v90 := by rw [eL_11]; exact hq
      refine Ep_any (fun S_14 => ?_)
      refine Ep_any (fun r17 => ?_)
      refine Ep_ite (fun _ => ?_) (fun _ => ?_)
      · exact Ep_some hL_11
      · refine Ep_bd (l9_X8_onTheWay S_14 L_11 (1 : Int32) hL_11) (fun q hq => ?_)
        refine Ep_lt (fun S_21 eS_21 => ?_)
        refine Ep_lt (fun L_22 eL_22 => ?_)
        have hL_22 : L_22 0 90 = v90 := by rw [eL_22]; exact hq
        refine Ep_lt (fun S_25 eS_25 => ?_)
        exact hk19 S_25 L_22 hL_22
set_option maxHeartbeats 1000000 in
set_option maxRecDepth 100000 in
theorem l9L_X8_fits_L19 {v90 : Int64}     (S : Tr) (L : Lo) (hL : L 0 90 = v90) : Ep (fL_X8_fits_L19 S L) (fun q => q.2.2 0 90 = v90) := by
  unfold fL_X8_fits_L19
  exact l9B_X8_fits_L19 2000 S L hL
set_option maxHeartbeats 1000000 in
set_option maxRecDepth 100000 in
theorem l9_X8_fits {v90 : Int64} (S : Tr) (L : Lo) (x1 : Int32) (x2 : Int32) (hL : L 0 90 = v90)   : Ep (f_X8_fits S L x1 x2) (fun q => q.2.2 0 90 = v90) := by
  unfold f_X8_fits
  refine Ep_any (fun S_1 => ?_)
  refine Ep_any (fun S_4 => ?_)
  refine Ep_ck ?_
  refine Ep_lt (fun S_8 eS_8 => ?_)
  exact l9L_X8_fits_L19 S_8 L hL
set_option maxHeartbeats 1000000 in
set_option maxRecDepth 100000 in
theorem l9B_X8_got_L95 {v90 : Int64} (x1 : Int32)    (N : Nat) : ∀ (x2 : Int32) (x3 : Int32) (S : Tr) (L : Lo), L 0 90 = v90 → Ep (lpF (fun _ _ _ _ => none) (fB_X8_got_L95 x1) N x2 x3 S L) (fun q => q.2.2 0 90 = v90) := by
  induction N with
  | zero => intro x2 x3 S L _; exact Ep_none
  | succ N ih =>
    intro x2 x3 S L hL
    show Ep (fB_X8_got_L95 x1 (lpF (fun _ _ _ _ => none) (fB_X8_got_L95 x1) N) x2 x3 S L) _
    have hk95 := ih
    clear ih
    generalize lpF (fun _ _ _ _ => none) (fB_X8_got_L95 x1) N = k95 at hk95 ⊢
    unfold fB_X8_got_L95
    refine Ep_ck ?_
    refine Ep_ite (fun _ => ?_) (fun _ => ?_)
    · exact Ep_some hL
    · refine Ep_bd (l9_X8_fits S L x1 x3 hL) (fun q hq => ?_)
      refine Ep_lt (fun r17 er17 => ?_)
      refine Ep_lt (fun S_18 eS_18 => ?_)
      refine Ep_lt (fun L_19 eL_19 => ?_)
      have hL_19 : L_19 0 90 = v90 := by rw [eL_19]; exact hq
      refine Ep_ite (fun _ => ?_) (fun _ => ?_)
      · refine Ep_lt (fun y23 ey23 => ?_)
        refine Ep_lt (fun y24 ey24 => ?_)
        exact hk95 y23 y24 S_18 L_19 hL_19
      · refine Ep_lt (fun y25 ey25 => ?_)
        refine Ep_lt (fun y26 ey26 => ?_)
        exact hk95 y25 y26 S_18 L_19 hL_19
set_option maxHeartbeats 1000000 in
set_option maxRecDepth 100000 in
theorem l9L_X8_got_L95 {v90 : Int64} (x1 : Int32)    (x2 : Int32) (x3 : Int32) (S : Tr) (L : Lo) (hL : L 0 90 = v90) : Ep (fL_X8_got_L95 x1 x2 x3 S L) (fun q => q.2.2 0 90 = v90) := by
  unfold fL_X8_got_L95
  exact l9B_X8_got_L95 x1 2000 x2 x3 S L hL
set_option maxHeartbeats 1000000 in
set_option maxRecDepth 100000 in
theorem l9B_X8_got_L45 {v90 : Int64} (L : Lo) (x1 : Int32) (hL : L 0 90 = v90)   (N : Nat) : ∀ (x2 : Int32) (S : Tr), Ep (lpF (fun _ _ => none) (fB_X8_got_L45 L x1) N x2 S) (fun q => q.2.2 0 90 = v90) := by
  induction N with
  | zero => intro x2 S; exact Ep_none
  | succ N ih =>
    intro x2 S
    show Ep (fB_X8_got_L45 L x1 (lpF (fun _ _ => none) (fB_X8_got_L45 L x1) N) x2 S) _
    have hk45 := ih
    clear ih
    generalize lpF (fun _ _ => none) (fB_X8_got_L45 L x1) N = k45 at hk45 ⊢
    unfold fB_X8_got_L45
    refine Ep_ite (fun _ => ?_) (fun _ => ?_)
    · exact l9L_X8_got_L95 x1 0 0 S L hL
    · refine Ep_ck ?_
      refine Ep_ite (fun _ => ?_) (fun _ => ?_)
      · refine Ep_lt (fun y29 ey29 => ?_)
        exact hk45 y29 S
      · refine Ep_ck ?_
        refine Ep_ite (fun _ => ?_) (fun _ => ?_)
        · refine Ep_lt (fun y32 ey32 => ?_)
          exact hk45 y32 S
        · refine Ep_ck ?_
          refine Ep_ck ?_
          refine Ep_lt (fun S_35 eS_35 => ?_)
          refine Ep_lt (fun y36 ey36 => ?_)
          exact hk45 y36 S_35
set_option maxHeartbeats 1000000 in
set_option maxRecDepth 100000 in
theorem l9L_X8_got_L45 {v90 : Int64} (L : Lo) (x1 : Int32) (hL : L 0 90 = v90)   (x2 : Int32) (S : Tr)  : Ep (fL_X8_got_L45 L x1 x2 S) (fun q => q.2.2 0 90 = v90) := by
  unfold fL_X8_got_L45
  exact l9B_X8_got_L45 L x1 hL 2000 x2 S
set_option maxHeartbeats 1000000 in
set_option maxRecDepth 100000 in
theorem l9J_X8_got_J38 {v90 : Int64} (x1 : Int32) (S : Tr) (L : Lo) (hL : L 0 90 = v90)   : Ep (fJ_X8_got_J38 x1 S L) (fun q => q.2.2 0 90 = v90) := by
  unfold fJ_X8_got_J38
  refine Ep_any (fun r10 => ?_)
  refine Ep_lt (fun y13 ey13 => ?_)
  exact l9L_X8_got_L45 L x1 hL y13 S
set_option maxHeartbeats 1000000 in
set_option maxRecDepth 100000 in
theorem l9B_X8_got_L17 {v90 : Int64} (L : Lo) (x1 : Int32) (hL : L 0 90 = v90)   (N : Nat) : ∀ (x2 : Int32) (S : Tr), Ep (lpF (fun _ _ => none) (fB_X8_got_L17 L x1) N x2 S) (fun q => q.2.2 0 90 = v90) := by
  induction N with
  | zero => intro x2 S; exact Ep_none
  | succ N ih =>
    intro x2 S
    show Ep (fB_X8_got_L17 L x1 (lpF (fun _ _ => none) (fB_X8_got_L17 L x1) N) x2 S) _
    have hk17 := ih
    clear ih
    generalize lpF (fun _ _ => none) (fB_X8_got_L17 L x1) N = k17 at hk17 ⊢
    unfold fB_X8_got_L17
    refine Ep_any (fun r6 => ?_)
    refine Ep_ite (fun _ => ?_) (fun _ => ?_)
    · exact l9J_X8_got_J38 x1 S L hL
    · refine Ep_ck ?_
      refine Ep_lt (fun S_38 eS_38 => ?_)
      refine Ep_lt (fun y39 ey39 => ?_)
      exact hk17 y39 S_38
set_option maxHeartbeats 1000000 in
set_option maxRecDepth 100000 in
theorem l9L_X8_got_L17 {v90 : Int64} (L : Lo) (x1 : Int32) (hL : L 0 90 = v90)   (x2 : Int32) (S : Tr)  : Ep (fL_X8_got_L17 L x1 x2 S) (fun q => q.2.2 0 90 = v90) := by
  unfold fL_X8_got_L17
  exact l9B_X8_got_L17 L x1 hL 2000 x2 S
set_option maxHeartbeats 1000000 in
set_option maxRecDepth 100000 in
theorem l9_X8_got {v90 : Int64} (S : Tr) (L : Lo) (x1 : Int32) (hL : L 0 90 = v90)   : Ep (f_X8_got S L x1) (fun q => q.2.2 0 90 = v90) := by
  unfold f_X8_got
  refine Ep_lt (fun S_1 eS_1 => ?_)
  refine Ep_any (fun r2 => ?_)
  refine Ep_ite (fun _ => ?_) (fun _ => ?_)
  · exact Ep_some hL
  · exact l9L_X8_got_L17 L x1 hL 0 S_1
set_option maxHeartbeats 1000000 in
set_option maxRecDepth 100000 in
theorem l9J_X8_chance_J85 {v90 : Int64} (x3 : Int64) (x5 : Int32) (S : Tr) (L : Lo) (hL : L 0 90 = v90)   : Ep (fJ_X8_chance_J85 x3 x5 S L) (fun q => q.2.2 0 90 = v90) := by
  unfold fJ_X8_chance_J85
  refine Ep_lt (fun S_10 eS_10 => ?_)
  refine Ep_lt (fun L_11 eL_11 => ?_)
  have hL_11 : L_11 0 90 = v90 := by rw [eL_11]; exact l90_s hL (by omega)
  exact Ep_some hL_11
set_option maxHeartbeats 1000000 in
set_option maxRecDepth 100000 in
theorem l9B_X8_chance_L36 {v90 : Int64} (x2 : Int32) (x3 : Int64)    (N : Nat) : ∀ (x5 : Int32) (x6 : Int32) (S : Tr) (L : Lo), L 0 90 = v90 → Ep (lpF (fun _ _ _ _ => none) (fB_X8_chance_L36 x2 x3) N x5 x6 S L) (fun q => q.2.2 0 90 = v90) := by
  induction N with
  | zero => intro x5 x6 S L _; exact Ep_none
  | succ N ih =>
    intro x5 x6 S L hL
    show Ep (fB_X8_chance_L36 x2 x3 (lpF (fun _ _ _ _ => none) (fB_X8_chance_L36 x2 x3) N) x5 x6 S L) _
    have hk36 := ih
    clear ih
    generalize lpF (fun _ _ _ _ => none) (fB_X8_chance_L36 x2 x3) N = k36 at hk36 ⊢
    unfold fB_X8_chance_L36
    refine Ep_ite (fun _ => ?_) (fun _ => ?_)
    · exact l9J_X8_chance_J85 x3 x5 S L hL
    · refine Ep_any (fun S_12 => ?_)
      refine Ep_lt (fun S_15 eS_15 => ?_)
      refine Ep_bd (l9_X8_toEnd S_15 L hL) (fun q hq => ?_)
      refine Ep_lt (fun S_16 eS_16 => ?_)
      refine Ep_lt (fun L_17 eL_17 => ?_)
      have hL_17 : L_17 0 90 = v90 := by rw [eL_17]; exact hq
      refine Ep_ck ?_
      refine Ep_ite (fun _ => ?_) (fun _ => ?_)
      · refine Ep_lt (fun y24 ey24 => ?_)
        refine Ep_lt (fun y25 ey25 => ?_)
        exact hk36 y24 y25 S_16 L_17 hL_17
      · refine Ep_lt (fun y22 ey22 => ?_)
        refine Ep_lt (fun y23 ey23 => ?_)
        exact hk36 y22 y23 S_16 L_17 hL_17
set_option maxHeartbeats 1000000 in
set_option maxRecDepth 100000 in
theorem l9L_X8_chance_L36 {v90 : Int64} (x2 : Int32) (x3 : Int64)    (x5 : Int32) (x6 : Int32) (S : Tr) (L : Lo) (hL : L 0 90 = v90) : Ep (fL_X8_chance_L36 x2 x3 x5 x6 S L) (fun q => q.2.2 0 90 = v90) := by
  unfold fL_X8_chance_L36
  exact l9B_X8_chance_L36 x2 x3 2000 x5 x6 S L hL
set_option maxHeartbeats 1000000 in
set_option maxRecDepth 100000 in
theorem l9_X8_chance {v90 : Int64} (S : Tr) (L : Lo) (x1 : Int32) (x2 : Int32) (hL : L 0 90 = v90)   : Ep (f_X8_chance S L x1 x2) (fun q => q.2.2 0 90 = v90) := by
  unfold f_X8_chance
  refine Ep_lt (fun S_1 eS_1 => ?_)
  refine Ep_ite (fun _ => ?_) (fun _ => ?_)
  · exact Ep_some hL
  · refine Ep_any (fun r3 => ?_)
    refine Ep_ite (fun _ => ?_) (fun _ => ?_)
    · exact Ep_some hL
    · refine Ep_lt (fun y7 ey7 => ?_)
      refine Ep_lt (fun L_8 eL_8 => ?_)
      have hL_8 : L_8 0 90 = v90 := by rw [eL_8]; exact l90_s hL (by omega)
      exact l9L_X8_chance_L36 x2 y7 0 0 S_1 L_8 hL_8
set_option maxHeartbeats 1000000 in
set_option maxRecDepth 100000 in
theorem l9J_X8_tried_J156 {v90 : Int64} (S : Tr) (L : Lo) (hL : L 0 90 = v90)   : Ep (fJ_X8_tried_J156 S L) (fun q => q.2.2 0 90 = v90) := by
  unfold fJ_X8_tried_J156
  refine Ep_bd (l9_X8_toEnd S L hL) (fun q hq => ?_)
  refine Ep_lt (fun S_24 eS_24 => ?_)
  refine Ep_lt (fun L_25 eL_25 => ?_)
  have hL_25 : L_25 0 90 = v90 := by rw [eL_25]; exact hq
  refine Ep_any (fun S_28 => ?_)
  refine Ep_any (fun r31 => ?_)
  exact Ep_some hL_25
set_option maxHeartbeats 1000000 in
set_option maxRecDepth 100000 in
theorem l9J_X8_tried_J146 {v90 : Int64} (x2 : Int32) (S : Tr) (L : Lo) (hL : L 0 90 = v90)   : Ep (fJ_X8_tried_J146 x2 S L) (fun q => q.2.2 0 90 = v90) := by
  unfold fJ_X8_tried_J146
  refine Ep_ck ?_
  refine Ep_lt (fun S_36 eS_36 => ?_)
  exact l9J_X8_tried_J156 S_36 L hL
set_option maxHeartbeats 1000000 in
set_option maxRecDepth 100000 in
theorem l9B_X8_tried_L102 {v90 : Int64} (L : Lo) (x2 : Int32) (hL : L 0 90 = v90)   (N : Nat) : ∀ (x3 : Int32) (S : Tr), Ep (lpF (fun _ _ => none) (fB_X8_tried_L102 L x2) N x3 S) (fun q => q.2.2 0 90 = v90) := by
  induction N with
  | zero => intro x3 S; exact Ep_none
  | succ N ih =>
    intro x3 S
    show Ep (fB_X8_tried_L102 L x2 (lpF (fun _ _ => none) (fB_X8_tried_L102 L x2) N) x3 S) _
    have hk102 := ih
    clear ih
    generalize lpF (fun _ _ => none) (fB_X8_tried_L102 L x2) N = k102 at hk102 ⊢
    unfold fB_X8_tried_L102
    refine Ep_ite (fun _ => ?_) (fun _ => ?_)
    · exact l9J_X8_tried_J146 x2 S L hL
    · refine Ep_ck ?_
      refine Ep_ite (fun _ => ?_) (fun _ => ?_)
      · refine Ep_ck ?_
        refine Ep_ite (fun _ => ?_) (fun _ => ?_)
        · refine Ep_any (fun S_43 => ?_)
          refine Ep_lt (fun y46 ey46 => ?_)
          exact hk102 y46 S_43
        · refine Ep_lt (fun y42 ey42 => ?_)
          exact hk102 y42 S
      · refine Ep_lt (fun y39 ey39 => ?_)
        exact hk102 y39 S
set_option maxHeartbeats 1000000 in
set_option maxRecDepth 100000 in
theorem l9L_X8_tried_L102 {v90 : Int64} (L : Lo) (x2 : Int32) (hL : L 0 90 = v90)   (x3 : Int32) (S : Tr)  : Ep (fL_X8_tried_L102 L x2 x3 S) (fun q => q.2.2 0 90 = v90) := by
  unfold fL_X8_tried_L102
  exact l9B_X8_tried_L102 L x2 hL 2000 x3 S
set_option maxHeartbeats 1000000 in
set_option maxRecDepth 100000 in
theorem l9J_X8_tried_J92 {v90 : Int64} (x1 : Int32) (x2 : Int32) (s0 : Int32) (S : Tr) (L : Lo) (hL : L 0 90 = v90)   : Ep (fJ_X8_tried_J92 x1 x2 s0 S L) (fun q => q.2.2 0 90 = v90) := by
  unfold fJ_X8_tried_J92
  refine Ep_ck ?_
  refine Ep_lt (fun S_22 eS_22 => ?_)
  refine Ep_ite (fun _ => ?_) (fun _ => ?_)
  · exact l9L_X8_tried_L102 L x2 hL 0 S_22
  · exact l9J_X8_tried_J156 S_22 L hL
set_option maxHeartbeats 1000000 in
set_option maxRecDepth 100000 in
theorem l9J_X8_tried_J78 {v90 : Int64} (x1 : Int32) (x2 : Int32) (s0 : Int32) (S : Tr) (L : Lo) (hL : L 0 90 = v90)   : Ep (fJ_X8_tried_J78 x1 x2 s0 S L) (fun q => q.2.2 0 90 = v90) := by
  unfold fJ_X8_tried_J78
  refine Ep_ck ?_
  refine Ep_lt (fun S_19 eS_19 => ?_)
  refine Ep_ite (fun _ => ?_) (fun _ => ?_)
  · exact l9J_X8_tried_J92 x1 x2 1 S_19 L hL
  · exact l9J_X8_tried_J92 x1 x2 0 S_19 L hL
set_option maxHeartbeats 1000000 in
set_option maxRecDepth 100000 in
theorem l9J_X8_tried_J64 {v90 : Int64} (x1 : Int32) (x2 : Int32) (s0 : Int32) (S : Tr) (L : Lo) (hL : L 0 90 = v90)   : Ep (fJ_X8_tried_J64 x1 x2 s0 S L) (fun q => q.2.2 0 90 = v90) := by
  unfold fJ_X8_tried_J64
  refine Ep_ck ?_
  refine Ep_lt (fun S_16 eS_16 => ?_)
  refine Ep_ite (fun _ => ?_) (fun _ => ?_)
  · exact l9J_X8_tried_J78 x1 x2 1 S_16 L hL
  · exact l9J_X8_tried_J78 x1 x2 0 S_16 L hL
set_option maxHeartbeats 1000000 in
set_option maxRecDepth 100000 in
theorem l9J_X8_tried_J50 {v90 : Int64} (x1 : Int32) (x2 : Int32) (s0 : Int32) (S : Tr) (L : Lo) (hL : L 0 90 = v90)   : Ep (fJ_X8_tried_J50 x1 x2 s0 S L) (fun q => q.2.2 0 90 = v90) := by
  unfold fJ_X8_tried_J50
  refine Ep_ck ?_
  refine Ep_lt (fun S_13 eS_13 => ?_)
  refine Ep_ite (fun _ => ?_) (fun _ => ?_)
  · exact l9J_X8_tried_J64 x1 x2 1 S_13 L hL
  · exact l9J_X8_tried_J64 x1 x2 0 S_13 L hL
set_option maxHeartbeats 1000000 in
set_option maxRecDepth 100000 in
theorem l9J_X8_tried_J36 {v90 : Int64} (x1 : Int32) (x2 : Int32) (S : Tr) (L : Lo) (hL : L 0 90 = v90)   : Ep (fJ_X8_tried_J36 x1 x2 S L) (fun q => q.2.2 0 90 = v90) := by
  unfold fJ_X8_tried_J36
  refine Ep_any (fun S_8 => ?_)
  refine Ep_ite (fun _ => ?_) (fun _ => ?_)
  · exact l9J_X8_tried_J50 x1 x2 1 S_8 L hL
  · exact l9J_X8_tried_J50 x1 x2 0 S_8 L hL
set_option maxHeartbeats 1000000 in
set_option maxRecDepth 100000 in
theorem l9_X8_tried {v90 : Int64} (S : Tr) (L : Lo) (x1 : Int32) (x2 : Int32) (hL : L 0 90 = v90)   : Ep (f_X8_tried S L x1 x2) (fun q => q.2.2 0 90 = v90) := by
  unfold f_X8_tried
  refine Ep_lt (fun S_1 eS_1 => ?_)
  refine Ep_any (fun r2 => ?_)
  refine Ep_ite (fun _ => ?_) (fun _ => ?_)
  · exact Ep_some hL
  · refine Ep_ite (fun _ => ?_) (fun _ => ?_)
    · refine Ep_any (fun r47 => ?_)
      refine Ep_ite (fun _ => ?_) (fun _ => ?_)
      · exact Ep_some hL
      · exact l9J_X8_tried_J36 x1 x2 S_1 L hL
    · refine Ep_ite (fun _ => ?_) (fun _ => ?_)
      · exact l9J_X8_tried_J36 x1 x2 S_1 L hL
      · exact Ep_some hL
set_option maxHeartbeats 1000000 in
set_option maxRecDepth 100000 in
theorem o9_X6_worked {T0 : Tr} (T : Tr) (P : Tr) (L : Lo) (x1 : Int32) (x2 : Int32) (x3 : Int32) (hT : o19 T0 T)   : Ep (f_X6_worked T P L x1 x2 x3) (fun q => o19 T0 q.2.1) := by
  unfold f_X6_worked
  refine Ep_ck ?_
  refine Ep_lt (fun y2 ey2 => ?_)
  refine Ep_ck ?_
  refine Ep_ite (fun _ => ?_) (fun _ => ?_)
  · exact Ep_some hT
  · refine Ep_ite (fun _ => ?_) (fun _ => ?_)
    · refine Ep_lt (fun T_6 eT_6 => ?_)
      have hT_6 : o19 T0 T_6 := by rw [eT_6]; exact o19_s hT
      refine Ep_lt (fun T_7 eT_7 => ?_)
      have hT_7 : o19 T0 T_7 := by rw [eT_7]; exact o19_s hT_6
      refine Ep_ck ?_
      refine Ep_any (fun r9 => ?_)
      refine Ep_lt (fun T_12 eT_12 => ?_)
      have hT_12 : o19 T0 T_12 := by rw [eT_12]; exact o19_s hT_7
      refine Ep_lt (fun T_13 eT_13 => ?_)
      have hT_13 : o19 T0 T_13 := by rw [eT_13]; exact o19_s hT_12
      refine Ep_lt (fun T_14 eT_14 => ?_)
      have hT_14 : o19 T0 T_14 := by rw [eT_14]; exact o19_s hT_13
      refine Ep_lt (fun T_15 eT_15 => ?_)
      have hT_15 : o19 T0 T_15 := by rw [eT_15]; exact o19_s hT_14
      refine Ep_lt (fun T_16 eT_16 => ?_)
      have hT_16 : o19 T0 T_16 := by rw [eT_16]; exact o19_s hT_15
      refine Ep_any (fun q => ?_)
      refine Ep_lt (fun r17 er17 => ?_)
      refine Ep_lt (fun L_18 eL_18 => ?_)
      exact Ep_some hT_16
    · exact Ep_some hT
set_option maxHeartbeats 1000000 in
set_option maxRecDepth 100000 in
theorem o9n_X7_law {T0 : Tr} (pa : Nat → Nat) (qa : Nat → Nat) (P : Tr) (L : Lo) (Tn : Tr) (q0 : Nat) (q4 : Nat) (x1 : Int32) (x2 : Int32) (hTn : o19 T0 Tn)   : Ep (f_X7_law pa qa P L Tn q0 q4 x1 x2) (fun q => o19 T0 q.2.2) := by
  unfold f_X7_law
  refine Ep_ite (fun _ => ?_) (fun _ => ?_)
  · exact Ep_some hTn
  · refine Ep_ite (fun _ => ?_) (fun _ => ?_)
    · exact Ep_some hTn
    · refine Ep_any (fun r3 => ?_)
      refine Ep_ite (fun _ => ?_) (fun _ => ?_)
      · exact Ep_some hTn
      · refine Ep_ck ?_
        refine Ep_ck ?_
        refine Ep_ck ?_
        refine Ep_ck ?_
        refine Ep_bd (o9_X6_worked Tn P L x1 x2 (Tn 10 (P 14 x2.toNatClampNeg).toNatClampNeg) hTn) (fun q hq => ?_)
        refine Ep_lt (fun r11 er11 => ?_)
        refine Ep_lt (fun Tn_12 eTn_12 => ?_)
        have hTn_12 : o19 T0 Tn_12 := by rw [eTn_12]; exact hq
        refine Ep_lt (fun L_13 eL_13 => ?_)
        exact Ep_some hTn_12
/-- chance puts the number back -/
theorem u_X8_chance (S : Tr) (L : Lo) (x1 x2 : Int32) (hS : S 0 65 = 0) : Ep (f_X8_chance S L x1 x2) (fun q => q.2.1 0 65 = 0 ∧ q.2.2 0 63 = L 0 63) := by
  have lp : ∀ (N : Nat) (x5 x6 : Int32) (S1 : Tr) (L1 : Lo), Ep (lpF (fun _ _ _ _ => none) (fB_X8_chance_L36 x2 (L 0 63)) N x5 x6 S1 L1) (fun q => q.2.1 0 65 = 0 ∧ q.2.2 0 63 = L 0 63) := by
    intro N
    induction N with
    | zero => intro x5 x6 S1 L1; exact Ep_none
    | succ N ih =>
      intro x5 x6 S1 L1
      show Ep (fB_X8_chance_L36 x2 (L 0 63) (lpF (fun _ _ _ _ => none) (fB_X8_chance_L36 x2 (L 0 63)) N) x5 x6 S1 L1) _
      generalize lpF (fun _ _ _ _ => none) (fB_X8_chance_L36 x2 (L 0 63)) N = k at ih ⊢
      unfold fB_X8_chance_L36
      refine Ep_ite (fun _ => ?_) (fun _ => Ep_any (fun S12 => Ep_lt (fun S15 _ => Ep_any (fun q => Ep_lt (fun S16 _ => Ep_lt (fun L17 _ => Ep_ck (Ep_ite (fun _ => Ep_lt (fun y24 _ => Ep_lt (fun y25 _ => ih y24 y25 S16 L17))) (fun _ => Ep_lt (fun y22 _ => Ep_lt (fun y23 _ => ih y22 y23 S16 L17))))))))))
      unfold fJ_X8_chance_J85
      exact Ep_lt (fun S10 e10 => Ep_lt (fun L11 e11 => Ep_some ⟨by show S10 0 65 = 0; rw [e10, st_same], by show L11 0 63 = _; rw [e11, stL_same]⟩))
  unfold f_X8_chance
  refine Ep_lt (fun S1 e1 => ?_)
  have z : S1 0 65 = 0 := by rw [e1, st_ne (by decide)]; exact hS
  refine Ep_ite (fun _ => Ep_some ⟨z, rfl⟩) (fun _ => Ep_any (fun r3 => Ep_ite (fun _ => Ep_some ⟨z, rfl⟩) (fun _ => Ep_lt (fun y7 e7 => Ep_lt (fun L8 _ => ?_)))))
  rw [e7]
  unfold fL_X8_chance_L36
  exact lp 2000 0 0 S1 L8
/-! what stays -/
def bwR (P X C T Ti S : Tr) (L : Lo) : Prop := Nw P T S L ∧ uR P C S ∧ imR P X Ti S L
theorem bw_f {P X C T Ti S S1 : Tr} {L : Lo} (h : bwR P X C T Ti S L) (f : nwF S S1) (hj : jR S1) : bwR P X C T Ti S1 L := by
  obtain ⟨h1, h2, h3⟩ := h
  have h13 : 0 ≤ (S 0 13).toInt ∧ (S 0 13).toInt ≤ 6 := h1.1.1 0 13
  have h14 : 0 ≤ (S 0 14).toInt ∧ (S 0 14).toInt ≤ 10 := h1.1.1 0 14
  have g : ∀ a j, nwc a j → S1 a j = S a j := f
  refine ⟨Nw_of h1 ⟨hj.1, hj.2.1, hj.2.2.1⟩ (fun a j q => g a j (Or.inl q)) ((g 0 65 (by unfold nwc; omega)).trans h1.2.2.2.2.2.2.2.1.2.2) rfl, uR_o h2 (g 0 82 (by unfold nwc; omega)) (fun j a b => g 0 j (by unfold nwc h0c; omega)) (fun j => g 84 j (by unfold nwc; omega)), imR_o h3 h13.2 h14.2 (fun j q => g 0 j (by unfold nwc h0c; omega)) (fun a j q => g a j (by unfold nwc h0c; omega)) rfl⟩
theorem bw_G {P X C T Ti S S1 : Tr} {L L1 : Lo} (h : bwR P X C T Ti S L) (a : aG 1 S S1) (hj : jR S1) (h65 : S1 0 65 = 0) (h63 : L1 0 63 = L 0 63) (h90 : L1 0 90 = L 0 90) : bwR P X C T Ti S1 L1 := by
  obtain ⟨h1, h2, h3⟩ := h
  have h13 : 0 ≤ (S 0 13).toInt ∧ (S 0 13).toInt ≤ 6 := h1.1.1 0 13
  have h14 : 0 ≤ (S 0 14).toInt ∧ (S 0 14).toInt ≤ 10 := h1.1.1 0 14
  have g : ∀ c j, h0c c j → S1 c j = S c j := fun c j q => a c j (Wb_h q)
  refine ⟨Nw_q h1 hj.1 hj.2.1 hj.2.2.1 a h65 h63, uR_o h2 (a 0 82 rfl) (fun j p q => g 0 j (by unfold h0c; omega)) (fun j => a 84 j rfl), imR_o h3 h13.2 h14.2 (fun j q => ?_) (fun c j q => ?_) h90⟩
  · rcases q with q | rfl | rfl
    · exact g 0 j (by unfold h0c; omega)
    · exact a 0 88 rfl
    · exact a 0 89 rfl
  · rcases (by unfold h0c; omega : h0c c j ∨ c = 86 ∨ c = 87 ∨ c = 88) with q | rfl | rfl | rfl
    · exact g c j q
    · exact a 86 j rfl
    · exact a 87 j rfl
    · exact a 88 j rfl
theorem Nw_19 {P T T1 S : Tr} {L : Lo} (h : Nw P T S L) (f : o19 T T1) : Nw P T1 S L := by
  obtain ⟨hS, hK, hd, hv, n9, n13, nr, nl, na⟩ := h
  refine ⟨hS, hK, dyn_e hd hS.1 (fun a j q => f a j (by omega)) (fun _ _ _ => rfl), hv, fun p hp => by rw [f 9 p (by omega), f 10 p (by omega)]; exact n9 p hp, fun i hi => by rw [f 13 i (by omega)]; exact n13 i hi, ?_, ?_, na⟩
  · rw [f 0 3 (by omega), f 0 4 (by omega), f 0 6 (by omega), f 0 7 (by omega)]; exact nr
  · rw [f 0 2 (by omega)]; exact nl
theorem bw_19 {P X C T T1 Ti S : Tr} {L : Lo} (h : bwR P X C T Ti S L) (f : o19 T T1) : bwR P X C T1 Ti S L := ⟨Nw_19 h.1 f, h.2⟩
theorem bw_X {P X X1 C T Ti S : Tr} {L : Lo} (h : bwR P X C T Ti S L) (e : X1 0 4 = X 0 4) : bwR P X1 C T Ti S L := ⟨h.1, h.2.1, fun n => h.2.2 (by rw [← e]; exact n)⟩
/-- the image stays where the train that is now has moved -/
theorem im_mv {P T X Ti S S1 : Tr} {L L1 : Lo} (h : imR P X Ti S L) (hN : Nw P T S L) (f : imF S S1) (e57 : ∀ j, j < 6 → S1 57 j = S 57 j) (h90 : L1 0 90 = L 0 90) : imR P X Ti S1 L1 := by
  have h13 : 0 ≤ (S 0 13).toInt ∧ (S 0 13).toInt ≤ 6 := hN.1.1 0 13
  have h14 : 0 ≤ (S 0 14).toInt ∧ (S 0 14).toInt ≤ 10 := hN.1.1 0 14
  refine imR_o h h13.2 h14.2 (fun j q => f 0 j (by omega)) (fun c j q => ?_) h90
  rcases (by omega : (c = 57 ∧ j < 6) ∨ (86 ≤ c ∧ c ≤ 88) ∨ (23 ≤ c ∧ c ≤ 41)) with ⟨rfl, q2⟩ | q2 | q2
  · exact e57 j q2
  · exact f c j (Or.inl q2)
  · exact f c j (Or.inr (Or.inl q2))
theorem imF_ih {S S1 : Tr} (f : ihF S S1) : imF S S1 := fun a j q => f a j (by omega)
theorem t5_turn (S : Tr) (x1 : Int32) : Ep (f_X8_turn S x1) (fun q => ∀ j, j < 6 → q.2 57 j = S 57 j) := by
  unfold f_X8_turn
  refine Ep_lt (fun S1 e1 => ?_)
  have z : ∀ j, S1 57 j = S 57 j := fun j => by rw [e1, st_oth (by decide)]
  refine Ep_any (fun r2 => Ep_ite (fun _ => Ep_some (fun j _ => z j)) (fun _ => Ep_bd (e_layT S1) (fun S6 h6 => Ep_bd (t5_X8_turns S6 1 x1 t57_r) (fun q hq => Ep_lt (fun r9 _ => Ep_lt (fun S10 e10 => ?_))))))
  have w : ∀ j, j < 6 → S10 57 j = S 57 j := fun j hj => by
    rw [e10, hq j, h6.2.2 57 j (by omega) (by omega) (by omega) (by omega) (by omega) (by omega) (by omega), z]
  exact Ep_ite (fun _ => Ep_some w) (fun _ => Ep_bd (t5_X8_remember S10 t57_r) (fun S14 h14 => Ep_bd (t5_X8_turns S14 0 x1 t57_r) (fun q2 hq2 => Ep_lt (fun r17 _ => Ep_lt (fun S18 e18 => Ep_some (fun j hj => by show S18 57 j = _; rw [e18, hq2 j, h14 j, w j hj]))))))
/-- go -/
theorem bw_go {P X C C1 T T1 Ti S S1 : Tr} {L L1 : Lo} (h : bwR P X C T Ti S L) (hN : Nw P T1 S1 L1) (hc : (C1 = C ∧ S1 0 82 = S 0 82) ∨ (C1 = st C 0 0 0 ∧ S1 0 82 = 0)) (f : ihF S S1) (h90 : L1 0 90 = L 0 90) : bwR P X C1 T1 Ti S1 L1 := by
  obtain ⟨h1, h2, h3⟩ := h
  refine ⟨hN, ?_, im_mv h3 h1 (imF_ih f) (fun j _ => f 57 j (by omega)) h90⟩
  rcases hc with ⟨rfl, e⟩ | ⟨rfl, e⟩
  · exact uR_o h2 e (fun j a b => f 0 j (by omega)) (fun j => f 84 j (by omega))
  · obtain ⟨_, m, n, m20, _, hm, _, _⟩ := h2
    exact ⟨by rw [st_same, e], m, 0, m20, by omega, by rw [st_ne (by decide)]; exact hm, by rw [e]; decide, fun r hr => absurd hr (by omega)⟩
