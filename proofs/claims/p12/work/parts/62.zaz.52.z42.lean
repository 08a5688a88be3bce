/-! what is read keeps its ranges -/
def rgF (S0 S : Tr) : Prop := ∀ a j, ((a = 0 ∧ 16 ≤ j ∧ j ≤ 18) ∨ a = 23 ∨ a = 24 ∨ a = 27 ∨ a = 31 ∨ a = 33) → S a j = S0 a j
theorem rgF_r {S : Tr} : rgF S S := fun _ _ _ => rfl
theorem rgF_s {S0 S : Tr} {a i : Nat} {v : Int32} (h : rgF S0 S) (hn : ¬ ((a = 0 ∧ 16 ≤ i ∧ i ≤ 18) ∨ a = 23 ∨ a = 24 ∨ a = 27 ∨ a = 31 ∨ a = 33)) : rgF S0 (st S a i v) := fun b j hb => by
  rw [st_no (fun e => by obtain ⟨e1, e2⟩ := e; subst e1 e2; exact hn hb)]; exact h b j hb
def tkF (S0 S : Tr) : Prop := ∀ a j, ¬ (a = 0 ∧ 7 ≤ j ∧ j ≤ 10) → S a j = S0 a j
theorem tkF_r {S : Tr} : tkF S S := fun _ _ _ => rfl
theorem tkF_s {S0 S : Tr} {a i : Nat} {v : Int32} (h : tkF S0 S) (hn : a = 0 ∧ 7 ≤ i ∧ i ≤ 10) : tkF S0 (st S a i v) := fun b j hb => by
  rw [st_no (fun e => by obtain ⟨e1, e2⟩ := e; subst e1 e2; exact hb hn)]; exact h b j hb
set_option maxHeartbeats 1000000 in
set_option maxRecDepth 100000 in
theorem rfJ_X8_signToken_J192 {S0 : Tr} (s0 : Int32) (S : Tr) (hS : rgF S0 S)   : Ep (fJ_X8_signToken_J192 s0 S) (fun q => rgF S0 q) := by
  unfold fJ_X8_signToken_J192
  refine Ep_lt (fun S_14 eS_14 => ?_)
  have hS_14 : rgF S0 S_14 := by rw [eS_14]; exact rgF_s hS (by omega)
  exact Ep_some hS_14
set_option maxHeartbeats 1000000 in
set_option maxRecDepth 100000 in
theorem rfJ_X8_signToken_J135 {S0 : Tr} (x2 : Int32) (x3 : Int32) (S : Tr) (hS : rgF S0 S)   : Ep (fJ_X8_signToken_J135 x2 x3 S) (fun q => rgF S0 q) := by
  unfold fJ_X8_signToken_J135
  refine Ep_lt (fun S_10 eS_10 => ?_)
  have hS_10 : rgF S0 S_10 := by rw [eS_10]; exact rgF_s hS (by omega)
  refine Ep_ite (fun _ => ?_) (fun _ => ?_)
  · exact rfJ_X8_signToken_J192 2 S_10 hS_10
  · refine Ep_ite (fun _ => ?_) (fun _ => ?_)
    · refine Ep_ite (fun _ => ?_) (fun _ => ?_)
      · refine Ep_ite (fun _ => ?_) (fun _ => ?_)
        · exact rfJ_X8_signToken_J192 0 S_10 hS_10
        · exact rfJ_X8_signToken_J192 3 S_10 hS_10
      · exact rfJ_X8_signToken_J192 1 S_10 hS_10
    · refine Ep_ite (fun _ => ?_) (fun _ => ?_)
      · exact rfJ_X8_signToken_J192 5 S_10 hS_10
      · exact rfJ_X8_signToken_J192 4 S_10 hS_10
set_option maxHeartbeats 1000000 in
set_option maxRecDepth 100000 in
theorem rfJ_X8_signToken_J125 {S0 : Tr} (x2 : Int32) (x3 : Int32) (S : Tr) (hS : rgF S0 S)   : Ep (fJ_X8_signToken_J125 x2 x3 S) (fun q => rgF S0 q) := by
  unfold fJ_X8_signToken_J125
  refine Ep_lt (fun S_9 eS_9 => ?_)
  have hS_9 : rgF S0 S_9 := by rw [eS_9]; exact rgF_s hS (by omega)
  exact rfJ_X8_signToken_J135 x2 x3 S_9 hS_9
set_option maxHeartbeats 1000000 in
set_option maxRecDepth 100000 in
theorem rfJ_X8_signToken_J116 {S0 : Tr} (x2 : Int32) (s0 : Int32) (S : Tr) (hS : rgF S0 S)   : Ep (fJ_X8_signToken_J116 x2 s0 S) (fun q => rgF S0 q) := by
  unfold fJ_X8_signToken_J116
  refine Ep_ite (fun _ => ?_) (fun _ => ?_)
  · refine Ep_ite (fun _ => ?_) (fun _ => ?_)
    · exact rfJ_X8_signToken_J135 x2 s0 S hS
    · exact rfJ_X8_signToken_J125 x2 s0 S hS
  · exact rfJ_X8_signToken_J125 x2 s0 S hS
set_option maxHeartbeats 1000000 in
set_option maxRecDepth 100000 in
theorem rfJ_X8_signToken_J115 {S0 : Tr} (x2 : Int32) (S : Tr) (hS : rgF S0 S)   : Ep (fJ_X8_signToken_J115 x2 S) (fun q => rgF S0 q) := by
  unfold fJ_X8_signToken_J115
  exact rfJ_X8_signToken_J116 x2 0 S hS
set_option maxHeartbeats 1000000 in
set_option maxRecDepth 100000 in
theorem rfJ_X8_signToken_J95 {S0 : Tr} (x1 : Int32) (s0 : Int32) (S : Tr) (hS : rgF S0 S)   : Ep (fJ_X8_signToken_J95 x1 s0 S) (fun q => rgF S0 q) := by
  unfold fJ_X8_signToken_J95
  refine Ep_ite (fun _ => ?_) (fun _ => ?_)
  · refine Ep_ite (fun _ => ?_) (fun _ => ?_)
    · exact rfJ_X8_signToken_J116 s0 1 S hS
    · exact rfJ_X8_signToken_J115 s0 S hS
  · exact rfJ_X8_signToken_J115 s0 S hS
set_option maxHeartbeats 1000000 in
set_option maxRecDepth 100000 in
theorem rfJ_X8_signToken_J94 {S0 : Tr} (x1 : Int32) (S : Tr) (hS : rgF S0 S)   : Ep (fJ_X8_signToken_J94 x1 S) (fun q => rgF S0 q) := by
  unfold fJ_X8_signToken_J94
  exact rfJ_X8_signToken_J95 x1 0 S hS
set_option maxHeartbeats 1000000 in
set_option maxRecDepth 100000 in
theorem rfJ_X8_signToken_J74 {S0 : Tr} (s0 : Int32) (S : Tr) (hS : rgF S0 S)   : Ep (fJ_X8_signToken_J74 s0 S) (fun q => rgF S0 q) := by
  unfold fJ_X8_signToken_J74
  refine Ep_ite (fun _ => ?_) (fun _ => ?_)
  · exact rfJ_X8_signToken_J94 s0 S hS
  · refine Ep_ite (fun _ => ?_) (fun _ => ?_)
    · exact rfJ_X8_signToken_J95 s0 1 S hS
    · exact rfJ_X8_signToken_J94 s0 S hS
set_option maxHeartbeats 1000000 in
set_option maxRecDepth 100000 in
theorem rfJ_X8_signToken_J50 {S0 : Tr} (S : Tr) (hS : rgF S0 S)   : Ep (fJ_X8_signToken_J50 S) (fun q => rgF S0 q) := by
  unfold fJ_X8_signToken_J50
  refine Ep_ite (fun _ => ?_) (fun _ => ?_)
  · exact rfJ_X8_signToken_J74 0 S hS
  · refine Ep_ck ?_
    exact rfJ_X8_signToken_J74 (S 1 (S 0 7).toNatClampNeg) S hS
set_option maxHeartbeats 1000000 in
set_option maxRecDepth 100000 in
theorem rfJ_X8_signToken_J287 {S0 : Tr} (s0 : Int32) (S : Tr) (hS : rgF S0 S)   : Ep (fJ_X8_signToken_J287 s0 S) (fun q => rgF S0 q) := by
  unfold fJ_X8_signToken_J287
  refine Ep_lt (fun S_25 eS_25 => ?_)
  have hS_25 : rgF S0 S_25 := by rw [eS_25]; exact rgF_s hS (by omega)
  exact Ep_some hS_25
set_option maxHeartbeats 1000000 in
set_option maxRecDepth 100000 in
theorem rfJ_X8_signToken_J275 {S0 : Tr} (s0 : Int32) (S : Tr) (hS : rgF S0 S)   : Ep (fJ_X8_signToken_J275 s0 S) (fun q => rgF S0 q) := by
  unfold fJ_X8_signToken_J275
  refine Ep_ite (fun _ => ?_) (fun _ => ?_)
  · exact rfJ_X8_signToken_J287 6 S hS
  · exact rfJ_X8_signToken_J287 4 S hS
set_option maxHeartbeats 1000000 in
set_option maxRecDepth 100000 in
theorem rfJ_X8_signToken_J270 {S0 : Tr} (S : Tr) (hS : rgF S0 S)   : Ep (fJ_X8_signToken_J270 S) (fun q => rgF S0 q) := by
  unfold fJ_X8_signToken_J270
  exact rfJ_X8_signToken_J275 1 S hS
set_option maxHeartbeats 1000000 in
set_option maxRecDepth 100000 in
theorem rf_X8_signToken {S0 : Tr} (S : Tr) (hS : rgF S0 S)   : Ep (f_X8_signToken S) (fun q => rgF S0 q) := by
  unfold f_X8_signToken
  refine Ep_ck ?_
  refine Ep_lt (fun S_2 eS_2 => ?_)
  have hS_2 : rgF S0 S_2 := by rw [eS_2]; exact rgF_s hS (by omega)
  refine Ep_lt (fun S_3 eS_3 => ?_)
  have hS_3 : rgF S0 S_3 := by rw [eS_3]; exact rgF_s hS_2 (by omega)
  refine Ep_ite (fun _ => ?_) (fun _ => ?_)
  · exact rfJ_X8_signToken_J50 S_3 hS_3
  · refine Ep_ite (fun _ => ?_) (fun _ => ?_)
    · exact rfJ_X8_signToken_J50 S_3 hS_3
    · refine Ep_ite (fun _ => ?_) (fun _ => ?_)
      · exact rfJ_X8_signToken_J50 S_3 hS_3
      · refine Ep_ite (fun _ => ?_) (fun _ => ?_)
        · exact rfJ_X8_signToken_J270 S_3 hS_3
        · refine Ep_ite (fun _ => ?_) (fun _ => ?_)
          · exact rfJ_X8_signToken_J270 S_3 hS_3
          · refine Ep_ite (fun _ => ?_) (fun _ => ?_)
            · exact rfJ_X8_signToken_J270 S_3 hS_3
            · refine Ep_ite (fun _ => ?_) (fun _ => ?_)
              · exact rfJ_X8_signToken_J270 S_3 hS_3
              · refine Ep_ite (fun _ => ?_) (fun _ => ?_)
                · exact rfJ_X8_signToken_J270 S_3 hS_3
                · refine Ep_ite (fun _ => ?_) (fun _ => ?_)
                  · exact rfJ_X8_signToken_J270 S_3 hS_3
                  · refine Ep_ite (fun _ => ?_) (fun _ => ?_)
                    · exact rfJ_X8_signToken_J270 S_3 hS_3
                    · refine Ep_ite (fun _ => ?_) (fun _ => ?_)
                      · exact rfJ_X8_signToken_J270 S_3 hS_3
                      · exact rfJ_X8_signToken_J275 0 S_3 hS_3
set_option maxHeartbeats 1000000 in
set_option maxRecDepth 100000 in
theorem rfJ_X8_token_J261 {S0 : Tr} (k213 : Tr → Option (Tr)) (s0 : Int32) (S : Tr) (hS : rgF S0 S) (hk213 : ∀ (S : Tr), rgF S0 S → Ep (k213 S) (fun q => rgF S0 q))  : Ep (fJ_X8_token_J261 k213 s0 S) (fun q => rgF S0 q) := by
  unfold fJ_X8_token_J261
  refine Ep_lt (fun S_23 eS_23 => ?_)
  have hS_23 : rgF S0 S_23 := by rw [eS_23]; exact rgF_s hS (by omega)
  refine Ep_lt (fun S_24 eS_24 => ?_)
  have hS_24 : rgF S0 S_24 := by rw [eS_24]; exact rgF_s hS_23 (by omega)
  exact hk213 S_24 hS_24
set_option maxHeartbeats 1000000 in
set_option maxRecDepth 100000 in
theorem rfB_X8_token_L213 {S0 : Tr}     (N : Nat) : ∀ (S : Tr), rgF S0 S → Ep (lpF (fun _ => none) (fB_X8_token_L213) N S) (fun q => rgF S0 q) := by
  induction N with
  | zero => intro S _; exact Ep_none
  | succ N ih =>
    intro S hS
    show Ep (fB_X8_token_L213 (lpF (fun _ => none) (fB_X8_token_L213) N) S) _
    have hk213 := ih
    clear ih
    generalize lpF (fun _ => none) (fB_X8_token_L213) N = k213 at hk213 ⊢
    unfold fB_X8_token_L213
    refine Ep_any (fun r17 => ?_)
    refine Ep_ite (fun _ => ?_) (fun _ => ?_)
    · exact Ep_some hS
    · refine Ep_ite (fun _ => ?_) (fun _ => ?_)
      · refine Ep_ck ?_
        exact rfJ_X8_token_J261 k213 ((((10 : Int32) * (S 0 9)) + (S 1 (S 0 7).toNatClampNeg)) - 48) S hS hk213
      · exact rfJ_X8_token_J261 k213 (S 0 9) S hS hk213
set_option maxHeartbeats 1000000 in
set_option maxRecDepth 100000 in
theorem rfL_X8_token_L213 {S0 : Tr}     (S : Tr) (hS : rgF S0 S) : Ep (fL_X8_token_L213 S) (fun q => rgF S0 q) := by
  unfold fL_X8_token_L213
  exact rfB_X8_token_L213 2000 S hS
set_option maxHeartbeats 1000000 in
set_option maxRecDepth 100000 in
theorem rfJ_X8_token_J162 {S0 : Tr} (s0 : Int32) (S : Tr) (hS : rgF S0 S)   : Ep (fJ_X8_token_J162 s0 S) (fun q => rgF S0 q) := by
  unfold fJ_X8_token_J162
  refine Ep_lt (fun S_35 eS_35 => ?_)
  have hS_35 : rgF S0 S_35 := by rw [eS_35]; exact rgF_s hS (by omega)
  refine Ep_ite (fun _ => ?_) (fun _ => ?_)
  · refine Ep_any (fun r37 => ?_)
    refine Ep_lt (fun S_40 eS_40 => ?_)
    have hS_40 : rgF S0 S_40 := by rw [eS_40]; exact rgF_s hS_35 (by omega)
    exact Ep_some hS_40
  · exact Ep_some hS_35
set_option maxHeartbeats 1000000 in
set_option maxRecDepth 100000 in
theorem rfJ_X8_token_J114 {S0 : Tr} (S : Tr) (hS : rgF S0 S)   : Ep (fJ_X8_token_J114 S) (fun q => rgF S0 q) := by
  unfold fJ_X8_token_J114
  refine Ep_any (fun r29 => ?_)
  refine Ep_lt (fun S_32 eS_32 => ?_)
  have hS_32 : rgF S0 S_32 := by rw [eS_32]; exact rgF_s hS (by omega)
  refine Ep_ite (fun _ => ?_) (fun _ => ?_)
  · refine Ep_ite (fun _ => ?_) (fun _ => ?_)
    · exact rfJ_X8_token_J162 2 S_32 hS_32
    · exact rfJ_X8_token_J162 6 S_32 hS_32
  · exact rfJ_X8_token_J162 1 S_32 hS_32
set_option maxHeartbeats 1000000 in
set_option maxRecDepth 100000 in
theorem rfB_X8_token_L90 {S0 : Tr}     (N : Nat) : ∀ (S : Tr), rgF S0 S → Ep (lpF (fun _ => none) (fB_X8_token_L90) N S) (fun q => rgF S0 q) := by
  induction N with
  | zero => intro S _; exact Ep_none
  | succ N ih =>
    intro S hS
    show Ep (fB_X8_token_L90 (lpF (fun _ => none) (fB_X8_token_L90) N) S) _
    have hk90 := ih
    clear ih
    generalize lpF (fun _ => none) (fB_X8_token_L90) N = k90 at hk90 ⊢
    unfold fB_X8_token_L90
    refine Ep_any (fun r25 => ?_)
    refine Ep_ite (fun _ => ?_) (fun _ => ?_)
    · exact rfJ_X8_token_J114 S hS
    · refine Ep_lt (fun S_41 eS_41 => ?_)
      have hS_41 : rgF S0 S_41 := by rw [eS_41]; exact rgF_s hS (by omega)
      exact hk90 S_41 hS_41
set_option maxHeartbeats 1000000 in
set_option maxRecDepth 100000 in
theorem rfL_X8_token_L90 {S0 : Tr}     (S : Tr) (hS : rgF S0 S) : Ep (fL_X8_token_L90 S) (fun q => rgF S0 q) := by
  unfold fL_X8_token_L90
  exact rfB_X8_token_L90 2000 S hS
set_option maxHeartbeats 1000000 in
set_option maxRecDepth 100000 in
theorem rfJ_X8_token_J52 {S0 : Tr} (S : Tr) (hS : rgF S0 S)   : Ep (fJ_X8_token_J52 S) (fun q => rgF S0 q) := by
  unfold fJ_X8_token_J52
  refine Ep_lt (fun S_2 eS_2 => ?_)
  have hS_2 : rgF S0 S_2 := by rw [eS_2]; exact rgF_s hS (by omega)
  refine Ep_ite (fun _ => ?_) (fun _ => ?_)
  · refine Ep_lt (fun S_42 eS_42 => ?_)
    have hS_42 : rgF S0 S_42 := by rw [eS_42]; exact rgF_s hS_2 (by omega)
    exact Ep_some hS_42
  · refine Ep_any (fun r4 => ?_)
    refine Ep_ite (fun _ => ?_) (fun _ => ?_)
    · refine Ep_any (fun r8 => ?_)
      refine Ep_ite (fun _ => ?_) (fun _ => ?_)
      · refine Ep_bd (rf_X8_signToken S_2 hS_2) (fun S_12 hS_12 => ?_)
        exact Ep_some hS_12
      · refine Ep_lt (fun S_15 eS_15 => ?_)
        have hS_15 : rgF S0 S_15 := by rw [eS_15]; exact rgF_s hS_2 (by omega)
        refine Ep_lt (fun S_16 eS_16 => ?_)
        have hS_16 : rgF S0 S_16 := by rw [eS_16]; exact rgF_s hS_15 (by omega)
        exact rfL_X8_token_L213 S_16 hS_16
    · exact rfL_X8_token_L90 S_2 hS_2
set_option maxHeartbeats 1000000 in
set_option maxRecDepth 100000 in
theorem rfJ_X8_token_J39 {S0 : Tr} (k0 : Tr → Option (Tr)) (S : Tr) (hS : rgF S0 S) (hk0 : ∀ (S : Tr), rgF S0 S → Ep (k0 S) (fun q => rgF S0 q))  : Ep (fJ_X8_token_J39 k0 S) (fun q => rgF S0 q) := by
  unfold fJ_X8_token_J39
  refine Ep_lt (fun S_45 eS_45 => ?_)
  have hS_45 : rgF S0 S_45 := by rw [eS_45]; exact rgF_s hS (by omega)
  exact hk0 S_45 hS_45
set_option maxHeartbeats 1000000 in
set_option maxRecDepth 100000 in
theorem rfB_X8_token_L0 {S0 : Tr}     (N : Nat) : ∀ (S : Tr), rgF S0 S → Ep (lpF (fun _ => none) (fB_X8_token_L0) N S) (fun q => rgF S0 q) := by
  induction N with
  | zero => intro S _; exact Ep_none
  | succ N ih =>
    intro S hS
    show Ep (fB_X8_token_L0 (lpF (fun _ => none) (fB_X8_token_L0) N) S) _
    have hk0 := ih
    clear ih
    generalize lpF (fun _ => none) (fB_X8_token_L0) N = k0 at hk0 ⊢
    unfold fB_X8_token_L0
    refine Ep_ite (fun _ => ?_) (fun _ => ?_)
    · exact rfJ_X8_token_J52 S hS
    · refine Ep_ck ?_
      refine Ep_ite (fun _ => ?_) (fun _ => ?_)
      · exact rfJ_X8_token_J39 k0 S hS hk0
      · refine Ep_ite (fun _ => ?_) (fun _ => ?_)
        · exact rfJ_X8_token_J39 k0 S hS hk0
        · exact rfJ_X8_token_J52 S hS
set_option maxHeartbeats 1000000 in
set_option maxRecDepth 100000 in
theorem rfL_X8_token_L0 {S0 : Tr}     (S : Tr) (hS : rgF S0 S) : Ep (fL_X8_token_L0 S) (fun q => rgF S0 q) := by
  unfold fL_X8_token_L0
  exact rfB_X8_token_L0 2000 S hS
set_option maxHeartbeats 1000000 in
set_option maxRecDepth 100000 in
theorem rf_X8_token {S0 : Tr} (S : Tr) (hS : rgF S0 S)   : Ep (f_X8_token S) (fun q => rgF S0 q) := by
  unfold f_X8_token
  exact rfL_X8_token_L0 S hS
set_option maxHeartbeats 1000000 in
set_option maxRecDepth 100000 in
theorem rf_X8_wrong {S0 : Tr} (S : Tr) (x1 : Int32) (hS : rgF S0 S)   : Ep (f_X8_wrong S x1) (fun q => rgF S0 q.2) := by
  unfold f_X8_wrong
  refine Ep_lt (fun S_1 eS_1 => ?_)
  have hS_1 : rgF S0 S_1 := by rw [eS_1]; exact rgF_s hS (by omega)
  refine Ep_lt (fun S_2 eS_2 => ?_)
  have hS_2 : rgF S0 S_2 := by rw [eS_2]; exact rgF_s hS_1 (by omega)
  exact Ep_some hS_2
set_option maxHeartbeats 1000000 in
set_option maxRecDepth 100000 in
theorem rf_X8_number {S0 : Tr} (S : Tr) (x1 : Int32) (x2 : Int32) (hS : rgF S0 S)   : Ep (f_X8_number S x1 x2) (fun q => rgF S0 q.2) := by
  unfold f_X8_number
  refine Ep_ite (fun _ => ?_) (fun _ => ?_)
  · refine Ep_any (fun r2 => ?_)
    refine Ep_ite (fun _ => ?_) (fun _ => ?_)
    · refine Ep_bd (rf_X8_wrong S (2 : Int32) hS) (fun q hq => ?_)
      refine Ep_lt (fun r10 er10 => ?_)
      refine Ep_lt (fun S_11 eS_11 => ?_)
      have hS_11 : rgF S0 S_11 := by rw [eS_11]; exact hq
      refine Ep_ck ?_
      exact Ep_some hS_11
    · refine Ep_lt (fun S_6 eS_6 => ?_)
      have hS_6 : rgF S0 S_6 := by rw [eS_6]; exact rgF_s hS (by omega)
      refine Ep_bd (rf_X8_token S_6 hS_6) (fun S_7 hS_7 => ?_)
      exact Ep_some hS_7
  · refine Ep_bd (rf_X8_wrong S (1 : Int32) hS) (fun q hq => ?_)
    refine Ep_lt (fun r15 er15 => ?_)
    refine Ep_lt (fun S_16 eS_16 => ?_)
    have hS_16 : rgF S0 S_16 := by rw [eS_16]; exact hq
    refine Ep_ck ?_
    exact Ep_some hS_16
set_option maxHeartbeats 1000000 in
set_option maxRecDepth 100000 in
theorem rf_X8_isOnce {S0 : Tr} (S : Tr) (x1 : Int32) (hS : rgF S0 S)   : Ep (f_X8_isOnce S x1) (fun q => rgF S0 q.2) := by
  unfold f_X8_isOnce
  refine Ep_ck ?_
  refine Ep_ite (fun _ => ?_) (fun _ => ?_)
  · refine Ep_lt (fun S_3 eS_3 => ?_)
    have hS_3 : rgF S0 S_3 := by rw [eS_3]; exact rgF_s hS (by omega)
    refine Ep_bd (rf_X8_token S_3 hS_3) (fun S_4 hS_4 => ?_)
    exact Ep_some hS_4
  · refine Ep_bd (rf_X8_wrong S (3 : Int32) hS) (fun q hq => ?_)
    refine Ep_lt (fun r7 er7 => ?_)
    refine Ep_lt (fun S_8 eS_8 => ?_)
    have hS_8 : rgF S0 S_8 := by rw [eS_8]; exact hq
    refine Ep_ck ?_
    exact Ep_some hS_8
set_option maxHeartbeats 1000000 in
set_option maxRecDepth 100000 in
theorem rf_X8_waitLine {S0 : Tr} (S : Tr) (hS : rgF S0 S)   : Ep (f_X8_waitLine S) (fun q => rgF S0 q.2) := by
  unfold f_X8_waitLine
  refine Ep_ite (fun _ => ?_) (fun _ => ?_)
  · refine Ep_bd (rf_X8_wrong S (2 : Int32) hS) (fun q hq => ?_)
    refine Ep_lt (fun r29 er29 => ?_)
    refine Ep_lt (fun S_30 eS_30 => ?_)
    have hS_30 : rgF S0 S_30 := by rw [eS_30]; exact hq
    refine Ep_ck ?_
    exact Ep_some hS_30
  · refine Ep_bd (rf_X8_token S hS) (fun S_2 hS_2 => ?_)
    refine Ep_lt (fun y5 ey5 => ?_)
    refine Ep_bd (rf_X8_number S_2 (0 : Int32) (19 : Int32) hS_2) (fun q hq => ?_)
    refine Ep_lt (fun r6 er6 => ?_)
    refine Ep_lt (fun S_7 eS_7 => ?_)
    have hS_7 : rgF S0 S_7 := by rw [eS_7]; exact hq
    refine Ep_ite (fun _ => ?_) (fun _ => ?_)
    · exact Ep_some hS_7
    · refine Ep_lt (fun y11 ey11 => ?_)
      refine Ep_ck ?_
      refine Ep_ite (fun _ => ?_) (fun _ => ?_)
      · refine Ep_lt (fun S_14 eS_14 => ?_)
        have hS_14 : rgF S0 S_14 := by rw [eS_14]; exact rgF_s hS_7 (by omega)
        refine Ep_bd (rf_X8_number S_14 (0 : Int32) (999 : Int32) hS_14) (fun q hq => ?_)
        refine Ep_lt (fun r15 er15 => ?_)
        refine Ep_lt (fun S_16 eS_16 => ?_)
        have hS_16 : rgF S0 S_16 := by rw [eS_16]; exact hq
        refine Ep_ite (fun _ => ?_) (fun _ => ?_)
        · exact Ep_some hS_16
        · refine Ep_ck ?_
          refine Ep_lt (fun S_21 eS_21 => ?_)
          have hS_21 : rgF S0 S_21 := by rw [eS_21]; exact rgF_s hS_16 (by omega)
          refine Ep_lt (fun S_22 eS_22 => ?_)
          have hS_22 : rgF S0 S_22 := by rw [eS_22]; exact rgF_s hS_21 (by omega)
          exact Ep_some hS_22
      · refine Ep_lt (fun S_23 eS_23 => ?_)
        have hS_23 : rgF S0 S_23 := by rw [eS_23]; exact rgF_s hS_7 (by omega)
        refine Ep_bd (rf_X8_wrong S_23 (3 : Int32) hS_23) (fun q hq => ?_)
        refine Ep_lt (fun r24 er24 => ?_)
        refine Ep_lt (fun S_25 eS_25 => ?_)
        have hS_25 : rgF S0 S_25 := by rw [eS_25]; exact hq
        refine Ep_ck ?_
        exact Ep_some hS_25
set_option maxHeartbeats 1000000 in
set_option maxRecDepth 100000 in
theorem rf_X8_dropHeld {S0 : Tr} (S : Tr) (hS : rgF S0 S)   : Ep (f_X8_dropHeld S) (fun q => rgF S0 q.2) := by
  unfold f_X8_dropHeld
  refine Ep_lt (fun S_1 eS_1 => ?_)
  have hS_1 : rgF S0 S_1 := by rw [eS_1]; exact rgF_s hS (by omega)
  refine Ep_ck ?_
  exact Ep_some hS_1
set_option maxHeartbeats 1000000 in
set_option maxRecDepth 100000 in
theorem rf_X8_grown {S0 : Tr} (S : Tr) (x1 : Int32) (x2 : Int32) (x3 : Int32) (hS : rgF S0 S)   : Ep (f_X8_grown S x1 x2 x3) (fun q => rgF S0 q) := by
  unfold f_X8_grown
  refine Ep_ck ?_
  refine Ep_lt (fun S_2 eS_2 => ?_)
  have hS_2 : rgF S0 S_2 := by rw [eS_2]; exact rgF_s hS (by omega)
  refine Ep_ck ?_
  refine Ep_lt (fun S_4 eS_4 => ?_)
  have hS_4 : rgF S0 S_4 := by rw [eS_4]; exact rgF_s hS_2 (by omega)
  refine Ep_ck ?_
  refine Ep_lt (fun S_6 eS_6 => ?_)
  have hS_6 : rgF S0 S_6 := by rw [eS_6]; exact rgF_s hS_4 (by omega)
  refine Ep_ck ?_
  refine Ep_lt (fun S_8 eS_8 => ?_)
  have hS_8 : rgF S0 S_8 := by rw [eS_8]; exact rgF_s hS_6 (by omega)
  refine Ep_lt (fun S_9 eS_9 => ?_)
  have hS_9 : rgF S0 S_9 := by rw [eS_9]; exact rgF_s hS_8 (by omega)
  refine Ep_lt (fun S_10 eS_10 => ?_)
  have hS_10 : rgF S0 S_10 := by rw [eS_10]; exact rgF_s hS_9 (by omega)
  exact Ep_some hS_10
set_option maxHeartbeats 1000000 in
set_option maxRecDepth 100000 in
theorem rfJ_X8_bind_J58 {S0 : Tr} (k0 : Tr → Option (Tr)) (x1 : Int32) (x2 : Int32) (s0 : Int32) (S : Tr) (hS : rgF S0 S) (hk0 : ∀ (S : Tr), rgF S0 S → Ep (k0 S) (fun q => rgF S0 q))  : Ep (fJ_X8_bind_J58 k0 x1 x2 s0 S) (fun q => rgF S0 q) := by
  unfold fJ_X8_bind_J58
  refine Ep_bd (rf_X8_dropHeld S hS) (fun q hq => ?_)
  refine Ep_lt (fun r15 er15 => ?_)
  refine Ep_lt (fun S_16 eS_16 => ?_)
  have hS_16 : rgF S0 S_16 := by rw [eS_16]; exact hq
  refine Ep_bd (rf_X8_grown S_16 x2 r15 s0 hS_16) (fun S_19 hS_19 => ?_)
  exact hk0 S_19 hS_19
set_option maxHeartbeats 1000000 in
set_option maxRecDepth 100000 in
theorem rfB_X8_bind_L0 {S0 : Tr} (x1 : Int32)    (N : Nat) : ∀ (S : Tr), rgF S0 S → Ep (lpF (fun _ => none) (fB_X8_bind_L0 x1) N S) (fun q => rgF S0 q) := by
  induction N with
  | zero => intro S _; exact Ep_none
  | succ N ih =>
    intro S hS
    show Ep (fB_X8_bind_L0 x1 (lpF (fun _ => none) (fB_X8_bind_L0 x1) N) S) _
    have hk0 := ih
    clear ih
    generalize lpF (fun _ => none) (fB_X8_bind_L0 x1) N = k0 at hk0 ⊢
    unfold fB_X8_bind_L0
    refine Ep_ite (fun _ => ?_) (fun _ => ?_)
    · exact Ep_some hS
    · refine Ep_ck ?_
      refine Ep_any (fun r3 => ?_)
      refine Ep_ite (fun _ => ?_) (fun _ => ?_)
      · exact Ep_some hS
      · refine Ep_lt (fun S_7 eS_7 => ?_)
        have hS_7 : rgF S0 S_7 := by rw [eS_7]; exact rgF_s hS (by omega)
        refine Ep_ck ?_
        refine Ep_lt (fun y9 ey9 => ?_)
        refine Ep_ite (fun _ => ?_) (fun _ => ?_)
        · exact rfJ_X8_bind_J58 k0 x1 y9 (-1) S_7 hS_7 hk0
        · refine Ep_bd (rf_X8_dropHeld S_7 hS_7) (fun q hq => ?_)
          refine Ep_lt (fun r11 er11 => ?_)
          refine Ep_lt (fun S_12 eS_12 => ?_)
          have hS_12 : rgF S0 S_12 := by rw [eS_12]; exact hq
          exact rfJ_X8_bind_J58 k0 x1 y9 r11 S_12 hS_12 hk0
set_option maxHeartbeats 1000000 in
set_option maxRecDepth 100000 in
theorem rfL_X8_bind_L0 {S0 : Tr} (x1 : Int32)    (S : Tr) (hS : rgF S0 S) : Ep (fL_X8_bind_L0 x1 S) (fun q => rgF S0 q) := by
  unfold fL_X8_bind_L0
  exact rfB_X8_bind_L0 x1 2000 S hS
set_option maxHeartbeats 1000000 in
set_option maxRecDepth 100000 in
theorem rf_X8_bind {S0 : Tr} (S : Tr) (x1 : Int32) (hS : rgF S0 S)   : Ep (f_X8_bind S x1) (fun q => rgF S0 q) := by
  unfold f_X8_bind
  exact rfL_X8_bind_L0 x1 S hS
set_option maxHeartbeats 1000000 in
set_option maxRecDepth 100000 in
theorem rf_X8_isCounted {S0 : Tr} (S : Tr) (hS : rgF S0 S)   : Ep (f_X8_isCounted S) (fun q => rgF S0 q.2) := by
  unfold f_X8_isCounted
  refine Ep_ite (fun _ => ?_) (fun _ => ?_)
  · refine Ep_bd (rf_X8_wrong S (2 : Int32) hS) (fun q hq => ?_)
    refine Ep_lt (fun r3 er3 => ?_)
    refine Ep_lt (fun S_4 eS_4 => ?_)
    have hS_4 : rgF S0 S_4 := by rw [eS_4]; exact hq
    refine Ep_ck ?_
    exact Ep_some hS_4
  · refine Ep_lt (fun S_2 eS_2 => ?_)
    have hS_2 : rgF S0 S_2 := by rw [eS_2]; exact rgF_s hS (by omega)
    exact Ep_some hS_2
set_option maxHeartbeats 1000000 in
set_option maxRecDepth 100000 in
theorem rf_X8_waitsFor {S0 : Tr} (S : Tr) (x1 : Int32) (hS : rgF S0 S)   : Ep (f_X8_waitsFor S x1) (fun q => rgF S0 q) := by
  unfold f_X8_waitsFor
  refine Ep_ck ?_
  refine Ep_lt (fun S_2 eS_2 => ?_)
  have hS_2 : rgF S0 S_2 := by rw [eS_2]; exact rgF_s hS (by omega)
  refine Ep_lt (fun S_3 eS_3 => ?_)
  have hS_3 : rgF S0 S_3 := by rw [eS_3]; exact rgF_s hS_2 (by omega)
  exact Ep_some hS_3
set_option maxHeartbeats 1000000 in
set_option maxRecDepth 100000 in
theorem rfJ_X8_signs_J250 {S0 : Tr} (s0 : Int32) (S : Tr) (hS : rgF S0 S)   : Ep (fJ_X8_signs_J250 s0 S) (fun q => rgF S0 q.2) := by
  unfold fJ_X8_signs_J250
  refine Ep_ck ?_
  refine Ep_lt (fun S_59 eS_59 => ?_)
  have hS_59 : rgF S0 S_59 := by rw [eS_59]; exact rgF_s hS (by omega)
  refine Ep_bd (rf_X8_token S_59 hS_59) (fun S_60 hS_60 => ?_)
  exact Ep_some hS_60
set_option maxHeartbeats 1000000 in
set_option maxRecDepth 100000 in
theorem rfJ_X8_signs_J217 {S0 : Tr} (x1 : Int32) (S : Tr) (hS : rgF S0 S)   : Ep (fJ_X8_signs_J217 x1 S) (fun q => rgF S0 q.2) := by
  unfold fJ_X8_signs_J217
  refine Ep_bd (rf_X8_isCounted S hS) (fun q hq => ?_)
  refine Ep_lt (fun r45 er45 => ?_)
  refine Ep_lt (fun S_46 eS_46 => ?_)
  have hS_46 : rgF S0 S_46 := by rw [eS_46]; exact hq
  refine Ep_ite (fun _ => ?_) (fun _ => ?_)
  · exact Ep_some hS_46
  · refine Ep_bd (rf_X8_waitsFor S_46 x1 hS_46) (fun S_50 hS_50 => ?_)
    refine Ep_lt (fun S_53 eS_53 => ?_)
    have hS_53 : rgF S0 S_53 := by rw [eS_53]; exact rgF_s hS_50 (by omega)
    refine Ep_any (fun r54 => ?_)
    refine Ep_ite (fun _ => ?_) (fun _ => ?_)
    · exact rfJ_X8_signs_J250 0 S_53 hS_53
    · exact rfJ_X8_signs_J250 1 S_53 hS_53
set_option maxHeartbeats 1000000 in
set_option maxRecDepth 100000 in
theorem rfJ_X8_signs_J175 {S0 : Tr} (x1 : Int32) (s0 : Int32) (S : Tr) (hS : rgF S0 S)   : Ep (fJ_X8_signs_J175 x1 s0 S) (fun q => rgF S0 q.2) := by
  unfold fJ_X8_signs_J175
  refine Ep_bd (rf_X8_bind S s0 hS) (fun S_38 hS_38 => ?_)
  refine Ep_any (fun r41 => ?_)
  refine Ep_ite (fun _ => ?_) (fun _ => ?_)
  · refine Ep_ite (fun _ => ?_) (fun _ => ?_)
    · exact rfJ_X8_signs_J217 x1 S_38 hS_38
    · refine Ep_ck ?_
      refine Ep_any (fun r65 => ?_)
      refine Ep_ite (fun _ => ?_) (fun _ => ?_)
      · refine Ep_bd (rf_X8_wrong S_38 (1 : Int32) hS_38) (fun q hq => ?_)
        refine Ep_lt (fun r69 er69 => ?_)
        refine Ep_lt (fun S_70 eS_70 => ?_)
        have hS_70 : rgF S0 S_70 := by rw [eS_70]; exact hq
        refine Ep_ck ?_
        exact Ep_some hS_70
      · exact rfJ_X8_signs_J217 x1 S_38 hS_38
  · exact rfJ_X8_signs_J217 x1 S_38 hS_38
set_option maxHeartbeats 1000000 in
set_option maxRecDepth 100000 in
theorem rfJ_X8_signs_J147 {S0 : Tr} (s0 : Int32) (S : Tr) (hS : rgF S0 S)   : Ep (fJ_X8_signs_J147 s0 S) (fun q => rgF S0 q.2) := by
  unfold fJ_X8_signs_J147
  refine Ep_ite (fun _ => ?_) (fun _ => ?_)
  · refine Ep_bd (rf_X8_wrong S (1 : Int32) hS) (fun q hq => ?_)
    refine Ep_lt (fun r74 er74 => ?_)
    refine Ep_lt (fun S_75 eS_75 => ?_)
    have hS_75 : rgF S0 S_75 := by rw [eS_75]; exact hq
    refine Ep_ck ?_
    exact Ep_some hS_75
  · refine Ep_any (fun r31 => ?_)
    refine Ep_ite (fun _ => ?_) (fun _ => ?_)
    · exact rfJ_X8_signs_J175 s0 5 S hS
    · refine Ep_any (fun r35 => ?_)
      exact rfJ_X8_signs_J175 s0 r35 S hS
set_option maxHeartbeats 1000000 in
set_option maxRecDepth 100000 in
theorem rfJ_X8_signs_J47 {S0 : Tr} (S : Tr) (hS : rgF S0 S)   : Ep (fJ_X8_signs_J47 S) (fun q => rgF S0 q.2) := by
  unfold fJ_X8_signs_J47
  refine Ep_any (fun r5 => ?_)
  refine Ep_ite (fun _ => ?_) (fun _ => ?_)
  · refine Ep_any (fun r9 => ?_)
    refine Ep_ite (fun _ => ?_) (fun _ => ?_)
    · refine Ep_ite (fun _ => ?_) (fun _ => ?_)
      · exact rfJ_X8_signs_J147 ((5 : Int32) + (S 0 9)) S hS
      · refine Ep_any (fun r14 => ?_)
        refine Ep_ite (fun _ => ?_) (fun _ => ?_)
        · refine Ep_any (fun r18 => ?_)
          refine Ep_ite (fun _ => ?_) (fun _ => ?_)
          · refine Ep_any (fun r22 => ?_)
            refine Ep_ite (fun _ => ?_) (fun _ => ?_)
            · refine Ep_any (fun r26 => ?_)
              refine Ep_ite (fun _ => ?_) (fun _ => ?_)
              · exact rfJ_X8_signs_J147 0 S hS
              · exact rfJ_X8_signs_J147 14 S hS
            · exact rfJ_X8_signs_J147 13 S hS
          · exact rfJ_X8_signs_J147 12 S hS
        · exact rfJ_X8_signs_J147 11 S hS
    · exact rfJ_X8_signs_J147 4 S hS
  · exact rfJ_X8_signs_J147 3 S hS
set_option maxHeartbeats 1000000 in
set_option maxRecDepth 100000 in
theorem rf_X8_signs {S0 : Tr} (S : Tr) (hS : rgF S0 S)   : Ep (f_X8_signs S) (fun q => rgF S0 q.2) := by
  unfold f_X8_signs
  refine Ep_any (fun r1 => ?_)
  refine Ep_ite (fun _ => ?_) (fun _ => ?_)
  · exact rfJ_X8_signs_J47 S hS
  · refine Ep_ite (fun _ => ?_) (fun _ => ?_)
    · exact rfJ_X8_signs_J47 S hS
    · refine Ep_bd (rf_X8_bind S (1 : Int32) hS) (fun S_80 hS_80 => ?_)
      refine Ep_lt (fun S_83 eS_83 => ?_)
      have hS_83 : rgF S0 S_83 := by rw [eS_83]; exact rgF_s hS_80 (by omega)
      refine Ep_lt (fun S_84 eS_84 => ?_)
      have hS_84 : rgF S0 S_84 := by rw [eS_84]; exact rgF_s hS_83 (by omega)
      refine Ep_bd (rf_X8_token S_84 hS_84) (fun S_85 hS_85 => ?_)
      exact Ep_some hS_85
set_option maxHeartbeats 1000000 in
set_option maxRecDepth 100000 in
theorem rfJ_X8_leafRead_J160 {S0 : Tr} (s0 : Int32) (s1 : Int32) (S : Tr) (hS : rgF S0 S)   : Ep (fJ_X8_leafRead_J160 s0 s1 S) (fun q => rgF S0 q.2) := by
  unfold fJ_X8_leafRead_J160
  refine Ep_bd (rf_X8_grown S s1 s0 (0 : Int32) hS) (fun S_21 hS_21 => ?_)
  refine Ep_lt (fun S_24 eS_24 => ?_)
  have hS_24 : rgF S0 S_24 := by rw [eS_24]; exact rgF_s hS_21 (by omega)
  refine Ep_bd (rf_X8_token S_24 hS_24) (fun S_25 hS_25 => ?_)
  exact Ep_some hS_25
set_option maxHeartbeats 1000000 in
set_option maxRecDepth 100000 in
theorem rfJ_X8_leafRead_J148 {S0 : Tr} (x1 : Int32) (s0 : Int32) (S : Tr) (hS : rgF S0 S)   : Ep (fJ_X8_leafRead_J148 x1 s0 S) (fun q => rgF S0 q.2) := by
  unfold fJ_X8_leafRead_J148
  refine Ep_ite (fun _ => ?_) (fun _ => ?_)
  · exact rfJ_X8_leafRead_J160 (S 0 9) s0 S hS
  · exact rfJ_X8_leafRead_J160 x1 s0 S hS
set_option maxHeartbeats 1000000 in
set_option maxRecDepth 100000 in
theorem rfJ_X8_leafRead_J129 {S0 : Tr} (x1 : Int32) (S : Tr) (hS : rgF S0 S)   : Ep (fJ_X8_leafRead_J129 x1 S) (fun q => rgF S0 q.2) := by
  unfold fJ_X8_leafRead_J129
  refine Ep_bd (rf_X8_isCounted S hS) (fun q hq => ?_)
  refine Ep_lt (fun r14 er14 => ?_)
  refine Ep_lt (fun S_15 eS_15 => ?_)
  have hS_15 : rgF S0 S_15 := by rw [eS_15]; exact hq
  refine Ep_ite (fun _ => ?_) (fun _ => ?_)
  · exact Ep_some hS_15
  · refine Ep_ite (fun _ => ?_) (fun _ => ?_)
    · exact rfJ_X8_leafRead_J148 x1 0 S_15 hS_15
    · exact rfJ_X8_leafRead_J148 x1 1 S_15 hS_15
set_option maxHeartbeats 1000000 in
set_option maxRecDepth 100000 in
theorem rfJ_X8_leafRead_J109 {S0 : Tr} (x1 : Int32) (S : Tr) (hS : rgF S0 S)   : Ep (fJ_X8_leafRead_J109 x1 S) (fun q => rgF S0 q.2) := by
  unfold fJ_X8_leafRead_J109
  refine Ep_ite (fun _ => ?_) (fun _ => ?_)
  · exact rfJ_X8_leafRead_J129 x1 S hS
  · refine Ep_ite (fun _ => ?_) (fun _ => ?_)
    · exact rfJ_X8_leafRead_J129 x1 S hS
    · refine Ep_bd (rf_X8_wrong S (2 : Int32) hS) (fun q hq => ?_)
      refine Ep_lt (fun r29 er29 => ?_)
      refine Ep_lt (fun S_30 eS_30 => ?_)
      have hS_30 : rgF S0 S_30 := by rw [eS_30]; exact hq
      refine Ep_ck ?_
      exact Ep_some hS_30
set_option maxHeartbeats 1000000 in
set_option maxRecDepth 100000 in
theorem rfJ_X8_leafRead_J86 {S0 : Tr} (S : Tr) (hS : rgF S0 S)   : Ep (fJ_X8_leafRead_J86 S) (fun q => rgF S0 q.2) := by
  unfold fJ_X8_leafRead_J86
  refine Ep_any (fun r9 => ?_)
  refine Ep_ite (fun _ => ?_) (fun _ => ?_)
  · exact rfJ_X8_leafRead_J109 r9 S hS
  · refine Ep_ite (fun _ => ?_) (fun _ => ?_)
    · exact rfJ_X8_leafRead_J109 r9 S hS
    · refine Ep_bd (rf_X8_wrong S (1 : Int32) hS) (fun q hq => ?_)
      refine Ep_lt (fun r35 er35 => ?_)
      refine Ep_lt (fun S_36 eS_36 => ?_)
      have hS_36 : rgF S0 S_36 := by rw [eS_36]; exact hq
      refine Ep_ck ?_
      exact Ep_some hS_36
set_option maxHeartbeats 1000000 in
set_option maxRecDepth 100000 in
theorem rf_X8_leafRead {S0 : Tr} (S : Tr) (hS : rgF S0 S)   : Ep (f_X8_leafRead S) (fun q => rgF S0 q.2) := by
  unfold f_X8_leafRead
  refine Ep_any (fun r1 => ?_)
  refine Ep_ite (fun _ => ?_) (fun _ => ?_)
  · refine Ep_any (fun r5 => ?_)
    refine Ep_ite (fun _ => ?_) (fun _ => ?_)
    · exact rfJ_X8_leafRead_J86 S hS
    · refine Ep_ite (fun _ => ?_) (fun _ => ?_)
      · exact rfJ_X8_leafRead_J86 S hS
      · refine Ep_bd (rf_X8_isCounted S hS) (fun q hq => ?_)
        refine Ep_lt (fun r41 er41 => ?_)
        refine Ep_lt (fun S_42 eS_42 => ?_)
        have hS_42 : rgF S0 S_42 := by rw [eS_42]; exact hq
        refine Ep_ite (fun _ => ?_) (fun _ => ?_)
        · exact Ep_some hS_42
        · refine Ep_bd (rf_X8_waitsFor S_42 (2 : Int32) hS_42) (fun S_46 hS_46 => ?_)
          refine Ep_bd (rf_X8_token S_46 hS_46) (fun S_49 hS_49 => ?_)
          exact Ep_some hS_49
  · refine Ep_ite (fun _ => ?_) (fun _ => ?_)
    · refine Ep_bd (rf_X8_wrong S (2 : Int32) hS) (fun q hq => ?_)
      refine Ep_lt (fun r61 er61 => ?_)
      refine Ep_lt (fun S_62 eS_62 => ?_)
      have hS_62 : rgF S0 S_62 := by rw [eS_62]; exact hq
      refine Ep_ck ?_
      exact Ep_some hS_62
    · refine Ep_lt (fun S_53 eS_53 => ?_)
      have hS_53 : rgF S0 S_53 := by rw [eS_53]; exact rgF_s hS (by omega)
      refine Ep_bd (rf_X8_waitsFor S_53 (0 : Int32) hS_53) (fun S_54 hS_54 => ?_)
      refine Ep_lt (fun S_57 eS_57 => ?_)
      have hS_57 : rgF S0 S_57 := by rw [eS_57]; exact rgF_s hS_54 (by omega)
      refine Ep_bd (rf_X8_token S_57 hS_57) (fun S_58 hS_58 => ?_)
      exact Ep_some hS_58
set_option maxHeartbeats 1000000 in
set_option maxRecDepth 100000 in
theorem rfJ_X8_sumRead_J48 {S0 : Tr} (k25 : Tr → Option (Int32 × Tr)) (S : Tr) (hS : rgF S0 S) (hk25 : ∀ (S : Tr), rgF S0 S → Ep (k25 S) (fun q => rgF S0 q.2))  : Ep (fJ_X8_sumRead_J48 k25 S) (fun q => rgF S0 q.2) := by
  unfold fJ_X8_sumRead_J48
  refine Ep_ite (fun _ => ?_) (fun _ => ?_)
  · refine Ep_bd (rf_X8_signs S hS) (fun q hq => ?_)
    refine Ep_lt (fun r11 er11 => ?_)
    refine Ep_lt (fun S_12 eS_12 => ?_)
    have hS_12 : rgF S0 S_12 := by rw [eS_12]; exact hq
    refine Ep_ite (fun _ => ?_) (fun _ => ?_)
    · exact Ep_some hS_12
    · exact hk25 S_12 hS_12
  · refine Ep_bd (rf_X8_leafRead S hS) (fun q hq => ?_)
    refine Ep_lt (fun r16 er16 => ?_)
    refine Ep_lt (fun S_17 eS_17 => ?_)
    have hS_17 : rgF S0 S_17 := by rw [eS_17]; exact hq
    refine Ep_ite (fun _ => ?_) (fun _ => ?_)
    · exact Ep_some hS_17
    · exact hk25 S_17 hS_17
set_option maxHeartbeats 1000000 in
set_option maxRecDepth 100000 in
theorem rfJ_X8_sumRead_J74 {S0 : Tr} (S : Tr) (hS : rgF S0 S)   : Ep (fJ_X8_sumRead_J74 S) (fun q => rgF S0 q.2) := by
  unfold fJ_X8_sumRead_J74
  refine Ep_bd (rf_X8_bind S (1 : Int32) hS) (fun S_23 hS_23 => ?_)
  exact Ep_some hS_23
set_option maxHeartbeats 1000000 in
set_option maxRecDepth 100000 in
theorem rfB_X8_sumRead_L25 {S0 : Tr}     (N : Nat) : ∀ (S : Tr), rgF S0 S → Ep (lpF (fun _ => none) (fB_X8_sumRead_L25) N S) (fun q => rgF S0 q.2) := by
  induction N with
  | zero => intro S _; exact Ep_none
  | succ N ih =>
    intro S hS
    show Ep (fB_X8_sumRead_L25 (lpF (fun _ => none) (fB_X8_sumRead_L25) N) S) _
    have hk25 := ih
    clear ih
    generalize lpF (fun _ => none) (fB_X8_sumRead_L25) N = k25 at hk25 ⊢
    unfold fB_X8_sumRead_L25
    refine Ep_any (fun r6 => ?_)
    refine Ep_ite (fun _ => ?_) (fun _ => ?_)
    · exact rfJ_X8_sumRead_J48 k25 S hS hk25
    · refine Ep_ite (fun _ => ?_) (fun _ => ?_)
      · refine Ep_ite (fun _ => ?_) (fun _ => ?_)
        · exact rfJ_X8_sumRead_J74 S hS
        · exact rfJ_X8_sumRead_J48 k25 S hS hk25
      · exact rfJ_X8_sumRead_J48 k25 S hS hk25
set_option maxHeartbeats 1000000 in
set_option maxRecDepth 100000 in
theorem rfL_X8_sumRead_L25 {S0 : Tr}     (S : Tr) (hS : rgF S0 S) : Ep (fL_X8_sumRead_L25 S) (fun q => rgF S0 q.2) := by
  unfold fL_X8_sumRead_L25
  exact rfB_X8_sumRead_L25 2000 S hS
set_option maxHeartbeats 1000000 in
set_option maxRecDepth 100000 in
theorem rf_X8_sumRead {S0 : Tr} (S : Tr) (hS : rgF S0 S)   : Ep (f_X8_sumRead S) (fun q => rgF S0 q.2) := by
  unfold f_X8_sumRead
  refine Ep_lt (fun S_1 eS_1 => ?_)
  have hS_1 : rgF S0 S_1 := by rw [eS_1]; exact rgF_s hS (by omega)
  refine Ep_lt (fun S_2 eS_2 => ?_)
  have hS_2 : rgF S0 S_2 := by rw [eS_2]; exact rgF_s hS_1 (by omega)
  refine Ep_lt (fun S_3 eS_3 => ?_)
  have hS_3 : rgF S0 S_3 := by rw [eS_3]; exact rgF_s hS_2 (by omega)
  refine Ep_lt (fun S_4 eS_4 => ?_)
  have hS_4 : rgF S0 S_4 := by rw [eS_4]; exact rgF_s hS_3 (by omega)
  refine Ep_lt (fun S_5 eS_5 => ?_)
  have hS_5 : rgF S0 S_5 := by rw [eS_5]; exact rgF_s hS_4 (by omega)
  exact rfL_X8_sumRead_L25 S_5 hS_5
set_option maxHeartbeats 1000000 in
set_option maxRecDepth 100000 in
theorem tfJ_X8_signToken_J192 {S0 : Tr} (s0 : Int32) (S : Tr) (hS : tkF S0 S)   : Ep (fJ_X8_signToken_J192 s0 S) (fun q => tkF S0 q) := by
  unfold fJ_X8_signToken_J192
  refine Ep_lt (fun S_14 eS_14 => ?_)
  have hS_14 : tkF S0 S_14 := by rw [eS_14]; exact tkF_s hS (by omega)
  exact Ep_some hS_14
set_option maxHeartbeats 1000000 in
set_option maxRecDepth 100000 in
theorem tfJ_X8_signToken_J135 {S0 : Tr} (x2 : Int32) (x3 : Int32) (S : Tr) (hS : tkF S0 S)   : Ep (fJ_X8_signToken_J135 x2 x3 S) (fun q => tkF S0 q) := by
  unfold fJ_X8_signToken_J135
  refine Ep_lt (fun S_10 eS_10 => ?_)
  have hS_10 : tkF S0 S_10 := by rw [eS_10]; exact tkF_s hS (by omega)
  refine Ep_ite (fun _ => ?_) (fun _ => ?_)
  · exact tfJ_X8_signToken_J192 2 S_10 hS_10
  · refine Ep_ite (fun _ => ?_) (fun _ => ?_)
    · refine Ep_ite (fun _ => ?_) (fun _ => ?_)
      · refine Ep_ite (fun _ => ?_) (fun _ => ?_)
        · exact tfJ_X8_signToken_J192 0 S_10 hS_10
        · exact tfJ_X8_signToken_J192 3 S_10 hS_10
      · exact tfJ_X8_signToken_J192 1 S_10 hS_10
    · refine Ep_ite (fun _ => ?_) (fun _ => ?_)
      · exact tfJ_X8_signToken_J192 5 S_10 hS_10
      · exact tfJ_X8_signToken_J192 4 S_10 hS_10
set_option maxHeartbeats 1000000 in
set_option maxRecDepth 100000 in
theorem tfJ_X8_signToken_J125 {S0 : Tr} (x2 : Int32) (x3 : Int32) (S : Tr) (hS : tkF S0 S)   : Ep (fJ_X8_signToken_J125 x2 x3 S) (fun q => tkF S0 q) := by
  unfold fJ_X8_signToken_J125
  refine Ep_lt (fun S_9 eS_9 => ?_)
  have hS_9 : tkF S0 S_9 := by rw [eS_9]; exact tkF_s hS (by omega)
  exact tfJ_X8_signToken_J135 x2 x3 S_9 hS_9
set_option maxHeartbeats 1000000 in
set_option maxRecDepth 100000 in
theorem tfJ_X8_signToken_J116 {S0 : Tr} (x2 : Int32) (s0 : Int32) (S : Tr) (hS : tkF S0 S)   : Ep (fJ_X8_signToken_J116 x2 s0 S) (fun q => tkF S0 q) := by
  unfold fJ_X8_signToken_J116
  refine Ep_ite (fun _ => ?_) (fun _ => ?_)
  · refine Ep_ite (fun _ => ?_) (fun _ => ?_)
    · exact tfJ_X8_signToken_J135 x2 s0 S hS
    · exact tfJ_X8_signToken_J125 x2 s0 S hS
  · exact tfJ_X8_signToken_J125 x2 s0 S hS
set_option maxHeartbeats 1000000 in
set_option maxRecDepth 100000 in
theorem tfJ_X8_signToken_J115 {S0 : Tr} (x2 : Int32) (S : Tr) (hS : tkF S0 S)   : Ep (fJ_X8_signToken_J115 x2 S) (fun q => tkF S0 q) := by
  unfold fJ_X8_signToken_J115
  exact tfJ_X8_signToken_J116 x2 0 S hS
set_option maxHeartbeats 1000000 in
set_option maxRecDepth 100000 in
theorem tfJ_X8_signToken_J95 {S0 : Tr} (x1 : Int32) (s0 : Int32) (S : Tr) (hS : tkF S0 S)   : Ep (fJ_X8_signToken_J95 x1 s0 S) (fun q => tkF S0 q) := by
  unfold fJ_X8_signToken_J95
  refine Ep_ite (fun _ => ?_) (fun _ => ?_)
  · refine Ep_ite (fun _ => ?_) (fun _ => ?_)
    · exact tfJ_X8_signToken_J116 s0 1 S hS
    · exact tfJ_X8_signToken_J115 s0 S hS
  · exact tfJ_X8_signToken_J115 s0 S hS
set_option maxHeartbeats 1000000 in
set_option maxRecDepth 100000 in
theorem tfJ_X8_signToken_J94 {S0 : Tr} (x1 : Int32) (S : Tr) (hS : tkF S0 S)   : Ep (fJ_X8_signToken_J94 x1 S) (fun q => tkF S0 q) := by
  unfold fJ_X8_signToken_J94
  exact tfJ_X8_signToken_J95 x1 0 S hS
set_option maxHeartbeats 1000000 in
set_option maxRecDepth 100000 in
theorem tfJ_X8_signToken_J74 {S0 : Tr} (s0 : Int32) (S : Tr) (hS : tkF S0 S)   : Ep (fJ_X8_signToken_J74 s0 S) (fun q => tkF S0 q) := by
  unfold fJ_X8_signToken_J74
  refine Ep_ite (fun _ => ?_) (fun _ => ?_)
  · exact tfJ_X8_signToken_J94 s0 S hS
  · refine Ep_ite (fun _ => ?_) (fun _ => ?_)
    · exact tfJ_X8_signToken_J95 s0 1 S hS
    · exact tfJ_X8_signToken_J94 s0 S hS
set_option maxHeartbeats 1000000 in
set_option maxRecDepth 100000 in
theorem tfJ_X8_signToken_J50 {S0 : Tr} (S : Tr) (hS : tkF S0 S)   : Ep (fJ_X8_signToken_J50 S) (fun q => tkF S0 q) := by
  unfold fJ_X8_signToken_J50
  refine Ep_ite (fun _ => ?_) (fun _ => ?_)
  · exact tfJ_X8_signToken_J74 0 S hS
  · refine Ep_ck ?_
    exact tfJ_X8_signToken_J74 (S 1 (S 0 7).toNatClampNeg) S hS
set_option maxHeartbeats 1000000 in
set_option maxRecDepth 100000 in
theorem tfJ_X8_signToken_J287 {S0 : Tr} (s0 : Int32) (S : Tr) (hS : tkF S0 S)   : Ep (fJ_X8_signToken_J287 s0 S) (fun q => tkF S0 q) := by
  unfold fJ_X8_signToken_J287
  refine Ep_lt (fun S_25 eS_25 => ?_)
  have hS_25 : tkF S0 S_25 := by rw [eS_25]; exact tkF_s hS (by omega)
  exact Ep_some hS_25
set_option maxHeartbeats 1000000 in
set_option maxRecDepth 100000 in
theorem tfJ_X8_signToken_J275 {S0 : Tr} (s0 : Int32) (S : Tr) (hS : tkF S0 S)   : Ep (fJ_X8_signToken_J275 s0 S) (fun q => tkF S0 q) := by
  unfold fJ_X8_signToken_J275
  refine Ep_ite (fun _ => ?_) (fun _ => ?_)
  · exact tfJ_X8_signToken_J287 6 S hS
  · exact tfJ_X8_signToken_J287 4 S hS
set_option maxHeartbeats 1000000 in
set_option maxRecDepth 100000 in
theorem tfJ_X8_signToken_J270 {S0 : Tr} (S : Tr) (hS : tkF S0 S)   : Ep (fJ_X8_signToken_J270 S) (fun q => tkF S0 q) := by
  unfold fJ_X8_signToken_J270
  exact tfJ_X8_signToken_J275 1 S hS
set_option maxHeartbeats 1000000 in
set_option maxRecDepth 100000 in
theorem tf_X8_signToken {S0 : Tr} (S : Tr) (hS : tkF S0 S)   : Ep (f_X8_signToken S) (fun q => tkF S0 q) := by
  unfold f_X8_signToken
  refine Ep_ck ?_
  refine Ep_lt (fun S_2 eS_2 => ?_)
  have hS_2 : tkF S0 S_2 := by rw [eS_2]; exact tkF_s hS (by omega)
  refine Ep_lt (fun S_3 eS_3 => ?_)
  have hS_3 : tkF S0 S_3 := by rw [eS_3]; exact tkF_s hS_2 (by omega)
  refine Ep_ite (fun _ => ?_) (fun _ => ?_)
  · exact tfJ_X8_signToken_J50 S_3 hS_3
  · refine Ep_ite (fun _ => ?_) (fun _ => ?_)
    · exact tfJ_X8_signToken_J50 S_3 hS_3
    · refine Ep_ite (fun _ => ?_) (fun _ => ?_)
      · exact tfJ_X8_signToken_J50 S_3 hS_3
      · refine Ep_ite (fun _ => ?_) (fun _ => ?_)
        · exact tfJ_X8_signToken_J270 S_3 hS_3
        · refine Ep_ite (fun _ => ?_) (fun _ => ?_)
          · exact tfJ_X8_signToken_J270 S_3 hS_3
          · refine Ep_ite (fun _ => ?_) (fun _ => ?_)
            · exact tfJ_X8_signToken_J270 S_3 hS_3
            · refine Ep_ite (fun _ => ?_) (fun _ => ?_)
              · exact tfJ_X8_signToken_J270 S_3 hS_3
              · refine Ep_ite (fun _ => ?_) (fun _ => ?_)
                · exact tfJ_X8_signToken_J270 S_3 hS_3
                · refine Ep_ite (fun _ => ?_) (fun _ => ?_)
                  · exact tfJ_X8_signToken_J270 S_3 hS_3
                  · refine Ep_ite (fun _ => ?_) (fun _ => ?_)
                    · exact tfJ_X8_signToken_J270 S_3 hS_3
                    · refine Ep_ite (fun _ => ?_) (fun _ => ?_)
                      · exact tfJ_X8_signToken_J270 S_3 hS_3
                      · exact tfJ_X8_signToken_J275 0 S_3 hS_3
set_option maxHeartbeats 1000000 in
set_option maxRecDepth 100000 in
theorem tfJ_X8_token_J261 {S0 : Tr} (k213 : Tr → Option (Tr)) (s0 : Int32) (S : Tr) (hS : tkF S0 S) (hk213 : ∀ (S : Tr), tkF S0 S → Ep (k213 S) (fun q => tkF S0 q))  : Ep (fJ_X8_token_J261 k213 s0 S) (fun q => tkF S0 q) := by
  unfold fJ_X8_token_J261
  refine Ep_lt (fun S_23 eS_23 => ?_)
  have hS_23 : tkF S0 S_23 := by rw [eS_23]; exact tkF_s hS (by omega)
  refine Ep_lt (fun S_24 eS_24 => ?_)
  have hS_24 : tkF S0 S_24 := by rw [eS_24]; exact tkF_s hS_23 (by omega)
  exact hk213 S_24 hS_24
set_option maxHeartbeats 1000000 in
set_option maxRecDepth 100000 in
theorem tfB_X8_token_L213 {S0 : Tr}     (N : Nat) : ∀ (S : Tr), tkF S0 S → Ep (lpF (fun _ => none) (fB_X8_token_L213) N S) (fun q => tkF S0 q) := by
  induction N with
  | zero => intro S _; exact Ep_none
  | succ N ih =>
    intro S hS
    show Ep (fB_X8_token_L213 (lpF (fun _ => none) (fB_X8_token_L213) N) S) _
    have hk213 := ih
    clear ih
    generalize lpF (fun _ => none) (fB_X8_token_L213) N = k213 at hk213 ⊢
    unfold fB_X8_token_L213
    refine Ep_any (fun r17 => ?_)
    refine Ep_ite (fun _ => ?_) (fun _ => ?_)
    · exact Ep_some hS
    · refine Ep_ite (fun _ => ?_) (fun _ => ?_)
      · refine Ep_ck ?_
        exact tfJ_X8_token_J261 k213 ((((10 : Int32) * (S 0 9)) + (S 1 (S 0 7).toNatClampNeg)) - 48) S hS hk213
      · exact tfJ_X8_token_J261 k213 (S 0 9) S hS hk213
set_option maxHeartbeats 1000000 in
set_option maxRecDepth 100000 in
theorem tfL_X8_token_L213 {S0 : Tr}     (S : Tr) (hS : tkF S0 S) : Ep (fL_X8_token_L213 S) (fun q => tkF S0 q) := by
  unfold fL_X8_token_L213
  exact tfB_X8_token_L213 2000 S hS
set_option maxHeartbeats 1000000 in
set_option maxRecDepth 100000 in
theorem tfJ_X8_token_J162 {S0 : Tr} (s0 : Int32) (S : Tr) (hS : tkF S0 S)   : Ep (fJ_X8_token_J162 s0 S) (fun q => tkF S0 q) := by
  unfold fJ_X8_token_J162
  refine Ep_lt (fun S_35 eS_35 => ?_)
  have hS_35 : tkF S0 S_35 := by rw [eS_35]; exact tkF_s hS (by omega)
  refine Ep_ite (fun _ => ?_) (fun _ => ?_)
  · refine Ep_any (fun r37 => ?_)
    refine Ep_lt (fun S_40 eS_40 => ?_)
    have hS_40 : tkF S0 S_40 := by rw [eS_40]; exact tkF_s hS_35 (by omega)
    exact Ep_some hS_40
  · exact Ep_some hS_35
set_option maxHeartbeats 1000000 in
set_option maxRecDepth 100000 in
theorem tfJ_X8_token_J114 {S0 : Tr} (S : Tr) (hS : tkF S0 S)   : Ep (fJ_X8_token_J114 S) (fun q => tkF S0 q) := by
  unfold fJ_X8_token_J114
  refine Ep_any (fun r29 => ?_)
  refine Ep_lt (fun S_32 eS_32 => ?_)
  have hS_32 : tkF S0 S_32 := by rw [eS_32]; exact tkF_s hS (by omega)
  refine Ep_ite (fun _ => ?_) (fun _ => ?_)
  · refine Ep_ite (fun _ => ?_) (fun _ => ?_)
    · exact tfJ_X8_token_J162 2 S_32 hS_32
    · exact tfJ_X8_token_J162 6 S_32 hS_32
  · exact tfJ_X8_token_J162 1 S_32 hS_32
set_option maxHeartbeats 1000000 in
set_option maxRecDepth 100000 in
theorem tfB_X8_token_L90 {S0 : Tr}     (N : Nat) : ∀ (S : Tr), tkF S0 S → Ep (lpF (fun _ => none) (fB_X8_token_L90) N S) (fun q => tkF S0 q) := by
  induction N with
  | zero => intro S _; exact Ep_none
  | succ N ih =>
    intro S hS
    show Ep (fB_X8_token_L90 (lpF (fun _ => none) (fB_X8_token_L90) N) S) _
    have hk90 := ih
    clear ih
    generalize lpF (fun _ => none) (fB_X8_token_L90) N = k90 at hk90 ⊢
    unfold fB_X8_token_L90
    refine Ep_any (fun r25 => ?_)
    refine Ep_ite (fun _ => ?_) (fun _ => ?_)
    · exact tfJ_X8_token_J114 S hS
    · refine Ep_lt (fun S_41 eS_41 => ?_)
      have hS_41 : tkF S0 S_41 := by rw [eS_41]; exact tkF_s hS (by omega)
      exact hk90 S_41 hS_41
set_option maxHeartbeats 1000000 in
set_option maxRecDepth 100000 in
theorem tfL_X8_token_L90 {S0 : Tr}     (S : Tr) (hS : tkF S0 S) : Ep (fL_X8_token_L90 S) (fun q => tkF S0 q) := by
  unfold fL_X8_token_L90
  exact tfB_X8_token_L90 2000 S hS
set_option maxHeartbeats 1000000 in
set_option maxRecDepth 100000 in
theorem tfJ_X8_token_J52 {S0 : Tr} (S : Tr) (hS : tkF S0 S)   : Ep (fJ_X8_token_J52 S) (fun q => tkF S0 q) := by
  unfold fJ_X8_token_J52
  refine Ep_lt (fun S_2 eS_2 => ?_)
  have hS_2 : tkF S0 S_2 := by rw [eS_2]; exact tkF_s hS (by omega)
  refine Ep_ite (fun _ => ?_) (fun _ => ?_)
  · refine Ep_lt (fun S_42 eS_42 => ?_)
    have hS_42 : tkF S0 S_42 := by rw [eS_42]; exact tkF_s hS_2 (by omega)
    exact Ep_some hS_42
  · refine Ep_any (fun r4 => ?_)
    refine Ep_ite (fun _ => ?_) (fun _ => ?_)
    · refine Ep_any (fun r8 => ?_)
      refine Ep_ite (fun _ => ?_) (fun _ => ?_)
      · refine Ep_bd (tf_X8_signToken S_2 hS_2) (fun S_12 hS_12 => ?_)
        exact Ep_some hS_12
      · refine Ep_lt (fun S_15 eS_15 => ?_)
        have hS_15 : tkF S0 S_15 := by rw [eS_15]; exact tkF_s hS_2 (by omega)
        refine Ep_lt (fun S_16 eS_16 => ?_)
        have hS_16 : tkF S0 S_16 := by rw [eS_16]; exact tkF_s hS_15 (by omega)
        exact tfL_X8_token_L213 S_16 hS_16
    · exact tfL_X8_token_L90 S_2 hS_2
set_option maxHeartbeats 1000000 in
set_option maxRecDepth 100000 in
theorem tfJ_X8_token_J39 {S0 : Tr} (k0 : Tr → Option (Tr)) (S : Tr) (hS : tkF S0 S) (hk0 : ∀ (S : Tr), tkF S0 S → Ep (k0 S) (fun q => tkF S0 q))  : Ep (fJ_X8_token_J39 k0 S) (fun q => tkF S0 q) := by
  unfold fJ_X8_token_J39
  refine Ep_lt (fun S_45 eS_45 => ?_)
  have hS_45 : tkF S0 S_45 := by rw [eS_45]; exact tkF_s hS (by omega)
  exact hk0 S_45 hS_45
set_option maxHeartbeats 1000000 in
set_option maxRecDepth 100000 in
theorem tfB_X8_token_L0 {S0 : Tr}     (N : Nat) : ∀ (S : Tr), tkF S0 S → Ep (lpF (fun _ => none) (fB_X8_token_L0) N S) (fun q => tkF S0 q) := by
  induction N with
  | zero => intro S _; exact Ep_none
  | succ N ih =>
    intro S hS
    show Ep (fB_X8_token_L0 (lpF (fun _ => none) (fB_X8_token_L0) N) S) _
    have hk0 := ih
    clear ih
    generalize lpF (fun _ => none) (fB_X8_token_L0) N = k0 at hk0 ⊢
    unfold fB_X8_token_L0
    refine Ep_ite (fun _ => ?_) (fun _ => ?_)
    · exact tfJ_X8_token_J52 S hS
    · refine Ep_ck ?_
      refine Ep_ite (fun _ => ?_) (fun _ => ?_)
      · exact tfJ_X8_token_J39 k0 S hS hk0
      · refine Ep_ite (fun _ => ?_) (fun _ => ?_)
        · exact tfJ_X8_token_J39 k0 S hS hk0
        · exact tfJ_X8_token_J52 S hS
set_option maxHeartbeats 1000000 in
set_option maxRecDepth 100000 in
theorem tfL_X8_token_L0 {S0 : Tr}     (S : Tr) (hS : tkF S0 S) : Ep (fL_X8_token_L0 S) (fun q => tkF S0 q) := by
  unfold fL_X8_token_L0
  exact tfB_X8_token_L0 2000 S hS
set_option maxHeartbeats 1000000 in
set_option maxRecDepth 100000 in
theorem tf_X8_token {S0 : Tr} (S : Tr) (hS : tkF S0 S)   : Ep (f_X8_token S) (fun q => tkF S0 q) := by
  unfold f_X8_token
  exact tfL_X8_token_L0 S hS
/-- a number in its range -/
theorem rg_num (S : Tr) (x1 x2 : Int32) : Ep (f_X8_number S x1 x2) (fun q => (q.1 = 0 ∨ (x1.toInt ≤ (q.2 0 11).toInt ∧ (q.2 0 11).toInt ≤ x2.toInt)) ∧ rgF S q.2) := by
  refine Ep_and ?_ (rf_X8_number S x1 x2 rgF_r)
  have wr : ∀ (S1 : Tr) (v : Int32), Ep (f_X8_wrong S1 v) (fun q => q.1 = 0) := fun S1 v => by
    unfold f_X8_wrong
    exact Ep_lt (fun _ _ => Ep_lt (fun _ _ => Ep_some rfl))
  unfold f_X8_number
  refine Ep_ite (fun _ => ?_) (fun _ => Ep_bd (wr S 1) (fun q hq => Ep_lt (fun r15 e15 => Ep_lt (fun S16 _ => Ep_ck (Ep_some (Or.inl (e15.trans hq)))))))
  have iq : Ep (f_X8_isIn (S 0 9) x1 x2) (fun r => r = 0 ∨ (x1.toInt ≤ (S 0 9).toInt ∧ (S 0 9).toInt ≤ x2.toInt)) := by
    unfold f_X8_isIn
    refine Ep_ite (fun _ => Ep_some (Or.inl rfl)) (fun c => Ep_ite (fun _ => Ep_some (Or.inl rfl)) (fun d => Ep_some (Or.inr ⟨?_, ?_⟩)))
    · exact tq_ltn (x := S 0 9) (y := x1) rfl rfl c
    · exact tq_ltn (x := x2) (y := S 0 9) rfl rfl d
  refine Ep_bd iq (fun r hr => Ep_ite (fun _ => Ep_bd (wr S 2) (fun q hq => Ep_lt (fun r10 e10 => Ep_lt (fun S11 _ => Ep_ck (Ep_some (Or.inl (e10.trans hq))))))) (fun n => Ep_lt (fun S6 e6 => Ep_bd (tf_X8_token S6 tkF_r) (fun S7 h7 => Ep_some (Or.inr ?_)))))
  have e : S7 0 11 = S 0 9 := by rw [h7 0 11 (by omega), e6, st_same]
  show x1.toInt ≤ (S7 0 11).toInt ∧ (S7 0 11).toInt ≤ x2.toInt
  rw [e]
  exact hr.resolve_left n
/-- the ranges of what has been read -/
def rg (S : Tr) : Prop := ((0 ≤ (S 0 16).toInt ∧ (S 0 16).toInt ≤ 5) ∧ (0 ≤ (S 0 17).toInt ∧ (S 0 17).toInt ≤ 6) ∧ (0 ≤ (S 0 18).toInt ∧ (S 0 18).toInt ≤ 10)) ∧ (∀ p : Nat, (p : Int) < (S 0 16).toInt → 0 ≤ (S 24 (5 + p)).toInt) ∧ (∀ p : Nat, (p : Int) < (S 0 17).toInt → 0 ≤ (S 27 (6 + p)).toInt ∧ (S 27 (6 + p)).toInt ≤ 19) ∧ (∀ i : Nat, (i : Int) < (S 0 18).toInt → 1 ≤ (S 31 (10 + i)).toInt ∧ (S 31 (10 + i)).toInt ≤ 99 ∧ (S 33 (10 + i)).toInt < (S 0 16).toInt) ∧ 0 ≤ (S 23 3).toInt ∧ (S 23 3).toInt ≤ 2 ∧ 0 ≤ (S 23 5).toInt
theorem rg_f {S S1 : Tr} (h : rg S) (f : rgF S S1) : rg S1 := by
  obtain ⟨h1, h2, h3, h4, h5⟩ := h
  have e16 := f 0 16 (by omega)
  have e17 := f 0 17 (by omega)
  have e18 := f 0 18 (by omega)
  unfold rg
  rw [e16, e17, e18, f 23 3 (by omega), f 23 5 (by omega)]
  exact ⟨h1, fun p hp => by rw [f 24 _ (by omega)]; exact h2 p hp, fun p hp => by rw [f 27 _ (by omega)]; exact h3 p hp, fun i hi => by rw [f 31 _ (by omega), f 33 _ (by omega)]; exact h4 i hi, h5⟩
theorem rgF_t {S T U : Tr} (h1 : rgF S T) (h2 : rgF T U) : rgF S U := fun a j h => (h2 a j h).trans (h1 a j h)
theorem rg_wr (S1 : Tr) (v : Int32) : Ep (f_X8_wrong S1 v) (fun q => q.1 = 0) := by
  unfold f_X8_wrong
  exact Ep_lt (fun _ _ => Ep_lt (fun _ _ => Ep_some rfl))
theorem rg_pl {S : Tr} (h : rg S) : Ep (f_X8_placeLine S) (fun q => q.1 = 0 ∨ rg q.2) := by
  obtain ⟨n, hn⟩ : ∃ n : Nat, (S 0 16).toInt = n := ⟨(S 0 16).toInt.toNat, by have := h.1.1; omega⟩
  have b := h.1
  have j44 : ∀ S1 : Tr, Ep (fJ_X8_placeLine_J44 S1) (fun q => q.1 = 0 ∨ rg q.2) := fun S1 => by
    unfold fJ_X8_placeLine_J44
    exact Ep_bd (rg_wr S1 1) (fun q hq => Ep_lt (fun r e => Ep_lt (fun _ _ => Ep_ck (Ep_some (Or.inl (e.trans hq))))))
  unfold f_X8_placeLine
  refine Ep_ite (fun _ => Ep_bd (rg_wr S 2) (fun q hq => Ep_lt (fun r e => Ep_lt (fun _ _ => Ep_ck (Ep_some (Or.inl (e.trans hq))))))) (fun c => ?_)
  have n5 : n < 5 := by
    by_cases g : n = 5
    · exact absurd (Int32.toInt_inj.mp (by rw [hn, g]; decide)) c
    · omega
  refine Ep_bd (rf_X8_token S rgF_r) (fun S2 f2 => Ep_ite (fun _ => Ep_ite (fun _ => j44 S2) (fun d => Ep_ite (fun d2 => Ep_ck (Ep_lt (fun S14 e14 => ?_))) (fun _ => j44 S2))) (fun _ => j44 S2))
  have d := tq_ltn (x := S2 0 9) (y := 8) (b := 8) rfl (by decide) d
  have d2 := tq_le (x := S2 0 9) (y := 12) (b := 12) rfl (by decide) d2
  have n2 : (S2 0 16).toInt = n := by rw [f2 0 16 (by omega)]; exact hn
  rw [jh (by decide : (5 : Int32).toInt = ((5 : Nat) : Int)) n2 (by omega)] at e14
  have v : (S2 0 9 - 8).toInt = (S2 0 9).toInt - 8 := i_subK rfl (by decide) (by omega) (by omega)
  refine Ep_bd (rf_X8_token S14 rgF_r) (fun S15 f15 => Ep_bd (rg_num S15 0 999) (fun q hq => Ep_lt (fun r18 e18 => Ep_lt (fun S19 e19 => Ep_ite (fun c => Ep_some (Or.inl rfl)) (fun _ => Ep_ck (Ep_lt (fun S24 e24 => Ep_lt (fun S25 e25 => Ep_some (Or.inr ?_)))))))))
  have f19 : rgF S14 S19 := by rw [e19]; exact rgF_t f15 hq.2
  have g : ∀ a j, ((a = 0 ∧ 17 ≤ j ∧ j ≤ 18) ∨ a = 23 ∨ (a = 24 ∧ ¬ j = 5 + n) ∨ a = 27 ∨ a = 31 ∨ a = 33) → S25 a j = S a j := fun a j hc => by rw [e25, st_no (by omega), e24, st_no (by omega), f19 a j (by omega), e14, st_no (by omega), f2 a j (by omega)]
  have g16 : S25 0 16 = S2 0 16 + 1 := by rw [e25, st_same, e24, st_oth (by decide), f19 0 16 (by omega), e14, st_oth (by decide)]
  have m16 : (S25 0 16).toInt = (n : Int) + 1 := by rw [g16]; exact i_addK n2 (by decide) (by omega) (by omega)
  have g24 : S25 24 (5 + n) = S2 0 9 - 8 := by rw [e25, st_oth (by decide), e24, st_oth (by decide), f19 24 _ (by omega), e14, st_same]
  obtain ⟨h1, h2, h3, h4, h5⟩ := h
  show rg S25
  unfold rg
  rw [m16, g 0 17 (by omega), g 0 18 (by omega), g 23 3 (by omega), g 23 5 (by omega)]
  refine ⟨⟨by omega, h1.2.1, h1.2.2⟩, fun p hp => ?_, fun p hp => by rw [g 27 _ (by omega)]; exact h3 p hp, fun i hi => ?_, h5⟩
  · by_cases e : p = n
    · subst e; rw [g24, v]; omega
    · rw [g 24 _ (by omega)]; exact h2 p (by omega)
  · rw [g 31 _ (by omega), g 33 _ (by omega)]
    have := h4 i hi
    omega
theorem rg_pe {S : Tr} (h : rg S) : Ep (f_X8_personLine S) (fun q => q.1 = 0 ∨ rg q.2) := by
  obtain ⟨n, hn⟩ : ∃ n : Nat, (S 0 17).toInt = n := ⟨(S 0 17).toInt.toNat, by have := h.1.2.1; omega⟩
  have b := h.1
  have bad : ∀ (S1 : Tr) (v : Int32), Ep (bd (f_X8_wrong S1 v) fun q => lt q.1 fun r45 => lt q.2 fun S_46 => ck (okB r45) (some (r45, S_46))) (fun q => q.1 = 0 ∨ rg q.2) := fun S1 v => Ep_bd (rg_wr S1 v) (fun q hq => Ep_lt (fun r e => Ep_lt (fun _ _ => Ep_ck (Ep_some (Or.inl (e.trans hq))))))
  unfold f_X8_personLine
  refine Ep_ite (fun _ => bad S 2) (fun c => ?_)
  have n6 : n < 6 := by
    by_cases g : n = 6
    · exact absurd (Int32.toInt_inj.mp (by rw [hn, g]; decide)) c
    · omega
  refine Ep_bd (rf_X8_token S rgF_r) (fun S2 f2 => Ep_ite (fun _ => Ep_any (fun r6 => Ep_ite (fun _ => Ep_lt (fun y10 ey => Ep_ck (Ep_lt (fun S12 e12 => ?_)))) (fun _ => bad S2 3))) (fun _ => bad S2 1))
  have n2 : (S2 0 17).toInt = n := by rw [f2 0 17 (by omega)]; exact hn
  have y : y10.toNatClampNeg = 6 + n := by rw [ey]; exact jh (by decide) n2 (by omega)
  rw [y] at e12 ⊢
  refine Ep_bd (rf_X8_token S12 rgF_r) (fun S13 f13 => Ep_bd (rg_num S13 0 19) (fun q hq => Ep_lt (fun r16 e16 => Ep_lt (fun S17 e17 => Ep_ite (fun c => Ep_some (Or.inl rfl)) (fun c => Ep_lt (fun S21 e21 => ?_))))))
  have q1 := hq.1.resolve_left (fun e => c (e16.trans e))
  rw [← e17, show (0 : Int32).toInt = 0 by decide, show (19 : Int32).toInt = 19 by decide] at q1
  have f17 : rgF S12 S17 := by rw [e17]; exact rgF_t f13 hq.2
  refine Ep_bd (rg_num S21 _ 20) (fun q hq => Ep_lt (fun r22 e22 => Ep_lt (fun S23 e23 => Ep_ite (fun c => Ep_some (Or.inl rfl)) (fun c => Ep_lt (fun S27 e27 => ?_)))))
  have f23 : rgF S21 S23 := by rw [e23]; exact hq.2
  refine Ep_bd (rg_num S27 1 99) (fun q hq => Ep_lt (fun r28 e28 => Ep_lt (fun S29 e29 => Ep_ite (fun c => Ep_some (Or.inl rfl)) (fun c => Ep_lt (fun S33 e33 => Ep_lt (fun S34 e34 => Ep_some (Or.inr ?_)))))))
  have f29 : rgF S27 S29 := by rw [e29]; exact hq.2
  have g : ∀ a j, ((a = 0 ∧ (j = 16 ∨ j = 18)) ∨ a = 23 ∨ a = 24 ∨ (a = 27 ∧ ¬ j = 6 + n) ∨ a = 31 ∨ a = 33) → S34 a j = S a j := fun a j hc => by rw [e34, st_no (by omega), e33, st_no (by omega), f29 a j (by omega), e27, st_no (by omega), f23 a j (by omega), e21, st_no (by omega), f17 a j (by omega), e12, st_no (by omega), f2 a j (by omega)]
  have g17 : S34 0 17 = S2 0 17 + 1 := by rw [e34, st_same, e33, st_oth (by decide), f29 0 17 (by omega), e27, st_oth (by decide), f23 0 17 (by omega), e21, st_oth (by decide), f17 0 17 (by omega), e12, st_oth (by decide)]
  have m17 : (S34 0 17).toInt = (n : Int) + 1 := by rw [g17]; exact i_addK n2 (by decide) (by omega) (by omega)
  have g27 : S34 27 (6 + n) = S17 0 11 := by rw [e34, st_oth (by decide), e33, st_oth (by decide), f29 27 _ (by omega), e27, st_oth (by decide), f23 27 _ (by omega), e21, st_same]
  obtain ⟨h1, h2, h3, h4, h5⟩ := h
  show rg S34
  unfold rg
  rw [m17, g 0 16 (by omega), g 0 18 (by omega), g 23 3 (by omega), g 23 5 (by omega)]
  refine ⟨⟨h1.1, by omega, h1.2.2⟩, fun p hp => by rw [g 24 _ (by omega)]; exact h2 p hp, fun p hp => ?_, fun i hi => by rw [g 31 _ (by omega), g 33 _ (by omega)]; exact h4 i hi, h5⟩
  by_cases e : p = n
  · subst e; rw [g27]; exact q1
  · rw [g 27 _ (by omega)]; exact h3 p (by omega)
theorem rg_pi {S : Tr} (h : rg S) : Ep (f_X8_pieceLine S) (fun q => q.1 = 0 ∨ rg q.2) := by
  obtain ⟨n, hn⟩ : ∃ n : Nat, (S 0 18).toInt = n := ⟨(S 0 18).toInt.toNat, by have := h.1.2.2; omega⟩
  have b := h.1
  have bad : ∀ (S1 : Tr) (v : Int32), Ep (bd (f_X8_wrong S1 v) fun q => lt q.1 fun r45 => lt q.2 fun S_46 => ck (okB r45) (some (r45, S_46))) (fun q => q.1 = 0 ∨ rg q.2) := fun S1 v => Ep_bd (rg_wr S1 v) (fun q hq => Ep_lt (fun r e => Ep_lt (fun _ _ => Ep_ck (Ep_some (Or.inl (e.trans hq))))))
  unfold f_X8_pieceLine
  refine Ep_ite (fun _ => bad S 2) (fun c => ?_)
  have n10 : n < 10 := by
    by_cases g : n = 10
    · exact absurd (Int32.toInt_inj.mp (by rw [hn, g]; decide)) c
    · omega
  refine Ep_bd (rf_X8_token S rgF_r) (fun S2 f2 => Ep_ite (fun _ => Ep_any (fun r6 => Ep_ite (fun _ => Ep_lt (fun y10 ey => Ep_ck (Ep_lt (fun S12 e12 => ?_)))) (fun _ => bad S2 4))) (fun _ => bad S2 1))
  have n2 : (S2 0 18).toInt = n := by rw [f2 0 18 (by omega)]; exact hn
  have y : y10.toNatClampNeg = 10 + n := by rw [ey]; exact jh (by decide) n2 (by omega)
  rw [y] at e12 ⊢
  refine Ep_bd (rf_X8_token S12 rgF_r) (fun S13 f13 => Ep_bd (rg_num S13 1 99) (fun q hq => Ep_lt (fun r16 e16 => Ep_lt (fun S17 e17 => Ep_ite (fun c => Ep_some (Or.inl rfl)) (fun c => Ep_lt (fun S21 e21 => ?_))))))
  have q1 := hq.1.resolve_left (fun e => c (e16.trans e))
  rw [← e17, show (1 : Int32).toInt = 1 by decide, show (99 : Int32).toInt = 99 by decide] at q1
  have f17 : rgF S12 S17 := by rw [e17]; exact rgF_t f13 hq.2
  refine Ep_bd (rg_num S21 0 9) (fun q hq => Ep_lt (fun r22 e22 => Ep_lt (fun S23 e23 => Ep_ite (fun c => Ep_some (Or.inl rfl)) (fun c => Ep_lt (fun S27 e27 => Ep_lt (fun S28 e28 => ?_))))))
  have f23 : rgF S21 S23 := by rw [e23]; exact hq.2
  obtain ⟨h1, h2, h3, h4, h5⟩ := h
  have g28 : ∀ a j, ((a = 0 ∧ 16 ≤ j ∧ j ≤ 18) ∨ a = 23 ∨ a = 24 ∨ a = 27 ∨ (a = 31 ∧ ¬ j = 10 + n) ∨ (a = 33 ∧ ¬ j = 10 + n)) → S28 a j = S a j := fun a j hc => by rw [e28, st_no (by omega), e27, st_no (by omega), f23 a j (by omega), e21, st_no (by omega), f17 a j (by omega), e12, st_no (by omega), f2 a j (by omega)]
  have g31 : S28 31 (10 + n) = S17 0 11 := by rw [e28, st_oth (by decide), e27, st_oth (by decide), f23 31 _ (by omega), e21, st_same]
  have fin : ∀ S29 : Tr, (∀ a j, ((a = 0 ∧ 16 ≤ j ∧ j ≤ 18) ∨ a = 23 ∨ a = 24 ∨ a = 27 ∨ a = 31 ∨ (a = 33 ∧ ¬ j = 10 + n)) → S29 a j = S28 a j) → (S29 33 (10 + n)).toInt < (S 0 16).toInt → Ep (fJ_X8_pieceLine_J170 S29) (fun q => q.1 = 0 ∨ rg q.2) := fun S29 f29 w => by
    unfold fJ_X8_pieceLine_J170
    refine Ep_lt (fun S30 e30 => Ep_some (Or.inr ?_))
    have g : ∀ a j, ((a = 0 ∧ 16 ≤ j ∧ j ≤ 17) ∨ a = 23 ∨ a = 24 ∨ a = 27 ∨ (a = 31 ∧ ¬ j = 10 + n) ∨ (a = 33 ∧ ¬ j = 10 + n)) → S30 a j = S a j := fun a j hc => by rw [e30, st_no (by omega), f29 a j (by omega), g28 a j (by omega)]
    have m18 : (S30 0 18).toInt = (n : Int) + 1 := by
      rw [e30, st_same, f29 0 18 (by omega), g28 0 18 (by omega)]
      exact i_addK hn (by decide) (by omega) (by omega)
    show rg S30
    unfold rg
    rw [m18, g 0 16 (by omega), g 0 17 (by omega), g 23 3 (by omega), g 23 5 (by omega)]
    refine ⟨⟨h1.1, h1.2.1, by omega⟩, fun p hp => by rw [g 24 _ (by omega)]; exact h2 p hp, fun p hp => by rw [g 27 _ (by omega)]; exact h3 p hp, fun i hi => ?_, h5⟩
    by_cases e : i = n
    · subst e
      rw [e30, st_oth (by decide), st_oth (by decide), f29 31 _ (by omega), g31]
      exact ⟨q1.1, q1.2, w⟩
    · rw [g 31 _ (by omega), g 33 _ (by omega)]; exact h4 i (by omega)
  refine Ep_ite (fun _ => Ep_ite (fun d => Ep_lt (fun S32 e32 => Ep_bd (rf_X8_token S32 rgF_r) (fun S33 f33 => fin S33 (fun a j hc => by rw [f33 a j (by omega), e32, st_no (by omega)]) ?_))) (fun _ => bad S28 4)) (fun _ => fin S28 (fun _ _ _ => rfl) ?_)
  · have d := Int32.lt_iff_toInt_lt.mp d
    rw [g28 0 16 (by omega)] at d
    rw [f33 33 _ (by omega), e32, st_same]
    exact d
  · rw [e28, st_same, show (-1 : Int32).toInt = -1 by decide]
    omega
theorem rg_343 {S : Tr} {r : Int32} (h : r = 0 ∨ rg S) : Ep (fJ_X8_lineRead_J343 r S) (fun q => q.1 = 0 ∨ rg q.2) := by
  unfold fJ_X8_lineRead_J343
  refine Ep_ite (fun _ => Ep_some (Or.inl rfl)) (fun n => Ep_any (fun r15 => Ep_ite (fun _ => Ep_bd (rg_wr S 1) (fun q hq => Ep_lt (fun r e => Ep_lt (fun _ _ => Ep_ck (Ep_some (Or.inl (e.trans hq))))))) (fun _ => Ep_bd (rf_X8_token S rgF_r) (fun S19 f19 => Ep_some (Or.inr (rg_f (h.resolve_left n) f19))))))
theorem rg_line {S : Tr} (h : rg S) : Ep (f_X8_lineRead S) (fun q => q.1 = 0 ∨ rg q.2) := by
  have bad : ∀ (S1 : Tr) (v : Int32), Ep (bd (f_X8_wrong S1 v) fun q => lt q.1 fun r45 => lt q.2 fun S_46 => ck (okB r45) (some (r45, S_46))) (fun q => q.1 = 0 ∨ rg q.2) := fun S1 v => Ep_bd (rg_wr S1 v) (fun q hq => Ep_lt (fun r e => Ep_lt (fun _ _ => Ep_ck (Ep_some (Or.inl (e.trans hq))))))
  have j17 : ∀ S1 : Tr, Ep (fJ_X8_lineRead_J17 S1) (fun q => q.1 = 0 ∨ rg q.2) := fun S1 => by unfold fJ_X8_lineRead_J17; exact bad S1 1
  have j136 : ∀ S1 : Tr, Ep (fJ_X8_lineRead_J136 S1) (fun q => q.1 = 0 ∨ rg q.2) := fun S1 => by unfold fJ_X8_lineRead_J136; exact bad S1 1
  have j276 : ∀ S1 : Tr, Ep (fJ_X8_lineRead_J276 S1) (fun q => q.1 = 0 ∨ rg q.2) := fun S1 => by unfold fJ_X8_lineRead_J276; exact bad S1 1
  have j187 : ∀ (s0 : Int32) (S1 : Tr), (s0 = 0 ∨ rg S1) → Ep (fJ_X8_lineRead_J187 s0 S1) (fun q => q.1 = 0 ∨ rg q.2) := fun s0 S1 hr => by
    unfold fJ_X8_lineRead_J187
    refine Ep_ite (fun _ => rg_343 hr) (fun n => Ep_lt (fun S67 e67 => rg_343 (Or.inr ?_)))
    have z : ∀ a j, ¬ (a = 23 ∧ j = 4) → S67 a j = S1 a j := fun a j n => by rw [e67, st_no n]
    obtain ⟨h1, h2, h3, h4, h5⟩ := hr.resolve_left n
    unfold rg
    rw [z 0 16 (by omega), z 0 17 (by omega), z 0 18 (by omega), z 23 3 (by omega), z 23 5 (by omega)]
    exact ⟨h1, fun p hp => by rw [z 24 _ (by omega)]; exact h2 p hp, fun p hp => by rw [z 27 _ (by omega)]; exact h3 p hp, fun i hi => by rw [z 31 _ (by omega), z 33 _ (by omega)]; exact h4 i hi, h5⟩
  have j228 : ∀ (s0 : Int32) (S1 : Tr), (s0 = 0 ∨ (rg S1 ∧ 0 ≤ (S1 0 11).toInt)) → Ep (fJ_X8_lineRead_J228 s0 S1) (fun q => q.1 = 0 ∨ rg q.2) := fun s0 S1 hr => by
    unfold fJ_X8_lineRead_J228
    refine Ep_ite (fun c => rg_343 (Or.inl c)) (fun n => Ep_lt (fun S67 e67 => rg_343 (Or.inr ?_)))
    have z : ∀ a j, ¬ (a = 23 ∧ j = 5) → S67 a j = S1 a j := fun a j n => by rw [e67, st_no n]
    have z5 : S67 23 5 = S1 0 11 := by rw [e67, st_same]
    obtain ⟨⟨h1, h2, h3, h4, h5⟩, h6⟩ := hr.resolve_left n
    unfold rg
    rw [z 0 16 (by omega), z 0 17 (by omega), z 0 18 (by omega), z 23 3 (by omega), z5]
    exact ⟨h1, fun p hp => by rw [z 24 _ (by omega)]; exact h2 p hp, fun p hp => by rw [z 27 _ (by omega)]; exact h3 p hp, fun i hi => by rw [z 31 _ (by omega), z 33 _ (by omega)]; exact h4 i hi, h5.1, h5.2.1, h6⟩
  unfold f_X8_lineRead
  refine Ep_ite (fun _ => Ep_ite (fun _ => Ep_lt (fun y8 _ => ?_)) (fun _ => j17 S)) (fun _ => j17 S)
  refine Ep_ite (fun _ => Ep_bd (rg_pl h) (fun q hq => Ep_lt (fun r e => Ep_lt (fun S1 e1 => rg_343 (by rw [e, e1]; exact hq))))) (fun _ => ?_)
  refine Ep_ite (fun _ => Ep_bd (rg_pe h) (fun q hq => Ep_lt (fun r e => Ep_lt (fun S1 e1 => rg_343 (by rw [e, e1]; exact hq))))) (fun _ => ?_)
  refine Ep_ite (fun _ => Ep_bd (rg_pi h) (fun q hq => Ep_lt (fun r e => Ep_lt (fun S1 e1 => rg_343 (by rw [e, e1]; exact hq))))) (fun _ => ?_)
  refine Ep_ite (fun _ => Ep_bd (rf_X8_waitLine S rgF_r) (fun q hq => Ep_lt (fun r e => Ep_lt (fun S1 e1 => rg_343 (Or.inr (by rw [e1]; exact rg_f h hq)))))) (fun _ => ?_)
  refine Ep_ite (fun _ => Ep_bd (rf_X8_isOnce S 0 rgF_r) (fun q hq => Ep_lt (fun r _ => Ep_lt (fun S44 e44 => Ep_ite (fun _ => Ep_some (Or.inl rfl)) (fun _ => Ep_ite (fun _ => Ep_ite (fun _ => j136 S44) (fun d => Ep_ite (fun d2 => Ep_lt (fun S56 e56 => Ep_bd (rf_X8_token S56 rgF_r) (fun S57 f57 => rg_343 (Or.inr (rg_f ?_ f57))))) (fun _ => j136 S44))) (fun _ => j136 S44)))))) (fun _ => ?_)
  · have d := tq_ltn (x := S44 0 9) (y := 13) (b := 13) rfl (by decide) d
    have d2 := tq_le (x := S44 0 9) (y := 15) (b := 15) rfl (by decide) d2
    have v : (S44 0 9 - 13).toInt = (S44 0 9).toInt - 13 := i_subK rfl (by decide) (by omega) (by omega)
    have h44 : rg S44 := by rw [e44]; exact rg_f h hq
    obtain ⟨h1, h2, h3, h4, h5⟩ := h44
    have z : ∀ a j, ¬ (a = 23 ∧ j = 3) → S56 a j = S44 a j := fun a j n => by rw [e56, st_no n]
    have z3 : (S56 23 3).toInt = (S44 0 9).toInt - 13 := by rw [e56, st_same]; exact v
    unfold rg
    rw [z 0 16 (by omega), z 0 17 (by omega), z 0 18 (by omega), z3, z 23 5 (by omega)]
    exact ⟨h1, fun p hp => by rw [z 24 _ (by omega)]; exact h2 p hp, fun p hp => by rw [z 27 _ (by omega)]; exact h3 p hp, fun i hi => by rw [z 31 _ (by omega), z 33 _ (by omega)]; exact h4 i hi, by omega, by omega, h5.2.2⟩
  refine Ep_ite (fun _ => Ep_bd (rf_X8_isOnce S 1 rgF_r) (fun q hq => Ep_lt (fun r _ => Ep_lt (fun S62 e62 => Ep_ite (fun _ => ?_) (fun _ => Ep_bd (rf_X8_number S62 0 99 rgF_r) (fun q2 hq2 => Ep_lt (fun r68 _ => Ep_lt (fun S69 e69 => Ep_ite (fun _ => ?_) (fun _ => j187 1 S69 (Or.inr (by rw [e69]; exact rg_f (by rw [e62]; exact rg_f h hq) hq2))))))))))) (fun _ => ?_)
  · unfold fJ_X8_lineRead_J186; exact j187 0 S62 (Or.inl rfl)
  · unfold fJ_X8_lineRead_J186; exact j187 0 S69 (Or.inl rfl)
  refine Ep_ite (fun _ => Ep_bd (rf_X8_isOnce S 2 rgF_r) (fun q hq => Ep_lt (fun r _ => Ep_lt (fun S62 e62 => Ep_ite (fun _ => ?_) (fun _ => Ep_bd (rg_num S62 0 99999) (fun q2 hq2 => Ep_lt (fun r68 e68 => Ep_lt (fun S69 e69 => Ep_ite (fun _ => ?_) (fun n68 => j228 1 S69 (Or.inr ⟨by rw [e69]; exact rg_f (by rw [e62]; exact rg_f h hq) hq2.2, by rw [e69]; exact (hq2.1.resolve_left (fun e => n68 (e68.trans e))).1⟩)))))))))) (fun _ => ?_)
  · unfold fJ_X8_lineRead_J227; exact j228 0 S62 (Or.inl rfl)
  · unfold fJ_X8_lineRead_J227; exact j228 0 S69 (Or.inl rfl)
  refine Ep_bd (rf_X8_token S rgF_r) (fun S86 f86 => Ep_ite (fun _ => Ep_ite (fun _ => j276 S86) (fun _ => Ep_ite (fun _ => Ep_lt (fun y97 _ => Ep_ck (Ep_ite (fun _ => Ep_lt (fun S100 e100 => Ep_bd (rf_X8_token S100 rgF_r) (fun S101 f101 => Ep_lt (fun S104 e104 => Ep_bd (rf_X8_sumRead S104 rgF_r) (fun q hq => Ep_lt (fun r105 _ => Ep_lt (fun S106 e106 => Ep_lt (fun S109 e109 => rg_343 (Or.inr ?_))))))))) (fun _ => bad S86 3)))) (fun _ => j276 S86))) (fun _ => j276 S86))
  refine rg_f h ?_
  have a1 : rgF S S100 := by rw [e100]; exact rgF_s f86 (by omega)
  have a2 : rgF S S104 := by rw [e104]; exact rgF_s (rgF_t a1 f101) (by omega)
  rw [e109, e106]
  exact rgF_s (rgF_t a2 hq) (by omega)
/-- the ranges of what is kept of a text -/
def rgK (S : Tr) : Prop := (∀ p : Nat, (p : Int) < (S 0 12).toInt → 0 ≤ (S 24 p).toInt) ∧ (∀ p : Nat, (p : Int) < (S 0 13).toInt → 0 ≤ (S 27 p).toInt ∧ (S 27 p).toInt ≤ 19) ∧ (∀ i : Nat, (i : Int) < (S 0 14).toInt → 1 ≤ (S 31 i).toInt ∧ (S 31 i).toInt ≤ 99 ∧ (S 33 i).toInt < (S 0 12).toInt) ∧ 0 ≤ (S 23 0).toInt ∧ (S 23 0).toInt ≤ 2 ∧ 0 ≤ (S 23 2).toInt
theorem rgK_of {T S1 : Tr} (h : rg T) (k : KT T S1) : rgK S1 := by
  obtain ⟨h1, h2, h3, h4, h5⟩ := h
  obtain ⟨k0, k23, k24, _, _, k27, _, _, _, k31, _, k33, _⟩ := k
  have z12 : S1 0 12 = T 0 16 := k0 12 (by decide) (by decide)
  have z13 : S1 0 13 = T 0 17 := k0 13 (by decide) (by decide)
  have z14 : S1 0 14 = T 0 18 := k0 14 (by decide) (by decide)
  unfold rgK
  rw [z12, z13, z14, k23 0 (by decide), k23 2 (by decide)]
  exact ⟨fun p hp => by rw [k24 p (by omega)]; exact h2 p hp, fun p hp => by rw [k27 p (by omega)]; exact h3 p hp, fun i hi => by rw [k31 i (by omega), k33 i (by omega)]; exact h4 i hi, h5⟩
theorem rg_text (S : Tr) (L : Lo) (x1 : Int32) : Ep (f_X8_text S L x1) (fun q => 0 ≤ q.1.toInt → rgK q.2.1) := by
  have lp : ∀ (N : Nat) (x2 : Int32) (S1 : Tr), rg S1 → Ep (lpF (fun _ _ => none) (fB_X8_text_L55 L) N x2 S1) (fun q => 0 ≤ q.1.toInt → rgK q.2.1) := by
    intro N
    induction N with
    | zero => intro x2 S1 _; exact Ep_none
    | succ N ih =>
      intro x2 S1 h
      show Ep (fB_X8_text_L55 L (lpF (fun _ _ => none) (fB_X8_text_L55 L) N) x2 S1) _
      generalize lpF (fun _ _ => none) (fB_X8_text_L55 L) N = k at ih ⊢
      unfold fB_X8_text_L55
      refine Ep_ite (fun _ => ?_) (fun _ => Ep_bd (rg_line h) (fun q hq => Ep_lt (fun r20 e20 => Ep_lt (fun S21 e21 => Ep_ite (fun _ => Ep_some (fun g => absurd (show (0 : Int) ≤ (-1 : Int32).toInt from g) (by decide))) (fun n => Ep_lt (fun y _ => ih y S21 (by rw [e21]; exact hq.resolve_left (fun e => n (e20.trans e)))))))))
      unfold fJ_X8_text_J77
      exact Ep_bd (k_keepText S1 L) (fun q hq => Ep_lt (fun S16 e16 => Ep_lt (fun L17 _ => Ep_some (fun _ => by show rgK S16; rw [e16]; exact rgK_of h hq))))
  unfold f_X8_text
  refine Ep_lt (fun S1 e1 => Ep_ite (fun _ => Ep_some (fun g => absurd (show (0 : Int) ≤ (-2 : Int32).toInt from g) (by decide))) (fun _ => Ep_ite (fun _ => Ep_lt (fun S4 e4 => Ep_lt (fun S5 e5 => Ep_lt (fun S6 e6 => Ep_lt (fun S7 e7 => Ep_lt (fun S8 e8 => Ep_bd (e_plain S8) (fun S9 h9 => Ep_bd (rf_X8_token S9 rgF_r) (fun S12 f12 => ?_)))))))) (fun _ => Ep_some (fun g => absurd (show (0 : Int) ≤ (-2 : Int32).toInt from g) (by decide)))))
  unfold fL_X8_text_L55
  refine lp 2000 0 S12 (rg_f ?_ f12)
  obtain ⟨_, p2, p3, _⟩ := h9
  have l0 : (0 : Int32).toInt = 0 := by decide
  unfold rg
  have p33 := (p2 0 (by omega)).2.1
  rw [p3 16 (by omega), p3 17 (by omega), p3 18 (by omega), show S9 23 3 = 0 from p33, show S9 23 5 = 0 from (p2 2 (by omega)).2.1, l0]
  exact ⟨⟨by omega, by omega, by omega⟩, fun p hp => absurd hp (by omega), fun p hp => absurd hp (by omega), fun i hi => absurd hi (by omega), by omega, by omega, by omega⟩
